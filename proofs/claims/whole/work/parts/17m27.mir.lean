section MIR
set_option maxHeartbeats 4000000 in
set_option maxRecDepth 20000 in
theorem bpX11_way_130_22 (x : XT)  (S : ST)  (r : Int32) (S' : ST) (hm : bfX11_way_130_22 x  S  = some (r, S')) : Ev mX11_way 128 0 0 22 [none, none, none, none, none, none, none, none] [] (mkS x S) (fun v h => v = some (.int r) ∧ h = mkS x S') := by
    unfold bfX11_way_130_22 at hm
    refine Ev.steps tokX11_way 1 (P := True) (pc' := 23) (lv' := [none, none, none, none, none, none, none, none]) (st' := [.int (-1)]) (h' := mkS x S) rfl trivial ?_
    cases hm
    exact Ev.reti tokX11_way rfl rfl ⟨rfl, rfl⟩
set_option maxHeartbeats 4000000 in
set_option maxRecDepth 20000 in
theorem bpX11_way_130_92 (x : XT)  (S : ST) (t0 : Int32) (r : Int32) (S' : ST) (hm : bfX11_way_130_92 x  S t0 = some (r, S')) : Ev mX11_way 128 0 0 92 [none, none, none, none, none, none, none, none] [.int t0] (mkS x S) (fun v h => v = some (.int r) ∧ h = mkS x S') := by
    unfold bfX11_way_130_92 at hm
    cases hm
    exact Ev.reti tokX11_way rfl rfl ⟨rfl, rfl⟩
set_option maxHeartbeats 4000000 in
set_option maxRecDepth 20000 in
theorem bpX11_way_130_75 (x : XT)  (S : ST) (v4 : Int32) (v5 : Int32) (r : Int32) (S' : ST) (hm : bfX11_way_130_75 x  S v4 v5 = some (r, S')) : Ev mX11_way 128 0 0 75 [some (.ref 130), none, none, none, some (.int v4), some (.int v5), none, none] [] (mkS x S) (fun v h => v = some (.int r) ∧ h = mkS x S') := by
    unfold bfX11_way_130_75 at hm
    refine Ev.steps tokX11_way 3 (P := True) (pc' := if ¬ v4 = (-1) then 91 else 81) (lv' := [some (.ref 130), none, none, none, some (.int v4), some (.int v5), none, none]) (st' := []) (h' := mkS x S) rfl trivial ?_
    refine Ev.ite (fun c1 => ?_) (fun c1 => ?_)
    · rw [if_pos c1] at hm
      refine Ev.steps tokX11_way 1 (P := True) (pc' := 92) (lv' := [some (.ref 130), none, none, none, some (.int v4), some (.int v5), none, none]) (st' := [.int (-1)]) (h' := mkS x S) rfl trivial ?_
      refine Ev.fgt (lv' := [none, none, none, none, none, none, none, none]) trivial ?_
      exact bpX11_way_130_92 x S (-1) _ _ hm
    · rw [if_neg c1] at hm
      obtain ⟨o2, hm⟩ := oblk hm
      refine Ev.steps tokX11_way 5 (P := vp_in v5 120 ∧ True) (pc' := 92) (lv' := [some (.ref 130), none, none, none, some (.int v4), some (.int v5), none, none]) (st' := [.int (S.2.1 147 v5.toNatClampNeg)]) (h' := mkS x S) rfl ⟨inb_ok o2, trivial⟩ ?_
      refine Ev.fgt (lv' := [none, none, none, none, none, none, none, none]) trivial ?_
      exact bpX11_way_130_92 x S (S.2.1 147 v5.toNatClampNeg) _ _ hm
set_option maxHeartbeats 4000000 in
set_option maxRecDepth 20000 in
theorem bpX11_way_130_146 (x : XT) (k99 : ST → Int32 → Int32 → Int32 → Int32 → Option (Int32 × ST)) (hk99 : ∀ (S : ST) (v4 : Int32) (v5 : Int32) (v6 : Int32) (v7 : Int32) (r : Int32) (S' : ST), k99 S v4 v5 v6 v7 = some (r, S') → Ev mX11_way 128 0 0 99 [some (.ref 130), none, none, none, some (.int v4), some (.int v5), some (.int v6), some (.int v7)] [] (mkS x S) (fun v h => v = some (.int r) ∧ h = mkS x S')) (k109 : ST → Int32 → Int32 → Int32 → Int32 → Option (Int32 × ST)) (hk109 : ∀ (S : ST) (v4 : Int32) (v5 : Int32) (v6 : Int32) (v7 : Int32) (r : Int32) (S' : ST), k109 S v4 v5 v6 v7 = some (r, S') → Ev mX11_way 128 0 0 109 [some (.ref 130), none, none, none, some (.int v4), some (.int v5), some (.int v6), some (.int v7)] [] (mkS x S) (fun v h => v = some (.int r) ∧ h = mkS x S')) (S : ST) (v4 : Int32) (v5 : Int32) (v6 : Int32) (v7 : Int32) (r : Int32) (S' : ST) (hm : bfX11_way_130_146 x k99 k109 S v4 v5 v6 v7 = some (r, S')) : Ev mX11_way 128 0 0 146 [some (.ref 130), none, none, none, some (.int v4), some (.int v5), some (.int v6), some (.int v7)] [] (mkS x S) (fun v h => v = some (.int r) ∧ h = mkS x S') := by
    unfold bfX11_way_130_146 at hm
    refine Ev.steps tokX11_way 2 (P := True) (pc' := 109) (lv' := [some (.ref 130), none, none, none, some (.int v4), some (.int v5), some (.int (v6 + 1)), some (.int v7)]) (st' := []) (h' := mkS x S) rfl trivial ?_
    exact hk109 S v4 v5 (v6 + 1) v7 _ _ hm
set_option maxHeartbeats 4000000 in
set_option maxRecDepth 20000 in
theorem bpX11_way_130_109 (x : XT) (k99 : ST → Int32 → Int32 → Int32 → Int32 → Option (Int32 × ST)) (hk99 : ∀ (S : ST) (v4 : Int32) (v5 : Int32) (v6 : Int32) (v7 : Int32) (r : Int32) (S' : ST), k99 S v4 v5 v6 v7 = some (r, S') → Ev mX11_way 128 0 0 99 [some (.ref 130), none, none, none, some (.int v4), some (.int v5), some (.int v6), some (.int v7)] [] (mkS x S) (fun v h => v = some (.int r) ∧ h = mkS x S')) (k109 : ST → Int32 → Int32 → Int32 → Int32 → Option (Int32 × ST)) (hk109 : ∀ (S : ST) (v4 : Int32) (v5 : Int32) (v6 : Int32) (v7 : Int32) (r : Int32) (S' : ST), k109 S v4 v5 v6 v7 = some (r, S') → Ev mX11_way 128 0 0 109 [some (.ref 130), none, none, none, some (.int v4), some (.int v5), some (.int v6), some (.int v7)] [] (mkS x S) (fun v h => v = some (.int r) ∧ h = mkS x S')) (S : ST) (v4 : Int32) (v5 : Int32) (v6 : Int32) (v7 : Int32) (r : Int32) (S' : ST) (hm : bfX11_way_130_109 x k99 k109 S v4 v5 v6 v7 = some (r, S')) : Ev mX11_way 128 0 0 109 [some (.ref 130), none, none, none, some (.int v4), some (.int v5), some (.int v6), some (.int v7)] [] (mkS x S) (fun v h => v = some (.int r) ∧ h = mkS x S') := by
    unfold bfX11_way_130_109 at hm
    refine Ev.steps tokX11_way 3 (P := True) (pc' := 114) (lv' := [some (.ref 130), none, none, none, some (.int v4), some (.int v5), some (.int v6), some (.int v7)]) (st' := [.int v6, .int v5, .ref 130]) (h' := mkS x S) rfl trivial ?_
    cases h1 : gfX11_nextPlace_130 x S v5 v6 with
    | none => rw [h1] at hm; cases hm
    | some q2 =>
      obtain ⟨r3, S4⟩ := q2
      rw [h1] at hm
      dsimp only at hm
      refine ev_callV (N := mX11_nextPlace) (d' := 1) (bc := 0) (bs := 0) (bc' := 0) (bs' := 0) (as := [.int v5, .int v6]) (rest := []) (a := 130) (ci := 11) (dcd tokX11_way rfl) okX11_nextPlace inX11_nextPlace seX11_nextPlace lk11_389 rfl (by decide) (Nat.le_of_ble_eq_true rfl) rfl ⟨by decide, rfl⟩ (gpX11_nextPlace_130 x S v5 v6 _ _ h1) (fun v h' hq hn => ?_)
      obtain ⟨rfl, rfl⟩ := hq
      refine Ev.steps tokX11_way 2 (P := True) (pc' := if r3 = (-1) then 146 else 121) (lv' := [some (.ref 130), none, none, none, some (.int v4), some (.int v5), some (.int v6), some (.int v7)]) (st' := []) (h' := mkS x S4) rfl trivial ?_
      refine Ev.ite (fun c5 => ?_) (fun c5 => ?_)
      · rw [if_pos c5] at hm
        exact bpX11_way_130_146 x k99 hk99 k109 hk109 S4 v4 v5 v6 v7 _ _ hm
      · rw [if_neg c5] at hm
        refine Ev.steps tokX11_way 5 (P := True) (pc' := 130) (lv' := [some (.ref 130), none, none, none, some (.int v4), some (.int v5), some (.int v6), some (.int v7)]) (st' := [.int v6, .int v5, .ref 130, .ref 147]) (h' := mkS x S4) rfl trivial ?_
        cases h6 : gfX11_nextPlace_130 x S4 v5 v6 with
        | none => rw [h6] at hm; cases hm
        | some q7 =>
          obtain ⟨r8, S9⟩ := q7
          rw [h6] at hm
          dsimp only at hm
          refine ev_callV (N := mX11_nextPlace) (d' := 1) (bc := 0) (bs := 0) (bc' := 0) (bs' := 0) (as := [.int v5, .int v6]) (rest := [.ref 147]) (a := 130) (ci := 11) (dcd tokX11_way rfl) okX11_nextPlace inX11_nextPlace seX11_nextPlace lk11_389 rfl (by decide) (Nat.le_of_ble_eq_true rfl) rfl ⟨by decide, rfl⟩ (gpX11_nextPlace_130 x S4 v5 v6 _ _ h6) (fun v h' hq hn => ?_)
          obtain ⟨rfl, rfl⟩ := hq
          obtain ⟨o10, hm⟩ := oblk hm
          obtain ⟨o11, hm⟩ := oblk hm
          refine Ev.steps tokX11_way 8 (P := vp_in r8 120 ∧ vp_in v5 120 ∧ True) (pc' := if (S9.2.1 147 r8.toNatClampNeg) = ((S9.2.1 147 v5.toNatClampNeg) - 1) then 152 else 146) (lv' := [some (.ref 130), none, none, none, some (.int v4), some (.int v5), some (.int v6), some (.int v7)]) (st' := []) (h' := mkS x S9) rfl ⟨inb_ok o10, inb_ok o11, trivial⟩ ?_
          refine Ev.ite (fun c12 => ?_) (fun c12 => ?_)
          · rw [if_pos c12] at hm
            refine Ev.steps tokX11_way 3 (P := True) (pc' := 157) (lv' := [some (.ref 130), none, none, none, some (.int v4), some (.int v5), some (.int v6), some (.int v7)]) (st' := [.int v6, .int v5, .ref 130]) (h' := mkS x S9) rfl trivial ?_
            cases h13 : gfX11_nextPlace_130 x S9 v5 v6 with
            | none => rw [h13] at hm; cases hm
            | some q14 =>
              obtain ⟨r15, S16⟩ := q14
              rw [h13] at hm
              dsimp only at hm
              refine ev_callV (N := mX11_nextPlace) (d' := 1) (bc := 0) (bs := 0) (bc' := 0) (bs' := 0) (as := [.int v5, .int v6]) (rest := []) (a := 130) (ci := 11) (dcd tokX11_way rfl) okX11_nextPlace inX11_nextPlace seX11_nextPlace lk11_389 rfl (by decide) (Nat.le_of_ble_eq_true rfl) rfl ⟨by decide, rfl⟩ (gpX11_nextPlace_130 x S9 v5 v6 _ _ h13) (fun v h' hq hn => ?_)
              obtain ⟨rfl, rfl⟩ := hq
              refine Ev.steps tokX11_way 3 (P := True) (pc' := 99) (lv' := [some (.ref 130), none, none, none, some (.int v4), some (.int r15), some (.int v6), some (.int (v7 + 1))]) (st' := []) (h' := mkS x S16) rfl trivial ?_
              exact hk99 S16 v4 r15 v6 (v7 + 1) _ _ hm
          · rw [if_neg c12] at hm
            exact bpX11_way_130_146 x k99 hk99 k109 hk109 S9 v4 v5 v6 v7 _ _ hm
theorem lpX11_way_130_109 (x : XT) (k99 : ST → Int32 → Int32 → Int32 → Int32 → Option (Int32 × ST)) (hk99 : ∀ (S : ST) (v4 : Int32) (v5 : Int32) (v6 : Int32) (v7 : Int32) (r : Int32) (S' : ST), k99 S v4 v5 v6 v7 = some (r, S') → Ev mX11_way 128 0 0 99 [some (.ref 130), none, none, none, some (.int v4), some (.int v5), some (.int v6), some (.int v7)] [] (mkS x S) (fun v h => v = some (.int r) ∧ h = mkS x S')) : ∀ (n : Nat) (S : ST) (v4 : Int32) (v5 : Int32) (v6 : Int32) (v7 : Int32) (r : Int32) (S' : ST), lfX11_way_130_109 x k99 n S v4 v5 v6 v7 = some (r, S') → Ev mX11_way 128 0 0 109 [some (.ref 130), none, none, none, some (.int v4), some (.int v5), some (.int v6), some (.int v7)] [] (mkS x S) (fun v h => v = some (.int r) ∧ h = mkS x S')
  | 0, _, _, _, _, _, _, _, hm => by cases hm
  | n + 1, S, v4, v5, v6, v7, r, S', hm => bpX11_way_130_109 x k99 hk99 (lfX11_way_130_109 x k99 n) (lpX11_way_130_109 x k99 hk99 n) S v4 v5 v6 v7 r S' hm
set_option maxHeartbeats 4000000 in
set_option maxRecDepth 20000 in
theorem bpX11_way_130_99 (x : XT) (k99 : ST → Int32 → Int32 → Int32 → Int32 → Option (Int32 × ST)) (hk99 : ∀ (S : ST) (v4 : Int32) (v5 : Int32) (v6 : Int32) (v7 : Int32) (r : Int32) (S' : ST), k99 S v4 v5 v6 v7 = some (r, S') → Ev mX11_way 128 0 0 99 [some (.ref 130), none, none, none, some (.int v4), some (.int v5), some (.int v6), some (.int v7)] [] (mkS x S) (fun v h => v = some (.int r) ∧ h = mkS x S')) (S : ST) (v4 : Int32) (v5 : Int32) (v6 : Int32) (v7 : Int32) (r : Int32) (S' : ST) (hm : bfX11_way_130_99 x k99 S v4 v5 v6 v7 = some (r, S')) : Ev mX11_way 128 0 0 99 [some (.ref 130), none, none, none, some (.int v4), some (.int v5), some (.int v6), some (.int v7)] [] (mkS x S) (fun v h => v = some (.int r) ∧ h = mkS x S') := by
    unfold bfX11_way_130_99 at hm
    refine Ev.steps tokX11_way 3 (P := True) (pc' := if v4 < v7 then 168 else 106) (lv' := [some (.ref 130), none, none, none, some (.int v4), some (.int v5), some (.int v6), some (.int v7)]) (st' := []) (h' := mkS x S) rfl trivial ?_
    refine Ev.ite (fun c1 => ?_) (fun c1 => ?_)
    · rw [if_pos c1] at hm
      refine Ev.steps tokX11_way 1 (P := True) (pc' := 170) (lv' := [some (.ref 130), none, none, none, some (.int v4), some (.int v5), some (.int v6), some (.int v7)]) (st' := [.int v6]) (h' := mkS x S) rfl trivial ?_
      cases hm
      exact Ev.reti tokX11_way rfl rfl ⟨rfl, rfl⟩
    · rw [if_neg c1] at hm
      refine Ev.steps tokX11_way 2 (P := True) (pc' := 109) (lv' := [some (.ref 130), none, none, none, some (.int v4), some (.int v5), some (.int 0), some (.int v7)]) (st' := []) (h' := mkS x S) rfl trivial ?_
      exact lpX11_way_130_109 x k99 hk99 20000 S v4 v5 0 v7 _ _ hm
theorem lpX11_way_130_99 (x : XT)  : ∀ (n : Nat) (S : ST) (v4 : Int32) (v5 : Int32) (v6 : Int32) (v7 : Int32) (r : Int32) (S' : ST), lfX11_way_130_99 x  n S v4 v5 v6 v7 = some (r, S') → Ev mX11_way 128 0 0 99 [some (.ref 130), none, none, none, some (.int v4), some (.int v5), some (.int v6), some (.int v7)] [] (mkS x S) (fun v h => v = some (.int r) ∧ h = mkS x S')
  | 0, _, _, _, _, _, _, _, hm => by cases hm
  | n + 1, S, v4, v5, v6, v7, r, S', hm => bpX11_way_130_99 x (lfX11_way_130_99 x  n) (lpX11_way_130_99 x  n) S v4 v5 v6 v7 r S' hm
set_option maxHeartbeats 4000000 in
set_option maxRecDepth 20000 in
theorem bpX11_way_130_0 (x : XT)  (S : ST) (p1 : Int32) (p2 : Int32) (p3 : Int32) (p4 : Int32) (r : Int32) (S' : ST) (hm : bfX11_way_130_0 x  S p1 p2 p3 p4 = some (r, S')) : Ev mX11_way 128 0 0 0 [some (.ref 130), some (.int p1), some (.int p2), some (.int p3), some (.int p4), none, none, none] [] (mkS x S) (fun v h => v = some (.int r) ∧ h = mkS x S') := by
    unfold bfX11_way_130_0 at hm
    refine Ev.steps tokX11_way 2 (P := True) (pc' := 2) (lv' := [some (.ref 130), some (.int p1), some (.int p2), some (.int p3), some (.int p4), none, none, none]) (st' := [.int p1, .ref 130]) (h' := mkS x S) rfl trivial ?_
    cases h1 : gfX11_isGoer_130 x S p1 with
    | none => rw [h1] at hm; cases hm
    | some q2 =>
      obtain ⟨r3, S4⟩ := q2
      rw [h1] at hm
      dsimp only at hm
      refine ev_callV (N := mX11_isGoer) (d' := 2) (bc := 0) (bs := 0) (bc' := 0) (bs' := 0) (as := [.int p1]) (rest := []) (a := 130) (ci := 11) (dcd tokX11_way rfl) okX11_isGoer inX11_isGoer seX11_isGoer lk11_149 rfl (by decide) (Nat.le_of_ble_eq_true rfl) rfl ⟨by decide, rfl⟩ (gpX11_isGoer_130 x S p1 _ _ h1) (fun v h' hq hn => ?_)
      obtain ⟨rfl, rfl⟩ := hq
      refine Ev.steps tokX11_way 1 (P := True) (pc' := if r3 = 0 then 22 else 8) (lv' := [some (.ref 130), some (.int p1), some (.int p2), some (.int p3), some (.int p4), none, none, none]) (st' := []) (h' := mkS x S4) rfl trivial ?_
      refine Ev.ite (fun c5 => ?_) (fun c5 => ?_)
      · rw [if_pos c5] at hm
        refine Ev.fgt (lv' := [none, none, none, none, none, none, none, none]) trivial ?_
        exact bpX11_way_130_22 x S4 _ _ hm
      · rw [if_neg c5] at hm
        refine Ev.steps tokX11_way 2 (P := True) (pc' := 10) (lv' := [some (.ref 130), some (.int p1), some (.int p2), some (.int p3), some (.int p4), none, none, none]) (st' := [.int p3, .int p2]) (h' := mkS x S4) rfl trivial ?_
        cases h6 : gfX11_canBeGoal x S4 p2 p3 with
        | none => rw [h6] at hm; cases hm
        | some q7 =>
          obtain ⟨r8, S9⟩ := q7
          rw [h6] at hm
          dsimp only at hm
          refine ev_callS (N := mX11_canBeGoal) (d' := 3) (bc := 0) (bs := 0) (bc' := 0) (bs' := 0) (as := [.int p2, .int p3]) (rest := []) (dcd tokX11_way rfl) okX11_canBeGoal inX11_canBeGoal lk11_392 rfl (by decide) (Nat.le_of_ble_eq_true rfl) (gpX11_canBeGoal x S4 p2 p3 _ _ h6) (fun v h' hq hn => ?_)
          obtain ⟨rfl, rfl⟩ := hq
          refine Ev.steps tokX11_way 1 (P := True) (pc' := if r8 = 0 then 22 else 16) (lv' := [some (.ref 130), some (.int p1), some (.int p2), some (.int p3), some (.int p4), none, none, none]) (st' := []) (h' := mkS x S9) rfl trivial ?_
          refine Ev.ite (fun c10 => ?_) (fun c10 => ?_)
          · rw [if_pos c10] at hm
            refine Ev.fgt (lv' := [none, none, none, none, none, none, none, none]) trivial ?_
            exact bpX11_way_130_22 x S9 _ _ hm
          · rw [if_neg c10] at hm
            refine Ev.steps tokX11_way 3 (P := True) (pc' := if (-1) ≤ p4 then 24 else 22) (lv' := [some (.ref 130), some (.int p1), some (.int p2), some (.int p3), some (.int p4), none, none, none]) (st' := []) (h' := mkS x S9) rfl trivial ?_
            refine Ev.ite (fun c11 => ?_) (fun c11 => ?_)
            · rw [if_pos c11] at hm
              refine Ev.steps tokX11_way 2 (P := True) (pc' := 26) (lv' := [some (.ref 130), some (.int p1), some (.int p2), some (.int p3), some (.int p4), none, none, none]) (st' := [.int p1, .ref 130]) (h' := mkS x S9) rfl trivial ?_
              cases h12 : gfX11_laysOut_130 x S9 p1 with
              | none => rw [h12] at hm; cases hm
              | some q13 =>
                obtain ⟨r14, S15⟩ := q13
                rw [h12] at hm
                dsimp only at hm
                refine ev_callV (N := mX11_laysOut) (d' := 127) (bc := 0) (bs := 0) (bc' := 0) (bs' := 0) (as := [.int p1]) (rest := []) (a := 130) (ci := 11) (dcd tokX11_way rfl) okX11_laysOut inX11_laysOut seX11_laysOut lk11_395 rfl (by decide) (Nat.le_of_ble_eq_true rfl) rfl ⟨by decide, rfl⟩ (gpX11_laysOut_130 x S9 p1 _ _ h12) (fun v h' hq hn => ?_)
                obtain ⟨rfl, rfl⟩ := hq
                refine Ev.steps tokX11_way 4 (P := True) (pc' := 33) (lv' := [some (.ref 130), some (.int p1), some (.int p2), some (.int p3), some (.int p4), none, none, none]) (st' := [.int 0, .int p3, .int p2, .ref 130]) (h' := mkS x S15) rfl trivial ?_
                cases h16 : gfX11_laysLeft_130 x S15 p2 p3 0 with
                | none => rw [h16] at hm; cases hm
                | some q17 =>
                  obtain ⟨r18, S19⟩ := q17
                  rw [h16] at hm
                  dsimp only at hm
                  refine ev_callV (N := mX11_laysLeft) (d' := 2) (bc := 0) (bs := 0) (bc' := 0) (bs' := 0) (as := [.int p2, .int p3, .int 0]) (rest := []) (a := 130) (ci := 11) (dcd tokX11_way rfl) okX11_laysLeft inX11_laysLeft seX11_laysLeft lk11_398 rfl (by decide) (Nat.le_of_ble_eq_true rfl) rfl ⟨by decide, rfl⟩ (gpX11_laysLeft_130 x S15 p2 p3 0 _ _ h16) (fun v h' hq hn => ?_)
                  obtain ⟨rfl, rfl⟩ := hq
                  refine Ev.steps tokX11_way 2 (P := True) (pc' := 38) (lv' := [some (.ref 130), some (.int p1), some (.int p2), some (.int p3), some (.int p4), none, none, none]) (st' := [.int p1, .ref 130]) (h' := mkS x S19) rfl trivial ?_
                  cases h20 : gfX11_placeOf_130 x S19 p1 with
                  | none => rw [h20] at hm; cases hm
                  | some q21 =>
                    obtain ⟨r22, S23⟩ := q21
                    rw [h20] at hm
                    dsimp only at hm
                    refine ev_callV (N := mX11_placeOf) (d' := 1) (bc := 0) (bs := 0) (bc' := 0) (bs' := 0) (as := [.int p1]) (rest := []) (a := 130) (ci := 11) (dcd tokX11_way rfl) okX11_placeOf inX11_placeOf seX11_placeOf lk11_402 rfl (by decide) (Nat.le_of_ble_eq_true rfl) rfl ⟨by decide, rfl⟩ (gpX11_placeOf_130 x S19 p1 _ _ h20) (fun v h' hq hn => ?_)
                    obtain ⟨rfl, rfl⟩ := hq
                    obtain ⟨o24, hm⟩ := oblk hm
                    refine Ev.steps tokX11_way 7 (P := vp_in r22 120 ∧ True) (pc' := if (S23.2.1 147 r22.toNatClampNeg) < 1000000 then 57 else 55) (lv' := [some (.ref 130), some (.int p1), some (.int p2), some (.int p3), some (.int p4), some (.int r22), none, none]) (st' := []) (h' := mkS x S23) rfl ⟨inb_ok o24, trivial⟩ ?_
                    refine Ev.ite (fun c25 => ?_) (fun c25 => ?_)
                    · rw [if_pos c25] at hm
                      refine Ev.steps tokX11_way 3 (P := True) (pc' := if p4 = (-1) then 75 else 63) (lv' := [some (.ref 130), some (.int p1), some (.int p2), some (.int p3), some (.int p4), some (.int r22), none, none]) (st' := []) (h' := mkS x S23) rfl trivial ?_
                      refine Ev.ite (fun c26 => ?_) (fun c26 => ?_)
                      · rw [if_pos c26] at hm
                        refine Ev.fgt (lv' := [some (.ref 130), none, none, none, some (.int p4), some (.int r22), none, none]) ⟨rfl, rfl, rfl, trivial⟩ ?_
                        exact bpX11_way_130_75 x S23 p4 r22 _ _ hm
                      · rw [if_neg c26] at hm
                        obtain ⟨o27, hm⟩ := oblk hm
                        refine Ev.steps tokX11_way 6 (P := vp_in r22 120 ∧ True) (pc' := if p4 < (S23.2.1 147 r22.toNatClampNeg) then 93 else 75) (lv' := [some (.ref 130), some (.int p1), some (.int p2), some (.int p3), some (.int p4), some (.int r22), none, none]) (st' := []) (h' := mkS x S23) rfl ⟨inb_ok o27, trivial⟩ ?_
                        refine Ev.ite (fun c28 => ?_) (fun c28 => ?_)
                        · rw [if_pos c28] at hm
                          refine Ev.steps tokX11_way 4 (P := True) (pc' := 99) (lv' := [some (.ref 130), some (.int p1), some (.int p2), some (.int p3), some (.int p4), some (.int r22), some (.int (-1)), some (.int 0)]) (st' := []) (h' := mkS x S23) rfl trivial ?_
                          refine Ev.fgt (lv' := [some (.ref 130), none, none, none, some (.int p4), some (.int r22), some (.int (-1)), some (.int 0)]) ⟨rfl, rfl, rfl, rfl, rfl, trivial⟩ ?_
                          exact lpX11_way_130_99 x  20000 S23 p4 r22 (-1) 0 _ _ hm
                        · rw [if_neg c28] at hm
                          refine Ev.fgt (lv' := [some (.ref 130), none, none, none, some (.int p4), some (.int r22), none, none]) ⟨rfl, rfl, rfl, trivial⟩ ?_
                          exact bpX11_way_130_75 x S23 p4 r22 _ _ hm
                    · rw [if_neg c25] at hm
                      refine Ev.steps tokX11_way 1 (P := True) (pc' := 56) (lv' := [some (.ref 130), some (.int p1), some (.int p2), some (.int p3), some (.int p4), some (.int r22), none, none]) (st' := [.int (-1)]) (h' := mkS x S23) rfl trivial ?_
                      cases hm
                      exact Ev.reti tokX11_way rfl rfl ⟨rfl, rfl⟩
            · rw [if_neg c11] at hm
              refine Ev.fgt (lv' := [none, none, none, none, none, none, none, none]) trivial ?_
              exact bpX11_way_130_22 x S9 _ _ hm
theorem gpX11_way_130 (x : XT) (S : ST) (p1 : Int32) (p2 : Int32) (p3 : Int32) (p4 : Int32) (r : Int32) (S' : ST) (hm : gfX11_way_130 x S p1 p2 p3 p4 = some (r, S')) : Ct mX11_way 128 0 0 [.ref 130, .int p1, .int p2, .int p3, .int p4] (mkS x S) (fun v h => v = some (.int r) ∧ h = mkS x S') :=
  Ct.of (lv := [some (.ref 130), some (.int p1), some (.int p2), some (.int p3), some (.int p4), none, none, none]) rfl rfl rfl (show (_ : Nat) ≤ _ from Nat.le_of_ble_eq_true rfl) (fun G => rfl) (bpX11_way_130_0 x S p1 p2 p3 p4 r S' hm)
set_option maxHeartbeats 4000000 in
set_option maxRecDepth 20000 in
theorem bpX11_cheap_130_16 (x : XT)  (S : ST)  (r : Int32) (S' : ST) (hm : bfX11_cheap_130_16 x  S  = some (r, S')) : Ev mX11_cheap 128 0 0 16 [none, none, none, none] [] (mkS x S) (fun v h => v = some (.int r) ∧ h = mkS x S') := by
    unfold bfX11_cheap_130_16 at hm
    refine Ev.steps tokX11_cheap 1 (P := True) (pc' := 17) (lv' := [none, none, none, none]) (st' := [.int (-1)]) (h' := mkS x S) rfl trivial ?_
    cases hm
    exact Ev.reti tokX11_cheap rfl rfl ⟨rfl, rfl⟩
set_option maxHeartbeats 4000000 in
set_option maxRecDepth 20000 in
theorem bpX11_cheap_130_59 (x : XT)  (S : ST) (t0 : Int32) (r : Int32) (S' : ST) (hm : bfX11_cheap_130_59 x  S t0 = some (r, S')) : Ev mX11_cheap 128 0 0 59 [none, none, none, none] [.int t0] (mkS x S) (fun v h => v = some (.int r) ∧ h = mkS x S') := by
    unfold bfX11_cheap_130_59 at hm
    cases hm
    exact Ev.reti tokX11_cheap rfl rfl ⟨rfl, rfl⟩
set_option maxHeartbeats 4000000 in
set_option maxRecDepth 20000 in
theorem bpX11_cheap_130_0 (x : XT)  (S : ST) (p1 : Int32) (p2 : Int32) (p3 : Int32) (r : Int32) (S' : ST) (hm : bfX11_cheap_130_0 x  S p1 p2 p3 = some (r, S')) : Ev mX11_cheap 128 0 0 0 [some (.ref 130), some (.int p1), some (.int p2), some (.int p3)] [] (mkS x S) (fun v h => v = some (.int r) ∧ h = mkS x S') := by
    unfold bfX11_cheap_130_0 at hm
    refine Ev.steps tokX11_cheap 2 (P := True) (pc' := 2) (lv' := [some (.ref 130), some (.int p1), some (.int p2), some (.int p3)]) (st' := [.int p1, .ref 130]) (h' := mkS x S) rfl trivial ?_
    cases h1 : gfX11_isGoer_130 x S p1 with
    | none => rw [h1] at hm; cases hm
    | some q2 =>
      obtain ⟨r3, S4⟩ := q2
      rw [h1] at hm
      dsimp only at hm
      refine ev_callV (N := mX11_isGoer) (d' := 2) (bc := 0) (bs := 0) (bc' := 0) (bs' := 0) (as := [.int p1]) (rest := []) (a := 130) (ci := 11) (dcd tokX11_cheap rfl) okX11_isGoer inX11_isGoer seX11_isGoer lk11_149 rfl (by decide) (Nat.le_of_ble_eq_true rfl) rfl ⟨by decide, rfl⟩ (gpX11_isGoer_130 x S p1 _ _ h1) (fun v h' hq hn => ?_)
      obtain ⟨rfl, rfl⟩ := hq
      refine Ev.steps tokX11_cheap 1 (P := True) (pc' := if r3 = 0 then 16 else 8) (lv' := [some (.ref 130), some (.int p1), some (.int p2), some (.int p3)]) (st' := []) (h' := mkS x S4) rfl trivial ?_
      refine Ev.ite (fun c5 => ?_) (fun c5 => ?_)
      · rw [if_pos c5] at hm
        refine Ev.fgt (lv' := [none, none, none, none]) trivial ?_
        exact bpX11_cheap_130_16 x S4 _ _ hm
      · rw [if_neg c5] at hm
        refine Ev.steps tokX11_cheap 2 (P := True) (pc' := 10) (lv' := [some (.ref 130), some (.int p1), some (.int p2), some (.int p3)]) (st' := [.int p3, .int p2]) (h' := mkS x S4) rfl trivial ?_
        cases h6 : gfX11_canBeGoal x S4 p2 p3 with
        | none => rw [h6] at hm; cases hm
        | some q7 =>
          obtain ⟨r8, S9⟩ := q7
          rw [h6] at hm
          dsimp only at hm
          refine ev_callS (N := mX11_canBeGoal) (d' := 3) (bc := 0) (bs := 0) (bc' := 0) (bs' := 0) (as := [.int p2, .int p3]) (rest := []) (dcd tokX11_cheap rfl) okX11_canBeGoal inX11_canBeGoal lk11_392 rfl (by decide) (Nat.le_of_ble_eq_true rfl) (gpX11_canBeGoal x S4 p2 p3 _ _ h6) (fun v h' hq hn => ?_)
          obtain ⟨rfl, rfl⟩ := hq
          refine Ev.steps tokX11_cheap 1 (P := True) (pc' := if ¬ r8 = 0 then 18 else 16) (lv' := [some (.ref 130), some (.int p1), some (.int p2), some (.int p3)]) (st' := []) (h' := mkS x S9) rfl trivial ?_
          refine Ev.ite (fun c10 => ?_) (fun c10 => ?_)
          · rw [if_pos c10] at hm
            refine Ev.steps tokX11_cheap 2 (P := True) (pc' := 20) (lv' := [some (.ref 130), some (.int p1), some (.int p2), some (.int p3)]) (st' := [.int p1, .ref 130]) (h' := mkS x S9) rfl trivial ?_
            cases h11 : gfX11_laysOut_130 x S9 p1 with
            | none => rw [h11] at hm; cases hm
            | some q12 =>
              obtain ⟨r13, S14⟩ := q12
              rw [h11] at hm
              dsimp only at hm
              refine ev_callV (N := mX11_laysOut) (d' := 127) (bc := 0) (bs := 0) (bc' := 0) (bs' := 0) (as := [.int p1]) (rest := []) (a := 130) (ci := 11) (dcd tokX11_cheap rfl) okX11_laysOut inX11_laysOut seX11_laysOut lk11_395 rfl (by decide) (Nat.le_of_ble_eq_true rfl) rfl ⟨by decide, rfl⟩ (gpX11_laysOut_130 x S9 p1 _ _ h11) (fun v h' hq hn => ?_)
              obtain ⟨rfl, rfl⟩ := hq
              refine Ev.steps tokX11_cheap 4 (P := True) (pc' := 27) (lv' := [some (.ref 130), some (.int p1), some (.int p2), some (.int p3)]) (st' := [.int 1, .int p3, .int p2, .ref 130]) (h' := mkS x S14) rfl trivial ?_
              cases h15 : gfX11_laysLeft_130 x S14 p2 p3 1 with
              | none => rw [h15] at hm; cases hm
              | some q16 =>
                obtain ⟨r17, S18⟩ := q16
                rw [h15] at hm
                dsimp only at hm
                refine ev_callV (N := mX11_laysLeft) (d' := 2) (bc := 0) (bs := 0) (bc' := 0) (bs' := 0) (as := [.int p2, .int p3, .int 1]) (rest := []) (a := 130) (ci := 11) (dcd tokX11_cheap rfl) okX11_laysLeft inX11_laysLeft seX11_laysLeft lk11_398 rfl (by decide) (Nat.le_of_ble_eq_true rfl) rfl ⟨by decide, rfl⟩ (gpX11_laysLeft_130 x S14 p2 p3 1 _ _ h15) (fun v h' hq hn => ?_)
                obtain ⟨rfl, rfl⟩ := hq
                refine Ev.steps tokX11_cheap 4 (P := True) (pc' := 36) (lv' := [some (.ref 130), some (.int p1), some (.int p2), some (.int p3)]) (st' := [.int p1, .ref 130, .ref 147]) (h' := mkS x S18) rfl trivial ?_
                cases h19 : gfX11_placeOf_130 x S18 p1 with
                | none => rw [h19] at hm; cases hm
                | some q20 =>
                  obtain ⟨r21, S22⟩ := q20
                  rw [h19] at hm
                  dsimp only at hm
                  refine ev_callV (N := mX11_placeOf) (d' := 1) (bc := 0) (bs := 0) (bc' := 0) (bs' := 0) (as := [.int p1]) (rest := [.ref 147]) (a := 130) (ci := 11) (dcd tokX11_cheap rfl) okX11_placeOf inX11_placeOf seX11_placeOf lk11_402 rfl (by decide) (Nat.le_of_ble_eq_true rfl) rfl ⟨by decide, rfl⟩ (gpX11_placeOf_130 x S18 p1 _ _ h19) (fun v h' hq hn => ?_)
                  obtain ⟨rfl, rfl⟩ := hq
                  obtain ⟨o23, hm⟩ := oblk hm
                  refine Ev.steps tokX11_cheap 3 (P := vp_in r21 120 ∧ True) (pc' := if (S22.2.1 147 r21.toNatClampNeg) < 1000000 then 49 else 45) (lv' := [some (.ref 130), some (.int p1), some (.int p2), some (.int p3)]) (st' := []) (h' := mkS x S22) rfl ⟨inb_ok o23, trivial⟩ ?_
                  refine Ev.ite (fun c24 => ?_) (fun c24 => ?_)
                  · rw [if_pos c24] at hm
                    refine Ev.steps tokX11_cheap 4 (P := True) (pc' := 55) (lv' := [some (.ref 130), some (.int p1), some (.int p2), some (.int p3)]) (st' := [.int p1, .ref 130, .ref 147]) (h' := mkS x S22) rfl trivial ?_
                    cases h25 : gfX11_placeOf_130 x S22 p1 with
                    | none => rw [h25] at hm; cases hm
                    | some q26 =>
                      obtain ⟨r27, S28⟩ := q26
                      rw [h25] at hm
                      dsimp only at hm
                      refine ev_callV (N := mX11_placeOf) (d' := 1) (bc := 0) (bs := 0) (bc' := 0) (bs' := 0) (as := [.int p1]) (rest := [.ref 147]) (a := 130) (ci := 11) (dcd tokX11_cheap rfl) okX11_placeOf inX11_placeOf seX11_placeOf lk11_402 rfl (by decide) (Nat.le_of_ble_eq_true rfl) rfl ⟨by decide, rfl⟩ (gpX11_placeOf_130 x S22 p1 _ _ h25) (fun v h' hq hn => ?_)
                      obtain ⟨rfl, rfl⟩ := hq
                      obtain ⟨o29, hm⟩ := oblk hm
                      refine Ev.steps tokX11_cheap 1 (P := vp_in r27 120 ∧ True) (pc' := 59) (lv' := [some (.ref 130), some (.int p1), some (.int p2), some (.int p3)]) (st' := [.int (S28.2.1 147 r27.toNatClampNeg)]) (h' := mkS x S28) rfl ⟨inb_ok o29, trivial⟩ ?_
                      refine Ev.fgt (lv' := [none, none, none, none]) trivial ?_
                      exact bpX11_cheap_130_59 x S28 (S28.2.1 147 r27.toNatClampNeg) _ _ hm
                  · rw [if_neg c24] at hm
                    refine Ev.steps tokX11_cheap 2 (P := True) (pc' := 59) (lv' := [some (.ref 130), some (.int p1), some (.int p2), some (.int p3)]) (st' := [.int (-1)]) (h' := mkS x S22) rfl trivial ?_
                    refine Ev.fgt (lv' := [none, none, none, none]) trivial ?_
                    exact bpX11_cheap_130_59 x S22 (-1) _ _ hm
          · rw [if_neg c10] at hm
            refine Ev.fgt (lv' := [none, none, none, none]) trivial ?_
            exact bpX11_cheap_130_16 x S9 _ _ hm
theorem gpX11_cheap_130 (x : XT) (S : ST) (p1 : Int32) (p2 : Int32) (p3 : Int32) (r : Int32) (S' : ST) (hm : gfX11_cheap_130 x S p1 p2 p3 = some (r, S')) : Ct mX11_cheap 128 0 0 [.ref 130, .int p1, .int p2, .int p3] (mkS x S) (fun v h => v = some (.int r) ∧ h = mkS x S') :=
  Ct.of (lv := [some (.ref 130), some (.int p1), some (.int p2), some (.int p3)]) rfl rfl rfl (show (_ : Nat) ≤ _ from Nat.le_of_ble_eq_true rfl) (fun G => rfl) (bpX11_cheap_130_0 x S p1 p2 p3 r S' hm)
set_option maxHeartbeats 4000000 in
set_option maxRecDepth 20000 in
theorem bpX11_compare_130_0 (x : XT)  (S : ST) (p1 : Int32) (p2 : Int32) (p3 : Int32) (p4 : Int32) (r : Int32) (S' : ST) (hm : bfX11_compare_130_0 x  S p1 p2 p3 p4 = some (r, S')) : Ev mX11_compare 129 0 0 0 [some (.ref 130), some (.int p1), some (.int p2), some (.int p3), some (.int p4), none, none] [] (mkS x S) (fun v h => v = some (.int r) ∧ h = mkS x S') := by
    unfold bfX11_compare_130_0 at hm
    refine Ev.steps tokX11_compare 2 (P := True) (pc' := 2) (lv' := [some (.ref 130), some (.int p1), some (.int p2), some (.int p3), some (.int p4), none, none]) (st' := [.int p1, .ref 130]) (h' := mkS x S) rfl trivial ?_
    cases h1 : gfX11_isLaw_130 x S p1 with
    | none => rw [h1] at hm; cases hm
    | some q2 =>
      obtain ⟨r3, S4⟩ := q2
      rw [h1] at hm
      dsimp only at hm
      refine ev_callV (N := mX11_isLaw) (d' := 2) (bc := 0) (bs := 0) (bc' := 0) (bs' := 0) (as := [.int p1]) (rest := []) (a := 130) (ci := 11) (dcd tokX11_compare rfl) okX11_isLaw inX11_isLaw seX11_isLaw lk11_285 rfl (by decide) (Nat.le_of_ble_eq_true rfl) rfl ⟨by decide, rfl⟩ (gpX11_isLaw_130 x S p1 _ _ h1) (fun v h' hq hn => ?_)
      obtain ⟨rfl, rfl⟩ := hq
      refine Ev.steps tokX11_compare 1 (P := True) (pc' := if ¬ r3 = 0 then 10 else 8) (lv' := [some (.ref 130), some (.int p1), some (.int p2), some (.int p3), some (.int p4), none, none]) (st' := []) (h' := mkS x S4) rfl trivial ?_
      refine Ev.ite (fun c5 => ?_) (fun c5 => ?_)
      · rw [if_pos c5] at hm
        refine Ev.steps tokX11_compare 15 (P := vp_in 95 5703 ∧ vp_in 95 5703 ∧ True) (pc' := 33) (lv' := [some (.ref 130), some (.int p1), some (.int p2), some (.int p3), some (.int p4), some (.int (S4.2.1 132 95)), none]) (st' := [.int (-1), .int p4, .int p3, .int p2, .ref 130]) (h' := mkS x (S4.1, (u2 S4.2.1 132 95 p1), S4.2.2.1, S4.2.2.2)) rfl ⟨(by unfold vp_in; decide), (by unfold vp_in; decide), trivial⟩ ?_
        cases h6 : gfX11_way_130 x (S4.1, (u2 S4.2.1 132 95 p1), S4.2.2.1, S4.2.2.2) p2 p3 p4 (-1) with
        | none => rw [h6] at hm; cases hm
        | some q7 =>
          obtain ⟨r8, S9⟩ := q7
          rw [h6] at hm
          dsimp only at hm
          refine ev_callV (N := mX11_way) (d' := 128) (bc := 0) (bs := 0) (bc' := 0) (bs' := 0) (as := [.int p2, .int p3, .int p4, .int (-1)]) (rest := []) (a := 130) (ci := 11) (dcd tokX11_compare rfl) okX11_way inX11_way seX11_way lk11_405 rfl (by decide) (Nat.le_of_ble_eq_true rfl) rfl ⟨by decide, rfl⟩ (gpX11_way_130 x (S4.1, (u2 S4.2.1 132 95 p1), S4.2.2.1, S4.2.2.2) p2 p3 p4 (-1) _ _ h6) (fun v h' hq hn => ?_)
          obtain ⟨rfl, rfl⟩ := hq
          refine Ev.steps tokX11_compare 7 (P := vp_in 95 5703 ∧ True) (pc' := 49) (lv' := [some (.ref 130), some (.int p1), some (.int p2), some (.int p3), some (.int p4), some (.int (S4.2.1 132 95)), some (.int r8)]) (st' := [.int r8]) (h' := mkS x (S9.1, (u2 S9.2.1 132 95 (S4.2.1 132 95)), S9.2.2.1, S9.2.2.2)) rfl ⟨(by unfold vp_in; decide), trivial⟩ ?_
          cases hm
          exact Ev.reti tokX11_compare rfl rfl ⟨rfl, rfl⟩
      · rw [if_neg c5] at hm
        refine Ev.steps tokX11_compare 1 (P := True) (pc' := 9) (lv' := [some (.ref 130), some (.int p1), some (.int p2), some (.int p3), some (.int p4), none, none]) (st' := [.int (-1)]) (h' := mkS x S4) rfl trivial ?_
        cases hm
        exact Ev.reti tokX11_compare rfl rfl ⟨rfl, rfl⟩
theorem gpX11_compare_130 (x : XT) (S : ST) (p1 : Int32) (p2 : Int32) (p3 : Int32) (p4 : Int32) (r : Int32) (S' : ST) (hm : gfX11_compare_130 x S p1 p2 p3 p4 = some (r, S')) : Ct mX11_compare 129 0 0 [.ref 130, .int p1, .int p2, .int p3, .int p4] (mkS x S) (fun v h => v = some (.int r) ∧ h = mkS x S') :=
  Ct.of (lv := [some (.ref 130), some (.int p1), some (.int p2), some (.int p3), some (.int p4), none, none]) rfl rfl rfl (show (_ : Nat) ≤ _ from Nat.le_of_ble_eq_true rfl) (fun G => rfl) (bpX11_compare_130_0 x S p1 p2 p3 p4 r S' hm)
set_option maxHeartbeats 4000000 in
set_option maxRecDepth 20000 in
theorem bpX11_laysGone_130_142 (x : XT) (k43 : ST → Int32 → Int32 → Int32 → Option (Unit × ST)) (hk43 : ∀ (S : ST) (v2 : Int32) (v3 : Int32) (v4 : Int32) (r : Unit) (S' : ST), k43 S v2 v3 v4 = some (r, S') → Ev mX11_laysGone 2 0 0 43 [some (.ref 130), none, some (.int v2), some (.int v3), some (.int v4), none, none] [] (mkS x S) (fun v h => v = none ∧ h = mkS x S')) (k52 : ST → Int32 → Int32 → Int32 → Int32 → Option (Unit × ST)) (hk52 : ∀ (S : ST) (v2 : Int32) (v3 : Int32) (v4 : Int32) (v5 : Int32) (r : Unit) (S' : ST), k52 S v2 v3 v4 v5 = some (r, S') → Ev mX11_laysGone 2 0 0 52 [some (.ref 130), none, some (.int v2), some (.int v3), some (.int v4), some (.int v5), none] [] (mkS x S) (fun v h => v = none ∧ h = mkS x S')) (S : ST) (v2 : Int32) (v3 : Int32) (v4 : Int32) (v5 : Int32) (r : Unit) (S' : ST) (hm : bfX11_laysGone_130_142 x k43 k52 S v2 v3 v4 v5 = some (r, S')) : Ev mX11_laysGone 2 0 0 142 [some (.ref 130), none, some (.int v2), some (.int v3), some (.int v4), some (.int v5), none] [] (mkS x S) (fun v h => v = none ∧ h = mkS x S') := by
    unfold bfX11_laysGone_130_142 at hm
    refine Ev.steps tokX11_laysGone 2 (P := True) (pc' := 52) (lv' := [some (.ref 130), none, some (.int v2), some (.int v3), some (.int v4), some (.int (v5 + 1)), none]) (st' := []) (h' := mkS x S) rfl trivial ?_
    exact hk52 S v2 v3 v4 (v5 + 1) _ _ hm
set_option maxHeartbeats 4000000 in
set_option maxRecDepth 20000 in
theorem bpX11_laysGone_130_87 (x : XT) (k43 : ST → Int32 → Int32 → Int32 → Option (Unit × ST)) (hk43 : ∀ (S : ST) (v2 : Int32) (v3 : Int32) (v4 : Int32) (r : Unit) (S' : ST), k43 S v2 v3 v4 = some (r, S') → Ev mX11_laysGone 2 0 0 43 [some (.ref 130), none, some (.int v2), some (.int v3), some (.int v4), none, none] [] (mkS x S) (fun v h => v = none ∧ h = mkS x S')) (k52 : ST → Int32 → Int32 → Int32 → Int32 → Option (Unit × ST)) (hk52 : ∀ (S : ST) (v2 : Int32) (v3 : Int32) (v4 : Int32) (v5 : Int32) (r : Unit) (S' : ST), k52 S v2 v3 v4 v5 = some (r, S') → Ev mX11_laysGone 2 0 0 52 [some (.ref 130), none, some (.int v2), some (.int v3), some (.int v4), some (.int v5), none] [] (mkS x S) (fun v h => v = none ∧ h = mkS x S')) (S : ST) (v2 : Int32) (v3 : Int32) (v4 : Int32) (v5 : Int32) (t0 : Int32) (r : Unit) (S' : ST) (hm : bfX11_laysGone_130_87 x k43 k52 S v2 v3 v4 v5 t0 = some (r, S')) : Ev mX11_laysGone 2 0 0 87 [some (.ref 130), none, some (.int v2), some (.int v3), some (.int v4), some (.int v5), none] [.int t0] (mkS x S) (fun v h => v = none ∧ h = mkS x S') := by
    unfold bfX11_laysGone_130_87 at hm
    refine Ev.steps tokX11_laysGone 4 (P := True) (pc' := if t0 = (-1) then 142 else 95) (lv' := [some (.ref 130), none, some (.int v2), some (.int v3), some (.int v4), some (.int v5), some (.int t0)]) (st' := []) (h' := mkS x S) rfl trivial ?_
    refine Ev.ite (fun c1 => ?_) (fun c1 => ?_)
    · rw [if_pos c1] at hm
      refine Ev.fgt (lv' := [some (.ref 130), none, some (.int v2), some (.int v3), some (.int v4), some (.int v5), none]) ⟨rfl, rfl, rfl, rfl, rfl, trivial⟩ ?_
      exact bpX11_laysGone_130_142 x k43 hk43 k52 hk52 S v2 v3 v4 v5 _ _ hm
    · rw [if_neg c1] at hm
      obtain ⟨o2, hm⟩ := oblk hm
      refine Ev.steps tokX11_laysGone 6 (P := vp_in t0 120 ∧ True) (pc' := if 1000000 ≤ (S.2.1 148 t0.toNatClampNeg) then 110 else 107) (lv' := [some (.ref 130), none, some (.int v2), some (.int v3), some (.int v4), some (.int v5), some (.int t0)]) (st' := []) (h' := mkS x S) rfl ⟨inb_ok o2, trivial⟩ ?_
      refine Ev.ite (fun c3 => ?_) (fun c3 => ?_)
      · rw [if_pos c3] at hm
        obtain ⟨o4, hm⟩ := oblk hm
        obtain ⟨o5, hm⟩ := oblk hm
        obtain ⟨o6, hm⟩ := oblk hm
        obtain ⟨o7, hm⟩ := oblk hm
        refine Ev.steps tokX11_laysGone 19 (P := vp_in v4 120 ∧ vp_in (S.2.1 149 v4.toNatClampNeg) 120 ∧ vp_in t0 120 ∧ vp_in v3 120 ∧ True) (pc' := 142) (lv' := [some (.ref 130), none, some (.int v2), some (.int (v3 + 1)), some (.int v4), some (.int v5), some (.int t0)]) (st' := []) (h' := mkS x (S.1, (u2 (u2 S.2.1 148 t0.toNatClampNeg ((S.2.1 148 ((S.2.1 149 v4.toNatClampNeg).toNatClampNeg)) + 1)) 149 v3.toNatClampNeg t0), S.2.2.1, S.2.2.2)) rfl ⟨inb_ok o4, inb_ok o5, inb_ok o6, inb_ok o7, trivial⟩ ?_
        refine Ev.fgt (lv' := [some (.ref 130), none, some (.int v2), some (.int (v3 + 1)), some (.int v4), some (.int v5), none]) ⟨rfl, rfl, rfl, rfl, rfl, trivial⟩ ?_
        exact bpX11_laysGone_130_142 x k43 hk43 k52 hk52 (S.1, (u2 (u2 S.2.1 148 t0.toNatClampNeg ((S.2.1 148 ((S.2.1 149 v4.toNatClampNeg).toNatClampNeg)) + 1)) 149 v3.toNatClampNeg t0), S.2.2.1, S.2.2.2) v2 (v3 + 1) v4 v5 _ _ hm
      · rw [if_neg c3] at hm
        refine Ev.steps tokX11_laysGone 1 (P := True) (pc' := 142) (lv' := [some (.ref 130), none, some (.int v2), some (.int v3), some (.int v4), some (.int v5), some (.int t0)]) (st' := []) (h' := mkS x S) rfl trivial ?_
        refine Ev.fgt (lv' := [some (.ref 130), none, some (.int v2), some (.int v3), some (.int v4), some (.int v5), none]) ⟨rfl, rfl, rfl, rfl, rfl, trivial⟩ ?_
        exact bpX11_laysGone_130_142 x k43 hk43 k52 hk52 S v2 v3 v4 v5 _ _ hm
set_option maxHeartbeats 4000000 in
set_option maxRecDepth 20000 in
theorem bpX11_laysGone_130_52 (x : XT) (k43 : ST → Int32 → Int32 → Int32 → Option (Unit × ST)) (hk43 : ∀ (S : ST) (v2 : Int32) (v3 : Int32) (v4 : Int32) (r : Unit) (S' : ST), k43 S v2 v3 v4 = some (r, S') → Ev mX11_laysGone 2 0 0 43 [some (.ref 130), none, some (.int v2), some (.int v3), some (.int v4), none, none] [] (mkS x S) (fun v h => v = none ∧ h = mkS x S')) (k52 : ST → Int32 → Int32 → Int32 → Int32 → Option (Unit × ST)) (hk52 : ∀ (S : ST) (v2 : Int32) (v3 : Int32) (v4 : Int32) (v5 : Int32) (r : Unit) (S' : ST), k52 S v2 v3 v4 v5 = some (r, S') → Ev mX11_laysGone 2 0 0 52 [some (.ref 130), none, some (.int v2), some (.int v3), some (.int v4), some (.int v5), none] [] (mkS x S) (fun v h => v = none ∧ h = mkS x S')) (S : ST) (v2 : Int32) (v3 : Int32) (v4 : Int32) (v5 : Int32) (r : Unit) (S' : ST) (hm : bfX11_laysGone_130_52 x k43 k52 S v2 v3 v4 v5 = some (r, S')) : Ev mX11_laysGone 2 0 0 52 [some (.ref 130), none, some (.int v2), some (.int v3), some (.int v4), some (.int v5), none] [] (mkS x S) (fun v h => v = none ∧ h = mkS x S') := by
    unfold bfX11_laysGone_130_52 at hm
    refine Ev.steps tokX11_laysGone 2 (P := True) (pc' := 55) (lv' := [some (.ref 130), none, some (.int v2), some (.int v3), some (.int v4), some (.int v5), none]) (st' := [.ref 130, .int v5]) (h' := mkS x S) rfl trivial ?_
    cases h1 : gfX11_gateMany_130 x S with
    | none => rw [h1] at hm; cases hm
    | some q2 =>
      obtain ⟨r3, S4⟩ := q2
      rw [h1] at hm
      dsimp only at hm
      refine ev_callV (N := mX11_gateMany) (d' := 1) (bc := 0) (bs := 0) (bc' := 0) (bs' := 0) (as := []) (rest := [.int v5]) (a := 130) (ci := 11) (dcd tokX11_laysGone rfl) okX11_gateMany inX11_gateMany seX11_gateMany lk11_124 rfl (by decide) (Nat.le_of_ble_eq_true rfl) rfl ⟨by decide, rfl⟩ (gpX11_gateMany_130 x S _ _ h1) (fun v h' hq hn => ?_)
      obtain ⟨rfl, rfl⟩ := hq
      refine Ev.steps tokX11_laysGone 1 (P := True) (pc' := if r3 ≤ v5 then 148 else 61) (lv' := [some (.ref 130), none, some (.int v2), some (.int v3), some (.int v4), some (.int v5), none]) (st' := []) (h' := mkS x S4) rfl trivial ?_
      refine Ev.ite (fun c5 => ?_) (fun c5 => ?_)
      · rw [if_pos c5] at hm
        refine Ev.steps tokX11_laysGone 2 (P := True) (pc' := 43) (lv' := [some (.ref 130), none, some (.int v2), some (.int v3), some (.int (v4 + 1)), some (.int v5), none]) (st' := []) (h' := mkS x S4) rfl trivial ?_
        refine Ev.fgt (lv' := [some (.ref 130), none, some (.int v2), some (.int v3), some (.int (v4 + 1)), none, none]) ⟨rfl, rfl, rfl, rfl, trivial⟩ ?_
        exact hk43 S4 v2 v3 (v4 + 1) _ _ hm
      · rw [if_neg c5] at hm
        refine Ev.steps tokX11_laysGone 2 (P := True) (pc' := 64) (lv' := [some (.ref 130), none, some (.int v2), some (.int v3), some (.int v4), some (.int v5), none]) (st' := [.int v5, .int v2]) (h' := mkS x S4) rfl trivial ?_
        cases h6 : gfX11_isIn x S4 v2 v5 with
        | none => rw [h6] at hm; cases hm
        | some q7 =>
          obtain ⟨r8, S9⟩ := q7
          rw [h6] at hm
          dsimp only at hm
          refine ev_callS (N := mX11_isIn) (d' := 1) (bc := 0) (bs := 0) (bc' := 0) (bs' := 0) (as := [.int v2, .int v5]) (rest := []) (dcd tokX11_laysGone rfl) okX11_isIn inX11_isIn lk11_409 rfl (by decide) (Nat.le_of_ble_eq_true rfl) (gpX11_isIn x S4 v2 v5 _ _ h6) (fun v h' hq hn => ?_)
          obtain ⟨rfl, rfl⟩ := hq
          refine Ev.steps tokX11_laysGone 1 (P := True) (pc' := if r8 = 0 then 74 else 70) (lv' := [some (.ref 130), none, some (.int v2), some (.int v3), some (.int v4), some (.int v5), none]) (st' := []) (h' := mkS x S9) rfl trivial ?_
          refine Ev.ite (fun c10 => ?_) (fun c10 => ?_)
          · rw [if_pos c10] at hm
            obtain ⟨o11, hm⟩ := oblk hm
            refine Ev.steps tokX11_laysGone 6 (P := vp_in v4 120 ∧ True) (pc' := 84) (lv' := [some (.ref 130), none, some (.int v2), some (.int v3), some (.int v4), some (.int v5), none]) (st' := [.int v5, .int (S9.2.1 149 v4.toNatClampNeg), .ref 130]) (h' := mkS x S9) rfl ⟨inb_ok o11, trivial⟩ ?_
            cases h12 : gfX11_nextPlace_130 x S9 (S9.2.1 149 v4.toNatClampNeg) v5 with
            | none => rw [h12] at hm; cases hm
            | some q13 =>
              obtain ⟨r14, S15⟩ := q13
              rw [h12] at hm
              dsimp only at hm
              refine ev_callV (N := mX11_nextPlace) (d' := 1) (bc := 0) (bs := 0) (bc' := 0) (bs' := 0) (as := [.int (S9.2.1 149 v4.toNatClampNeg), .int v5]) (rest := []) (a := 130) (ci := 11) (dcd tokX11_laysGone rfl) okX11_nextPlace inX11_nextPlace seX11_nextPlace lk11_389 rfl (by decide) (Nat.le_of_ble_eq_true rfl) rfl ⟨by decide, rfl⟩ (gpX11_nextPlace_130 x S9 (S9.2.1 149 v4.toNatClampNeg) v5 _ _ h12) (fun v h' hq hn => ?_)
              obtain ⟨rfl, rfl⟩ := hq
              exact bpX11_laysGone_130_87 x k43 hk43 k52 hk52 S15 v2 v3 v4 v5 r14 _ _ hm
          · rw [if_neg c10] at hm
            refine Ev.steps tokX11_laysGone 2 (P := True) (pc' := 87) (lv' := [some (.ref 130), none, some (.int v2), some (.int v3), some (.int v4), some (.int v5), none]) (st' := [.int (-1)]) (h' := mkS x S9) rfl trivial ?_
            exact bpX11_laysGone_130_87 x k43 hk43 k52 hk52 S9 v2 v3 v4 v5 (-1) _ _ hm
theorem lpX11_laysGone_130_52 (x : XT) (k43 : ST → Int32 → Int32 → Int32 → Option (Unit × ST)) (hk43 : ∀ (S : ST) (v2 : Int32) (v3 : Int32) (v4 : Int32) (r : Unit) (S' : ST), k43 S v2 v3 v4 = some (r, S') → Ev mX11_laysGone 2 0 0 43 [some (.ref 130), none, some (.int v2), some (.int v3), some (.int v4), none, none] [] (mkS x S) (fun v h => v = none ∧ h = mkS x S')) : ∀ (n : Nat) (S : ST) (v2 : Int32) (v3 : Int32) (v4 : Int32) (v5 : Int32) (r : Unit) (S' : ST), lfX11_laysGone_130_52 x k43 n S v2 v3 v4 v5 = some (r, S') → Ev mX11_laysGone 2 0 0 52 [some (.ref 130), none, some (.int v2), some (.int v3), some (.int v4), some (.int v5), none] [] (mkS x S) (fun v h => v = none ∧ h = mkS x S')
  | 0, _, _, _, _, _, _, _, hm => by cases hm
  | n + 1, S, v2, v3, v4, v5, r, S', hm => bpX11_laysGone_130_52 x k43 hk43 (lfX11_laysGone_130_52 x k43 n) (lpX11_laysGone_130_52 x k43 hk43 n) S v2 v3 v4 v5 r S' hm
set_option maxHeartbeats 4000000 in
set_option maxRecDepth 20000 in
theorem bpX11_laysGone_130_43 (x : XT) (k43 : ST → Int32 → Int32 → Int32 → Option (Unit × ST)) (hk43 : ∀ (S : ST) (v2 : Int32) (v3 : Int32) (v4 : Int32) (r : Unit) (S' : ST), k43 S v2 v3 v4 = some (r, S') → Ev mX11_laysGone 2 0 0 43 [some (.ref 130), none, some (.int v2), some (.int v3), some (.int v4), none, none] [] (mkS x S) (fun v h => v = none ∧ h = mkS x S')) (S : ST) (v2 : Int32) (v3 : Int32) (v4 : Int32) (r : Unit) (S' : ST) (hm : bfX11_laysGone_130_43 x k43 S v2 v3 v4 = some (r, S')) : Ev mX11_laysGone 2 0 0 43 [some (.ref 130), none, some (.int v2), some (.int v3), some (.int v4), none, none] [] (mkS x S) (fun v h => v = none ∧ h = mkS x S') := by
    unfold bfX11_laysGone_130_43 at hm
    refine Ev.steps tokX11_laysGone 3 (P := True) (pc' := if v3 ≤ v4 then 154 else 49) (lv' := [some (.ref 130), none, some (.int v2), some (.int v3), some (.int v4), none, none]) (st' := []) (h' := mkS x S) rfl trivial ?_
    refine Ev.ite (fun c1 => ?_) (fun c1 => ?_)
    · rw [if_pos c1] at hm
      cases hm
      exact Ev.retv tokX11_laysGone rfl rfl ⟨rfl, rfl⟩
    · rw [if_neg c1] at hm
      refine Ev.steps tokX11_laysGone 2 (P := True) (pc' := 52) (lv' := [some (.ref 130), none, some (.int v2), some (.int v3), some (.int v4), some (.int 0), none]) (st' := []) (h' := mkS x S) rfl trivial ?_
      exact lpX11_laysGone_130_52 x k43 hk43 20000 S v2 v3 v4 0 _ _ hm
theorem lpX11_laysGone_130_43 (x : XT)  : ∀ (n : Nat) (S : ST) (v2 : Int32) (v3 : Int32) (v4 : Int32) (r : Unit) (S' : ST), lfX11_laysGone_130_43 x  n S v2 v3 v4 = some (r, S') → Ev mX11_laysGone 2 0 0 43 [some (.ref 130), none, some (.int v2), some (.int v3), some (.int v4), none, none] [] (mkS x S) (fun v h => v = none ∧ h = mkS x S')
  | 0, _, _, _, _, _, _, hm => by cases hm
  | n + 1, S, v2, v3, v4, r, S', hm => bpX11_laysGone_130_43 x (lfX11_laysGone_130_43 x  n) (lpX11_laysGone_130_43 x  n) S v2 v3 v4 r S' hm
set_option maxHeartbeats 4000000 in
set_option maxRecDepth 20000 in
theorem bpX11_laysGone_130_24 (x : XT) (k2 : ST → Int32 → Int32 → Int32 → Option (Unit × ST)) (hk2 : ∀ (S : ST) (v1 : Int32) (v2 : Int32) (v3 : Int32) (r : Unit) (S' : ST), k2 S v1 v2 v3 = some (r, S') → Ev mX11_laysGone 2 0 0 2 [some (.ref 130), some (.int v1), some (.int v2), some (.int v3), none, none, none] [] (mkS x S) (fun v h => v = none ∧ h = mkS x S')) (S : ST) (v1 : Int32) (v2 : Int32) (v3 : Int32) (t1 : Int32) (t2 : Int32) (r : Unit) (S' : ST) (hm : bfX11_laysGone_130_24 x k2 S v1 v2 v3 t1 t2 = some (r, S')) : Ev mX11_laysGone 2 0 0 24 [some (.ref 130), some (.int v1), some (.int v2), some (.int v3), none, none, none] [.int t2, .int t1, .ref 148] (mkS x S) (fun v h => v = none ∧ h = mkS x S') := by
    unfold bfX11_laysGone_130_24 at hm
    obtain ⟨o1, hm⟩ := oblk hm
    refine Ev.steps tokX11_laysGone 3 (P := vp_in t1 120 ∧ True) (pc' := 2) (lv' := [some (.ref 130), some (.int v1), some (.int v2), some (.int (v3 + 1)), none, none, none]) (st' := []) (h' := mkS x (S.1, (u2 S.2.1 148 t1.toNatClampNeg t2), S.2.2.1, S.2.2.2)) rfl ⟨inb_ok o1, trivial⟩ ?_
    exact hk2 (S.1, (u2 S.2.1 148 t1.toNatClampNeg t2), S.2.2.1, S.2.2.2) v1 v2 (v3 + 1) _ _ hm
set_option maxHeartbeats 4000000 in
set_option maxRecDepth 20000 in
theorem bpX11_laysGone_130_2 (x : XT) (k2 : ST → Int32 → Int32 → Int32 → Option (Unit × ST)) (hk2 : ∀ (S : ST) (v1 : Int32) (v2 : Int32) (v3 : Int32) (r : Unit) (S' : ST), k2 S v1 v2 v3 = some (r, S') → Ev mX11_laysGone 2 0 0 2 [some (.ref 130), some (.int v1), some (.int v2), some (.int v3), none, none, none] [] (mkS x S) (fun v h => v = none ∧ h = mkS x S')) (S : ST) (v1 : Int32) (v2 : Int32) (v3 : Int32) (r : Unit) (S' : ST) (hm : bfX11_laysGone_130_2 x k2 S v1 v2 v3 = some (r, S')) : Ev mX11_laysGone 2 0 0 2 [some (.ref 130), some (.int v1), some (.int v2), some (.int v3), none, none, none] [] (mkS x S) (fun v h => v = none ∧ h = mkS x S') := by
    unfold bfX11_laysGone_130_2 at hm
    refine Ev.steps tokX11_laysGone 3 (P := True) (pc' := if 120 ≤ v3 then 31 else 8) (lv' := [some (.ref 130), some (.int v1), some (.int v2), some (.int v3), none, none, none]) (st' := []) (h' := mkS x S) rfl trivial ?_
    refine Ev.ite (fun c1 => ?_) (fun c1 => ?_)
    · rw [if_pos c1] at hm
      refine Ev.steps tokX11_laysGone 9 (P := vp_in 0 120 ∧ True) (pc' := 43) (lv' := [some (.ref 130), some (.int v1), some (.int v2), some (.int 1), some (.int 0), none, none]) (st' := []) (h' := mkS x (S.1, (u2 S.2.1 149 0 v1), S.2.2.1, S.2.2.2)) rfl ⟨(by unfold vp_in; decide), trivial⟩ ?_
      refine Ev.fgt (lv' := [some (.ref 130), none, some (.int v2), some (.int 1), some (.int 0), none, none]) ⟨rfl, rfl, rfl, rfl, trivial⟩ ?_
      exact lpX11_laysGone_130_43 x  20000 (S.1, (u2 S.2.1 149 0 v1), S.2.2.1, S.2.2.2) v2 1 0 _ _ hm
    · rw [if_neg c1] at hm
      refine Ev.steps tokX11_laysGone 6 (P := True) (pc' := if ¬ v3 = v1 then 22 else 18) (lv' := [some (.ref 130), some (.int v1), some (.int v2), some (.int v3), none, none, none]) (st' := [.int v3, .ref 148]) (h' := mkS x S) rfl trivial ?_
      refine Ev.ite (fun c2 => ?_) (fun c2 => ?_)
      · rw [if_pos c2] at hm
        refine Ev.steps tokX11_laysGone 1 (P := True) (pc' := 24) (lv' := [some (.ref 130), some (.int v1), some (.int v2), some (.int v3), none, none, none]) (st' := [.int 1000000, .int v3, .ref 148]) (h' := mkS x S) rfl trivial ?_
        exact bpX11_laysGone_130_24 x k2 hk2 S v1 v2 v3 v3 1000000 _ _ hm
      · rw [if_neg c2] at hm
        refine Ev.steps tokX11_laysGone 2 (P := True) (pc' := 24) (lv' := [some (.ref 130), some (.int v1), some (.int v2), some (.int v3), none, none, none]) (st' := [.int 0, .int v3, .ref 148]) (h' := mkS x S) rfl trivial ?_
        exact bpX11_laysGone_130_24 x k2 hk2 S v1 v2 v3 v3 0 _ _ hm
theorem lpX11_laysGone_130_2 (x : XT)  : ∀ (n : Nat) (S : ST) (v1 : Int32) (v2 : Int32) (v3 : Int32) (r : Unit) (S' : ST), lfX11_laysGone_130_2 x  n S v1 v2 v3 = some (r, S') → Ev mX11_laysGone 2 0 0 2 [some (.ref 130), some (.int v1), some (.int v2), some (.int v3), none, none, none] [] (mkS x S) (fun v h => v = none ∧ h = mkS x S')
  | 0, _, _, _, _, _, _, hm => by cases hm
  | n + 1, S, v1, v2, v3, r, S', hm => bpX11_laysGone_130_2 x (lfX11_laysGone_130_2 x  n) (lpX11_laysGone_130_2 x  n) S v1 v2 v3 r S' hm
set_option maxHeartbeats 4000000 in
set_option maxRecDepth 20000 in
theorem bpX11_laysGone_130_0 (x : XT)  (S : ST) (p1 : Int32) (p2 : Int32) (r : Unit) (S' : ST) (hm : bfX11_laysGone_130_0 x  S p1 p2 = some (r, S')) : Ev mX11_laysGone 2 0 0 0 [some (.ref 130), some (.int p1), some (.int p2), none, none, none, none] [] (mkS x S) (fun v h => v = none ∧ h = mkS x S') := by
    unfold bfX11_laysGone_130_0 at hm
    refine Ev.steps tokX11_laysGone 2 (P := True) (pc' := 2) (lv' := [some (.ref 130), some (.int p1), some (.int p2), some (.int 0), none, none, none]) (st' := []) (h' := mkS x S) rfl trivial ?_
    exact lpX11_laysGone_130_2 x  20000 S p1 p2 0 _ _ hm
theorem gpX11_laysGone_130 (x : XT) (S : ST) (p1 : Int32) (p2 : Int32) (r : Unit) (S' : ST) (hm : gfX11_laysGone_130 x S p1 p2 = some (r, S')) : Ct mX11_laysGone 2 0 0 [.ref 130, .int p1, .int p2] (mkS x S) (fun v h => v = none ∧ h = mkS x S') :=
  Ct.of (lv := [some (.ref 130), some (.int p1), some (.int p2), none, none, none, none]) rfl rfl rfl (show (_ : Nat) ≤ _ from Nat.le_of_ble_eq_true rfl) (fun G => rfl) (bpX11_laysGone_130_0 x S p1 p2 r S' hm)
set_option maxHeartbeats 4000000 in
set_option maxRecDepth 20000 in
theorem bpX11_comesTo_130_35 (x : XT) (k4 : ST → Int32 → Int32 → Int32 → Option (Int32 × ST)) (hk4 : ∀ (S : ST) (v1 : Int32) (v2 : Int32) (v3 : Int32) (r : Int32) (S' : ST), k4 S v1 v2 v3 = some (r, S') → Ev mX11_comesTo 1 0 0 4 [some (.ref 130), some (.int v1), some (.int v2), some (.int v3)] [] (mkS x S) (fun v h => v = some (.int r) ∧ h = mkS x S')) (S : ST) (v1 : Int32) (v3 : Int32) (t0 : Int32) (r : Int32) (S' : ST) (hm : bfX11_comesTo_130_35 x k4 S v1 v3 t0 = some (r, S')) : Ev mX11_comesTo 1 0 0 35 [some (.ref 130), some (.int v1), none, some (.int v3)] [.int t0] (mkS x S) (fun v h => v = some (.int r) ∧ h = mkS x S') := by
    unfold bfX11_comesTo_130_35 at hm
    refine Ev.steps tokX11_comesTo 3 (P := True) (pc' := 4) (lv' := [some (.ref 130), some (.int v1), some (.int t0), some (.int (v3 + 1))]) (st' := []) (h' := mkS x S) rfl trivial ?_
    exact hk4 S v1 t0 (v3 + 1) _ _ hm
set_option maxHeartbeats 4000000 in
set_option maxRecDepth 20000 in
theorem bpX11_comesTo_130_30 (x : XT) (k4 : ST → Int32 → Int32 → Int32 → Option (Int32 × ST)) (hk4 : ∀ (S : ST) (v1 : Int32) (v2 : Int32) (v3 : Int32) (r : Int32) (S' : ST), k4 S v1 v2 v3 = some (r, S') → Ev mX11_comesTo 1 0 0 4 [some (.ref 130), some (.int v1), some (.int v2), some (.int v3)] [] (mkS x S) (fun v h => v = some (.int r) ∧ h = mkS x S')) (S : ST) (v1 : Int32) (v3 : Int32) (r : Int32) (S' : ST) (hm : bfX11_comesTo_130_30 x k4 S v1 v3 = some (r, S')) : Ev mX11_comesTo 1 0 0 30 [some (.ref 130), some (.int v1), none, some (.int v3)] [] (mkS x S) (fun v h => v = some (.int r) ∧ h = mkS x S') := by
    unfold bfX11_comesTo_130_30 at hm
    refine Ev.steps tokX11_comesTo 2 (P := True) (pc' := 35) (lv' := [some (.ref 130), some (.int v1), none, some (.int v3)]) (st' := [.int 1]) (h' := mkS x S) rfl trivial ?_
    exact bpX11_comesTo_130_35 x k4 hk4 S v1 v3 1 _ _ hm
set_option maxHeartbeats 4000000 in
set_option maxRecDepth 20000 in
theorem bpX11_comesTo_130_4 (x : XT) (k4 : ST → Int32 → Int32 → Int32 → Option (Int32 × ST)) (hk4 : ∀ (S : ST) (v1 : Int32) (v2 : Int32) (v3 : Int32) (r : Int32) (S' : ST), k4 S v1 v2 v3 = some (r, S') → Ev mX11_comesTo 1 0 0 4 [some (.ref 130), some (.int v1), some (.int v2), some (.int v3)] [] (mkS x S) (fun v h => v = some (.int r) ∧ h = mkS x S')) (S : ST) (v1 : Int32) (v2 : Int32) (v3 : Int32) (r : Int32) (S' : ST) (hm : bfX11_comesTo_130_4 x k4 S v1 v2 v3 = some (r, S')) : Ev mX11_comesTo 1 0 0 4 [some (.ref 130), some (.int v1), some (.int v2), some (.int v3)] [] (mkS x S) (fun v h => v = some (.int r) ∧ h = mkS x S') := by
    unfold bfX11_comesTo_130_4 at hm
    refine Ev.steps tokX11_comesTo 3 (P := True) (pc' := if 20 ≤ v3 then 42 else 10) (lv' := [some (.ref 130), some (.int v1), some (.int v2), some (.int v3)]) (st' := []) (h' := mkS x S) rfl trivial ?_
    refine Ev.ite (fun c1 => ?_) (fun c1 => ?_)
    · rw [if_pos c1] at hm
      refine Ev.steps tokX11_comesTo 1 (P := True) (pc' := 43) (lv' := [some (.ref 130), some (.int v1), some (.int v2), some (.int v3)]) (st' := [.int v2]) (h' := mkS x S) rfl trivial ?_
      obtain ⟨o2, hm⟩ := oblk hm
      cases hm
      exact Ev.retz tokX11_comesTo rfl rfl (bbz_ok o2) ⟨rfl, rfl⟩
    · rw [if_neg c1] at hm
      refine Ev.steps tokX11_comesTo 2 (P := True) (pc' := if ¬ v2 = 0 then 30 else 14) (lv' := [some (.ref 130), some (.int v1), some (.int v2), some (.int v3)]) (st' := []) (h' := mkS x S) rfl trivial ?_
      refine Ev.ite (fun c3 => ?_) (fun c3 => ?_)
      · rw [if_pos c3] at hm
        refine Ev.fgt (lv' := [some (.ref 130), some (.int v1), none, some (.int v3)]) ⟨rfl, rfl, rfl, trivial⟩ ?_
        exact bpX11_comesTo_130_30 x k4 hk4 S v1 v3 _ _ hm
      · rw [if_neg c3] at hm
        obtain ⟨o4, hm⟩ := oblk hm
        refine Ev.steps tokX11_comesTo 10 (P := vp_in ((20 * v1) + v3) 120 ∧ True) (pc' := if 1000000 ≤ (S.2.1 148 (((20 * v1) + v3).toNatClampNeg)) then 34 else 30) (lv' := [some (.ref 130), some (.int v1), some (.int v2), some (.int v3)]) (st' := []) (h' := mkS x S) rfl ⟨inb_ok o4, trivial⟩ ?_
        refine Ev.ite (fun c5 => ?_) (fun c5 => ?_)
        · rw [if_pos c5] at hm
          refine Ev.steps tokX11_comesTo 1 (P := True) (pc' := 35) (lv' := [some (.ref 130), some (.int v1), some (.int v2), some (.int v3)]) (st' := [.int 0]) (h' := mkS x S) rfl trivial ?_
          refine Ev.fgt (lv' := [some (.ref 130), some (.int v1), none, some (.int v3)]) ⟨rfl, rfl, rfl, trivial⟩ ?_
          exact bpX11_comesTo_130_35 x k4 hk4 S v1 v3 0 _ _ hm
        · rw [if_neg c5] at hm
          refine Ev.fgt (lv' := [some (.ref 130), some (.int v1), none, some (.int v3)]) ⟨rfl, rfl, rfl, trivial⟩ ?_
          exact bpX11_comesTo_130_30 x k4 hk4 S v1 v3 _ _ hm
theorem lpX11_comesTo_130_4 (x : XT)  : ∀ (n : Nat) (S : ST) (v1 : Int32) (v2 : Int32) (v3 : Int32) (r : Int32) (S' : ST), lfX11_comesTo_130_4 x  n S v1 v2 v3 = some (r, S') → Ev mX11_comesTo 1 0 0 4 [some (.ref 130), some (.int v1), some (.int v2), some (.int v3)] [] (mkS x S) (fun v h => v = some (.int r) ∧ h = mkS x S')
  | 0, _, _, _, _, _, _, hm => by cases hm
  | n + 1, S, v1, v2, v3, r, S', hm => bpX11_comesTo_130_4 x (lfX11_comesTo_130_4 x  n) (lpX11_comesTo_130_4 x  n) S v1 v2 v3 r S' hm
set_option maxHeartbeats 4000000 in
set_option maxRecDepth 20000 in
theorem bpX11_comesTo_130_0 (x : XT)  (S : ST) (p1 : Int32) (r : Int32) (S' : ST) (hm : bfX11_comesTo_130_0 x  S p1 = some (r, S')) : Ev mX11_comesTo 1 0 0 0 [some (.ref 130), some (.int p1), none, none] [] (mkS x S) (fun v h => v = some (.int r) ∧ h = mkS x S') := by
    unfold bfX11_comesTo_130_0 at hm
    refine Ev.steps tokX11_comesTo 4 (P := True) (pc' := 4) (lv' := [some (.ref 130), some (.int p1), some (.int 0), some (.int 0)]) (st' := []) (h' := mkS x S) rfl trivial ?_
    exact lpX11_comesTo_130_4 x  20000 S p1 0 0 _ _ hm
theorem gpX11_comesTo_130 (x : XT) (S : ST) (p1 : Int32) (r : Int32) (S' : ST) (hm : gfX11_comesTo_130 x S p1 = some (r, S')) : Ct mX11_comesTo 1 0 0 [.ref 130, .int p1] (mkS x S) (fun v h => v = some (.int r) ∧ h = mkS x S') :=
  Ct.of (lv := [some (.ref 130), some (.int p1), none, none]) rfl rfl rfl (show (_ : Nat) ≤ _ from Nat.le_of_ble_eq_true rfl) (fun G => rfl) (bpX11_comesTo_130_0 x S p1 r S' hm)
end MIR
