section MIR
set_option maxHeartbeats 4000000 in
set_option maxRecDepth 20000 in
theorem bpX11_tells_130_199 (x : XT) (k61 : ST → Int32 → Int32 → Int64 → Option (Int32 × ST)) (hk61 : ∀ (S : ST) (v1 : Int32) (v2 : Int32) (v4 : Int64) (r : Int32) (S' : ST), k61 S v1 v2 v4 = some (r, S') → Ev mX11_tells 124 0 0 61 [some (.ref 130), some (.int v1), some (.int v2), none, some (.long v4), none, none, none, none, none, none] [] (mkS x S) (fun v h => v = some (.int r) ∧ h = mkS x S')) (S : ST) (v1 : Int32) (v2 : Int32) (v4 : Int64) (r : Int32) (S' : ST) (hm : bfX11_tells_130_199 x k61 S v1 v2 v4 = some (r, S')) : Ev mX11_tells 124 0 0 199 [some (.ref 130), some (.int v1), some (.int v2), none, some (.long v4), none, none, none, none, none, none] [] (mkS x S) (fun v h => v = some (.int r) ∧ h = mkS x S') := by
    unfold bfX11_tells_130_199 at hm
    refine Ev.steps tokX11_tells 7 (P := True) (pc' := 61) (lv' := [some (.ref 130), some (.int v1), some (.int v2), none, some (.long v4), none, none, none, none, none, none]) (st' := []) (h' := mkS x ((u2 S.1 130 22 ((S.1 130 22) + 1)), S.2.1, S.2.2.1, S.2.2.2)) rfl trivial ?_
    exact hk61 ((u2 S.1 130 22 ((S.1 130 22) + 1)), S.2.1, S.2.2.1, S.2.2.2) v1 v2 v4 _ _ hm
set_option maxHeartbeats 4000000 in
set_option maxRecDepth 20000 in
theorem bpX11_tells_130_197 (x : XT) (k61 : ST → Int32 → Int32 → Int64 → Option (Int32 × ST)) (hk61 : ∀ (S : ST) (v1 : Int32) (v2 : Int32) (v4 : Int64) (r : Int32) (S' : ST), k61 S v1 v2 v4 = some (r, S') → Ev mX11_tells 124 0 0 61 [some (.ref 130), some (.int v1), some (.int v2), none, some (.long v4), none, none, none, none, none, none] [] (mkS x S) (fun v h => v = some (.int r) ∧ h = mkS x S')) (S : ST) (v1 : Int32) (v2 : Int32) (t0 : Int64) (r : Int32) (S' : ST) (hm : bfX11_tells_130_197 x k61 S v1 v2 t0 = some (r, S')) : Ev mX11_tells 124 0 0 197 [some (.ref 130), some (.int v1), some (.int v2), none, none, none, none, none, none, none, none] [.long t0] (mkS x S) (fun v h => v = some (.int r) ∧ h = mkS x S') := by
    unfold bfX11_tells_130_197 at hm
    refine Ev.steps tokX11_tells 1 (P := True) (pc' := 199) (lv' := [some (.ref 130), some (.int v1), some (.int v2), none, some (.long t0), none, none, none, none, none, none]) (st' := []) (h' := mkS x S) rfl trivial ?_
    exact bpX11_tells_130_199 x k61 hk61 S v1 v2 t0 _ _ hm
set_option maxHeartbeats 4000000 in
set_option maxRecDepth 20000 in
theorem bpX11_tells_130_146 (x : XT) (k61 : ST → Int32 → Int32 → Int64 → Option (Int32 × ST)) (hk61 : ∀ (S : ST) (v1 : Int32) (v2 : Int32) (v4 : Int64) (r : Int32) (S' : ST), k61 S v1 v2 v4 = some (r, S') → Ev mX11_tells 124 0 0 61 [some (.ref 130), some (.int v1), some (.int v2), none, some (.long v4), none, none, none, none, none, none] [] (mkS x S) (fun v h => v = some (.int r) ∧ h = mkS x S')) (S : ST) (v1 : Int32) (v2 : Int32) (v4 : Int64) (v6 : Int32) (v7 : Int64) (v9 : Int32) (t0 : Int32) (r : Int32) (S' : ST) (hm : bfX11_tells_130_146 x k61 S v1 v2 v4 v6 v7 v9 t0 = some (r, S')) : Ev mX11_tells 124 0 0 146 [some (.ref 130), some (.int v1), some (.int v2), none, some (.long v4), none, some (.int v6), some (.long v7), none, some (.int v9), none] [.int t0] (mkS x S) (fun v h => v = some (.int r) ∧ h = mkS x S') := by
    unfold bfX11_tells_130_146 at hm
    refine Ev.steps tokX11_tells 4 (P := True) (pc' := if ¬ v6 = v1 then 199 else 154) (lv' := [some (.ref 130), some (.int v1), some (.int v2), none, some (.long v4), none, some (.int v6), some (.long v7), none, some (.int v9), some (.int t0)]) (st' := []) (h' := mkS x S) rfl trivial ?_
    refine Ev.ite (fun c1 => ?_) (fun c1 => ?_)
    · rw [if_pos c1] at hm
      refine Ev.fgt (lv' := [some (.ref 130), some (.int v1), some (.int v2), none, some (.long v4), none, none, none, none, none, none]) ⟨rfl, rfl, rfl, rfl, trivial⟩ ?_
      exact bpX11_tells_130_199 x k61 hk61 S v1 v2 v4 _ _ hm
    · rw [if_neg c1] at hm
      refine Ev.steps tokX11_tells 2 (P := True) (pc' := if t0 = 0 then 199 else 159) (lv' := [some (.ref 130), some (.int v1), some (.int v2), none, some (.long v4), none, some (.int v6), some (.long v7), none, some (.int v9), some (.int t0)]) (st' := []) (h' := mkS x S) rfl trivial ?_
      refine Ev.ite (fun c2 => ?_) (fun c2 => ?_)
      · rw [if_pos c2] at hm
        refine Ev.fgt (lv' := [some (.ref 130), some (.int v1), some (.int v2), none, some (.long v4), none, none, none, none, none, none]) ⟨rfl, rfl, rfl, rfl, trivial⟩ ?_
        exact bpX11_tells_130_199 x k61 hk61 S v1 v2 v4 _ _ hm
      · rw [if_neg c2] at hm
        refine Ev.steps tokX11_tells 3 (P := True) (pc' := if ¬ (S.1 130 24) = 0 then 199 else 166) (lv' := [some (.ref 130), some (.int v1), some (.int v2), none, some (.long v4), none, some (.int v6), some (.long v7), none, some (.int v9), some (.int t0)]) (st' := []) (h' := mkS x S) rfl trivial ?_
        refine Ev.ite (fun c3 => ?_) (fun c3 => ?_)
        · rw [if_pos c3] at hm
          refine Ev.fgt (lv' := [some (.ref 130), some (.int v1), some (.int v2), none, some (.long v4), none, none, none, none, none, none]) ⟨rfl, rfl, rfl, rfl, trivial⟩ ?_
          exact bpX11_tells_130_199 x k61 hk61 S v1 v2 v4 _ _ hm
        · rw [if_neg c3] at hm
          refine Ev.steps tokX11_tells 2 (P := True) (pc' := if ¬ v9 = 0 then 199 else 171) (lv' := [some (.ref 130), some (.int v1), some (.int v2), none, some (.long v4), none, some (.int v6), some (.long v7), none, some (.int v9), some (.int t0)]) (st' := []) (h' := mkS x S) rfl trivial ?_
          refine Ev.ite (fun c4 => ?_) (fun c4 => ?_)
          · rw [if_pos c4] at hm
            refine Ev.fgt (lv' := [some (.ref 130), some (.int v1), some (.int v2), none, some (.long v4), none, none, none, none, none, none]) ⟨rfl, rfl, rfl, rfl, trivial⟩ ?_
            exact bpX11_tells_130_199 x k61 hk61 S v1 v2 v4 _ _ hm
          · rw [if_neg c4] at hm
            refine Ev.steps tokX11_tells 4 (P := True) (pc' := if 0 ≤ (lg_cmp v7 0) then 182 else 178) (lv' := [some (.ref 130), some (.int v1), some (.int v2), none, some (.long v4), none, some (.int v6), some (.long v7), none, some (.int v9), some (.int t0)]) (st' := []) (h' := mkS x S) rfl trivial ?_
            refine Ev.ite (fun c5 => ?_) (fun c5 => ?_)
            · rw [if_pos c5] at hm
              refine Ev.steps tokX11_tells 5 (P := True) (pc' := if (lg_cmp v7 v2.toInt64) ≤ 0 then 195 else 190) (lv' := [some (.ref 130), some (.int v1), some (.int v2), none, some (.long v4), none, some (.int v6), some (.long v7), none, some (.int v9), some (.int t0)]) (st' := []) (h' := mkS x S) rfl trivial ?_
              refine Ev.ite (fun c6 => ?_) (fun c6 => ?_)
              · rw [if_pos c6] at hm
                refine Ev.steps tokX11_tells 1 (P := True) (pc' := 197) (lv' := [some (.ref 130), some (.int v1), some (.int v2), none, some (.long v4), none, some (.int v6), some (.long v7), none, some (.int v9), some (.int t0)]) (st' := [.long v7]) (h' := mkS x S) rfl trivial ?_
                refine Ev.fgt (lv' := [some (.ref 130), some (.int v1), some (.int v2), none, none, none, none, none, none, none, none]) ⟨rfl, rfl, rfl, trivial⟩ ?_
                exact bpX11_tells_130_197 x k61 hk61 S v1 v2 v7 _ _ hm
              · rw [if_neg c6] at hm
                refine Ev.steps tokX11_tells 3 (P := True) (pc' := 197) (lv' := [some (.ref 130), some (.int v1), some (.int v2), none, some (.long v4), none, some (.int v6), some (.long v7), none, some (.int v9), some (.int t0)]) (st' := [.long v2.toInt64]) (h' := mkS x S) rfl trivial ?_
                refine Ev.fgt (lv' := [some (.ref 130), some (.int v1), some (.int v2), none, none, none, none, none, none, none, none]) ⟨rfl, rfl, rfl, trivial⟩ ?_
                exact bpX11_tells_130_197 x k61 hk61 S v1 v2 v2.toInt64 _ _ hm
            · rw [if_neg c5] at hm
              refine Ev.steps tokX11_tells 2 (P := True) (pc' := 197) (lv' := [some (.ref 130), some (.int v1), some (.int v2), none, some (.long v4), none, some (.int v6), some (.long v7), none, some (.int v9), some (.int t0)]) (st' := [.long 0]) (h' := mkS x S) rfl trivial ?_
              refine Ev.fgt (lv' := [some (.ref 130), some (.int v1), some (.int v2), none, none, none, none, none, none, none, none]) ⟨rfl, rfl, rfl, trivial⟩ ?_
              exact bpX11_tells_130_197 x k61 hk61 S v1 v2 0 _ _ hm
set_option maxHeartbeats 4000000 in
set_option maxRecDepth 20000 in
theorem bpX11_tells_130_141 (x : XT) (k61 : ST → Int32 → Int32 → Int64 → Option (Int32 × ST)) (hk61 : ∀ (S : ST) (v1 : Int32) (v2 : Int32) (v4 : Int64) (r : Int32) (S' : ST), k61 S v1 v2 v4 = some (r, S') → Ev mX11_tells 124 0 0 61 [some (.ref 130), some (.int v1), some (.int v2), none, some (.long v4), none, none, none, none, none, none] [] (mkS x S) (fun v h => v = some (.int r) ∧ h = mkS x S')) (S : ST) (v1 : Int32) (v2 : Int32) (v4 : Int64) (v6 : Int32) (v7 : Int64) (v9 : Int32) (r : Int32) (S' : ST) (hm : bfX11_tells_130_141 x k61 S v1 v2 v4 v6 v7 v9 = some (r, S')) : Ev mX11_tells 124 0 0 141 [some (.ref 130), some (.int v1), some (.int v2), none, some (.long v4), none, some (.int v6), some (.long v7), none, some (.int v9), none] [] (mkS x S) (fun v h => v = some (.int r) ∧ h = mkS x S') := by
    unfold bfX11_tells_130_141 at hm
    refine Ev.steps tokX11_tells 2 (P := True) (pc' := 146) (lv' := [some (.ref 130), some (.int v1), some (.int v2), none, some (.long v4), none, some (.int v6), some (.long v7), none, some (.int v9), none]) (st' := [.int 1]) (h' := mkS x S) rfl trivial ?_
    exact bpX11_tells_130_146 x k61 hk61 S v1 v2 v4 v6 v7 v9 1 _ _ hm
set_option maxHeartbeats 4000000 in
set_option maxRecDepth 20000 in
theorem bpX11_tells_130_112 (x : XT) (k61 : ST → Int32 → Int32 → Int64 → Option (Int32 × ST)) (hk61 : ∀ (S : ST) (v1 : Int32) (v2 : Int32) (v4 : Int64) (r : Int32) (S' : ST), k61 S v1 v2 v4 = some (r, S') → Ev mX11_tells 124 0 0 61 [some (.ref 130), some (.int v1), some (.int v2), none, some (.long v4), none, none, none, none, none, none] [] (mkS x S) (fun v h => v = some (.int r) ∧ h = mkS x S')) (S : ST) (v1 : Int32) (v2 : Int32) (v4 : Int64) (v6 : Int32) (t0 : Int64) (r : Int32) (S' : ST) (hm : bfX11_tells_130_112 x k61 S v1 v2 v4 v6 t0 = some (r, S')) : Ev mX11_tells 124 0 0 112 [some (.ref 130), some (.int v1), some (.int v2), none, some (.long v4), none, some (.int v6), none, none, none, none] [.long t0] (mkS x S) (fun v h => v = some (.int r) ∧ h = mkS x S') := by
    unfold bfX11_tells_130_112 at hm
    refine Ev.steps tokX11_tells 9 (P := (0 = 0 ∨ 0 = 1) ∧ True) (pc' := 127) (lv' := [some (.ref 130), some (.int v1), some (.int v2), none, some (.long v4), none, some (.int v6), some (.long t0), none, some (.int (S.1 130 24)), none]) (st' := [.int 4, .ref 130]) (h' := mkS x ((u2 S.1 130 24 0), S.2.1, S.2.2.1, S.2.2.2)) rfl ⟨Or.inl rfl, trivial⟩ ?_
    cases h1 : gfX11_passes0_130 x ((u2 S.1 130 24 0), S.2.1, S.2.2.1, S.2.2.2) 4 with
    | none => rw [h1] at hm; cases hm
    | some q2 =>
      obtain ⟨r3, S4⟩ := q2
      rw [h1] at hm
      dsimp only at hm
      refine ev_callV (N := mX11_passes0) (d' := 2) (bc := 0) (bs := 0) (bc' := 0) (bs' := 0) (as := [.int 4]) (rest := []) (a := 130) (ci := 11) (dcd tokX11_tells rfl) okX11_passes0 inX11_passes0 seX11_passes0 lk11_315 rfl (by decide) (Nat.le_of_ble_eq_true rfl) rfl ⟨by decide, rfl⟩ (gpX11_passes0_130 x ((u2 S.1 130 24 0), S.2.1, S.2.2.1, S.2.2.2) 4 _ _ h1) (fun v h' hq hn => ?_)
      obtain ⟨rfl, rfl⟩ := hq
      refine Ev.steps tokX11_tells 1 (P := True) (pc' := if r3 = 0 then 141 else 133) (lv' := [some (.ref 130), some (.int v1), some (.int v2), none, some (.long v4), none, some (.int v6), some (.long t0), none, some (.int (S.1 130 24)), none]) (st' := []) (h' := mkS x S4) rfl trivial ?_
      refine Ev.ite (fun c5 => ?_) (fun c5 => ?_)
      · rw [if_pos c5] at hm
        exact bpX11_tells_130_141 x k61 hk61 S4 v1 v2 v4 v6 t0 (S.1 130 24) _ _ hm
      · rw [if_neg c5] at hm
        refine Ev.steps tokX11_tells 2 (P := True) (pc' := 135) (lv' := [some (.ref 130), some (.int v1), some (.int v2), none, some (.long v4), none, some (.int v6), some (.long t0), none, some (.int (S.1 130 24)), none]) (st' := [.int 1, .ref 130]) (h' := mkS x S4) rfl trivial ?_
        cases h6 : gfX11_testOf_130 x S4 1 with
        | none => rw [h6] at hm; cases hm
        | some q7 =>
          obtain ⟨r8, S9⟩ := q7
          rw [h6] at hm
          dsimp only at hm
          refine ev_callV (N := mX11_testOf) (d' := 123) (bc := 0) (bs := 0) (bc' := 0) (bs' := 0) (as := [.int 1]) (rest := []) (a := 130) (ci := 11) (dcd tokX11_tells rfl) okX11_testOf inX11_testOf seX11_testOf lk11_345 rfl (by decide) (Nat.le_of_ble_eq_true rfl) rfl ⟨by decide, rfl⟩ (gpX11_testOf_130 x S4 1 _ _ h6) (fun v h' hq hn => ?_)
          obtain ⟨rfl, rfl⟩ := hq
          refine Ev.steps tokX11_tells 1 (P := True) (pc' := if r8 = 0 then 145 else 141) (lv' := [some (.ref 130), some (.int v1), some (.int v2), none, some (.long v4), none, some (.int v6), some (.long t0), none, some (.int (S.1 130 24)), none]) (st' := []) (h' := mkS x S9) rfl trivial ?_
          refine Ev.ite (fun c10 => ?_) (fun c10 => ?_)
          · rw [if_pos c10] at hm
            refine Ev.steps tokX11_tells 1 (P := True) (pc' := 146) (lv' := [some (.ref 130), some (.int v1), some (.int v2), none, some (.long v4), none, some (.int v6), some (.long t0), none, some (.int (S.1 130 24)), none]) (st' := [.int 0]) (h' := mkS x S9) rfl trivial ?_
            exact bpX11_tells_130_146 x k61 hk61 S9 v1 v2 v4 v6 t0 (S.1 130 24) 0 _ _ hm
          · rw [if_neg c10] at hm
            exact bpX11_tells_130_141 x k61 hk61 S9 v1 v2 v4 v6 t0 (S.1 130 24) _ _ hm
set_option maxHeartbeats 4000000 in
set_option maxRecDepth 20000 in
theorem bpX11_tells_130_61 (x : XT) (k61 : ST → Int32 → Int32 → Int64 → Option (Int32 × ST)) (hk61 : ∀ (S : ST) (v1 : Int32) (v2 : Int32) (v4 : Int64) (r : Int32) (S' : ST), k61 S v1 v2 v4 = some (r, S') → Ev mX11_tells 124 0 0 61 [some (.ref 130), some (.int v1), some (.int v2), none, some (.long v4), none, none, none, none, none, none] [] (mkS x S) (fun v h => v = some (.int r) ∧ h = mkS x S')) (S : ST) (v1 : Int32) (v2 : Int32) (v4 : Int64) (r : Int32) (S' : ST) (hm : bfX11_tells_130_61 x k61 S v1 v2 v4 = some (r, S')) : Ev mX11_tells 124 0 0 61 [some (.ref 130), some (.int v1), some (.int v2), none, some (.long v4), none, none, none, none, none, none] [] (mkS x S) (fun v h => v = some (.int r) ∧ h = mkS x S') := by
    unfold bfX11_tells_130_61 at hm
    refine Ev.steps tokX11_tells 5 (P := True) (pc' := if (S.1 130 23) ≤ (S.1 130 22) then 212 else 72) (lv' := [some (.ref 130), some (.int v1), some (.int v2), none, some (.long v4), none, none, none, none, none, none]) (st' := []) (h' := mkS x S) rfl trivial ?_
    refine Ev.ite (fun c1 => ?_) (fun c1 => ?_)
    · rw [if_pos c1] at hm
      refine Ev.steps tokX11_tells 2 (P := True) (pc' := 215) (lv' := [some (.ref 130), some (.int v1), some (.int v2), none, some (.long v4), none, none, none, none, none, none]) (st' := [.int v4.toInt32]) (h' := mkS x S) rfl trivial ?_
      cases hm
      exact Ev.reti tokX11_tells rfl rfl ⟨rfl, rfl⟩
    · rw [if_neg c1] at hm
      refine Ev.steps tokX11_tells 3 (P := True) (pc' := 77) (lv' := [some (.ref 130), some (.int v1), some (.int v2), none, some (.long v4), none, none, none, none, none, none]) (st' := [.int (S.1 130 22), .ref 130]) (h' := mkS x S) rfl trivial ?_
      cases h2 : gfX11_codeAt_130 x S (S.1 130 22) with
      | none => rw [h2] at hm; cases hm
      | some q3 =>
        obtain ⟨r4, S5⟩ := q3
        rw [h2] at hm
        dsimp only at hm
        refine ev_callV (N := mX11_codeAt) (d' := 1) (bc := 0) (bs := 0) (bc' := 0) (bs' := 0) (as := [.int (S.1 130 22)]) (rest := []) (a := 130) (ci := 11) (dcd tokX11_tells rfl) okX11_codeAt inX11_codeAt seX11_codeAt lk11_294 rfl (by decide) (Nat.le_of_ble_eq_true rfl) rfl ⟨by decide, rfl⟩ (gpX11_codeAt_130 x S (S.1 130 22) _ _ h2) (fun v h' hq hn => ?_)
        obtain ⟨rfl, rfl⟩ := hq
        refine Ev.steps tokX11_tells 13 (P := (0 = 0 ∨ 0 = 1) ∧ True) (pc' := if ¬ r4 = 3 then 107 else 103) (lv' := [some (.ref 130), some (.int v1), some (.int v2), none, some (.long v4), none, some (.int r4), none, none, none, none]) (st' := []) (h' := mkS x ((u2 (u2 S5.1 130 24 0) 130 22 ((S5.1 130 22) + 1)), S5.2.1, S5.2.2.1, S5.2.2.2)) rfl ⟨Or.inl rfl, trivial⟩ ?_
        refine Ev.ite (fun c6 => ?_) (fun c6 => ?_)
        · rw [if_pos c6] at hm
          refine Ev.steps tokX11_tells 2 (P := True) (pc' := 109) (lv' := [some (.ref 130), some (.int v1), some (.int v2), none, some (.long v4), none, some (.int r4), none, none, none, none]) (st' := [.int 1, .ref 130]) (h' := mkS x ((u2 (u2 S5.1 130 24 0) 130 22 ((S5.1 130 22) + 1)), S5.2.1, S5.2.2.1, S5.2.2.2)) rfl trivial ?_
          cases h7 : gfX11_sumOf_130 x ((u2 (u2 S5.1 130 24 0) 130 22 ((S5.1 130 22) + 1)), S5.2.1, S5.2.2.1, S5.2.2.2) 1 with
          | none => rw [h7] at hm; cases hm
          | some q8 =>
            obtain ⟨r9, S10⟩ := q8
            rw [h7] at hm
            dsimp only at hm
            refine ev_callV (N := mX11_sumOf) (d' := 63) (bc := 0) (bs := 0) (bc' := 0) (bs' := 0) (as := [.int 1]) (rest := []) (a := 130) (ci := 11) (dcd tokX11_tells rfl) okX11_sumOf inX11_sumOf seX11_sumOf lk11_318 rfl (by decide) (Nat.le_of_ble_eq_true rfl) rfl ⟨by decide, rfl⟩ (gpX11_sumOf_130 x ((u2 (u2 S5.1 130 24 0) 130 22 ((S5.1 130 22) + 1)), S5.2.1, S5.2.2.1, S5.2.2.2) 1 _ _ h7) (fun v h' hq hn => ?_)
            obtain ⟨rfl, rfl⟩ := hq
            exact bpX11_tells_130_112 x k61 hk61 S10 v1 v2 v4 r4 r9 _ _ hm
        · rw [if_neg c6] at hm
          refine Ev.steps tokX11_tells 2 (P := True) (pc' := 112) (lv' := [some (.ref 130), some (.int v1), some (.int v2), none, some (.long v4), none, some (.int r4), none, none, none, none]) (st' := [.long 1]) (h' := mkS x ((u2 (u2 S5.1 130 24 0) 130 22 ((S5.1 130 22) + 1)), S5.2.1, S5.2.2.1, S5.2.2.2)) rfl trivial ?_
          exact bpX11_tells_130_112 x k61 hk61 ((u2 (u2 S5.1 130 24 0) 130 22 ((S5.1 130 22) + 1)), S5.2.1, S5.2.2.1, S5.2.2.2) v1 v2 v4 r4 1 _ _ hm
theorem lpX11_tells_130_61 (x : XT)  : ∀ (n : Nat) (S : ST) (v1 : Int32) (v2 : Int32) (v4 : Int64) (r : Int32) (S' : ST), lfX11_tells_130_61 x  n S v1 v2 v4 = some (r, S') → Ev mX11_tells 124 0 0 61 [some (.ref 130), some (.int v1), some (.int v2), none, some (.long v4), none, none, none, none, none, none] [] (mkS x S) (fun v h => v = some (.int r) ∧ h = mkS x S')
  | 0, _, _, _, _, _, _, hm => by cases hm
  | n + 1, S, v1, v2, v4, r, S', hm => bpX11_tells_130_61 x (lfX11_tells_130_61 x  n) (lpX11_tells_130_61 x  n) S v1 v2 v4 r S' hm
set_option maxHeartbeats 4000000 in
set_option maxRecDepth 20000 in
theorem bpX11_tells_130_0 (x : XT)  (S : ST) (p1 : Int32) (p2 : Int32) (p3 : Int32) (r : Int32) (S' : ST) (hm : bfX11_tells_130_0 x  S p1 p2 p3 = some (r, S')) : Ev mX11_tells 124 0 0 0 [some (.ref 130), some (.int p1), some (.int p2), some (.int p3), none, none, none, none, none, none, none] [] (mkS x S) (fun v h => v = some (.int r) ∧ h = mkS x S') := by
    unfold bfX11_tells_130_0 at hm
    refine Ev.steps tokX11_tells 6 (P := vp_in 95 5703 ∧ True) (pc' := if ¬ (S.2.1 132 95) = (-1) then 13 else 11) (lv' := [some (.ref 130), some (.int p1), some (.int p2), some (.int p3), none, none, none, none, none, none, none]) (st' := []) (h' := mkS x S) rfl ⟨(by unfold vp_in; decide), trivial⟩ ?_
    refine Ev.ite (fun c1 => ?_) (fun c1 => ?_)
    · rw [if_pos c1] at hm
      obtain ⟨o2, hm⟩ := oblk hm
      refine Ev.steps tokX11_tells 28 (P := (0 = 0 ∨ 0 = 1) ∧ vp_in 95 5703 ∧ vp_in 95 5703 ∧ vp_in (96 + (S.2.1 132 95)) 5703 ∧ True) (pc' := 61) (lv' := [some (.ref 130), some (.int p1), some (.int p2), some (.int p3), some (.long p3.toInt64), none, none, none, none, none, none]) (st' := []) (h' := mkS x ((u2 (u2 (u2 S.1 130 25 0) 130 22 (400 * (S.2.1 132 95))) 130 23 ((400 * (S.2.1 132 95)) + (S.2.1 132 ((96 + (S.2.1 132 95)).toNatClampNeg)))), S.2.1, S.2.2.1, S.2.2.2)) rfl ⟨Or.inl rfl, (by unfold vp_in; decide), (by unfold vp_in; decide), inb_ok o2, trivial⟩ ?_
      refine Ev.fgt (lv' := [some (.ref 130), some (.int p1), some (.int p2), none, some (.long p3.toInt64), none, none, none, none, none, none]) ⟨rfl, rfl, rfl, rfl, trivial⟩ ?_
      exact lpX11_tells_130_61 x  20000 ((u2 (u2 (u2 S.1 130 25 0) 130 22 (400 * (S.2.1 132 95))) 130 23 ((400 * (S.2.1 132 95)) + (S.2.1 132 ((96 + (S.2.1 132 95)).toNatClampNeg)))), S.2.1, S.2.2.1, S.2.2.2) p1 p2 p3.toInt64 _ _ hm
    · rw [if_neg c1] at hm
      refine Ev.steps tokX11_tells 1 (P := True) (pc' := 12) (lv' := [some (.ref 130), some (.int p1), some (.int p2), some (.int p3), none, none, none, none, none, none, none]) (st' := [.int p3]) (h' := mkS x S) rfl trivial ?_
      cases hm
      exact Ev.reti tokX11_tells rfl rfl ⟨rfl, rfl⟩
theorem gpX11_tells_130 (x : XT) (S : ST) (p1 : Int32) (p2 : Int32) (p3 : Int32) (r : Int32) (S' : ST) (hm : gfX11_tells_130 x S p1 p2 p3 = some (r, S')) : Ct mX11_tells 124 0 0 [.ref 130, .int p1, .int p2, .int p3] (mkS x S) (fun v h => v = some (.int r) ∧ h = mkS x S') :=
  Ct.of (lv := [some (.ref 130), some (.int p1), some (.int p2), some (.int p3), none, none, none, none, none, none, none]) rfl rfl rfl (show (_ : Nat) ≤ _ from Nat.le_of_ble_eq_true rfl) (fun G => rfl) (bpX11_tells_130_0 x S p1 p2 p3 r S' hm)
set_option maxHeartbeats 4000000 in
set_option maxRecDepth 20000 in
theorem bpX11_isBarredNow_130_16 (x : XT)  (S : ST) (t0 : Int32) (r : Int32) (S' : ST) (hm : bfX11_isBarredNow_130_16 x  S t0 = some (r, S')) : Ev mX11_isBarredNow 125 0 0 16 [none] [.int t0] (mkS x S) (fun v h => v = some (.int r) ∧ h = mkS x S') := by
    unfold bfX11_isBarredNow_130_16 at hm
    obtain ⟨o1, hm⟩ := oblk hm
    cases hm
    exact Ev.retz tokX11_isBarredNow rfl rfl (bbz_ok o1) ⟨rfl, rfl⟩
set_option maxHeartbeats 4000000 in
set_option maxRecDepth 20000 in
theorem bpX11_isBarredNow_130_0 (x : XT)  (S : ST)  (r : Int32) (S' : ST) (hm : bfX11_isBarredNow_130_0 x  S  = some (r, S')) : Ev mX11_isBarredNow 125 0 0 0 [some (.ref 130)] [] (mkS x S) (fun v h => v = some (.int r) ∧ h = mkS x S') := by
    unfold bfX11_isBarredNow_130_0 at hm
    refine Ev.steps tokX11_isBarredNow 4 (P := True) (pc' := 4) (lv' := [some (.ref 130)]) (st' := [.int 0, .int 1, .int 3, .ref 130]) (h' := mkS x S) rfl trivial ?_
    cases h1 : gfX11_tells_130 x S 3 1 0 with
    | none => rw [h1] at hm; cases hm
    | some q2 =>
      obtain ⟨r3, S4⟩ := q2
      rw [h1] at hm
      dsimp only at hm
      refine ev_callV (N := mX11_tells) (d' := 124) (bc := 0) (bs := 0) (bc' := 0) (bs' := 0) (as := [.int 3, .int 1, .int 0]) (rest := []) (a := 130) (ci := 11) (dcd tokX11_isBarredNow rfl) okX11_tells inX11_tells seX11_tells lk11_355 rfl (by decide) (Nat.le_of_ble_eq_true rfl) rfl ⟨by decide, rfl⟩ (gpX11_tells_130 x S 3 1 0 _ _ h1) (fun v h' hq hn => ?_)
      obtain ⟨rfl, rfl⟩ := hq
      refine Ev.steps tokX11_isBarredNow 2 (P := True) (pc' := if ¬ r3 = 1 then 15 else 11) (lv' := [some (.ref 130)]) (st' := []) (h' := mkS x S4) rfl trivial ?_
      refine Ev.ite (fun c5 => ?_) (fun c5 => ?_)
      · rw [if_pos c5] at hm
        refine Ev.steps tokX11_isBarredNow 1 (P := True) (pc' := 16) (lv' := [some (.ref 130)]) (st' := [.int 0]) (h' := mkS x S4) rfl trivial ?_
        refine Ev.fgt (lv' := [none]) trivial ?_
        exact bpX11_isBarredNow_130_16 x S4 0 _ _ hm
      · rw [if_neg c5] at hm
        refine Ev.steps tokX11_isBarredNow 2 (P := True) (pc' := 16) (lv' := [some (.ref 130)]) (st' := [.int 1]) (h' := mkS x S4) rfl trivial ?_
        refine Ev.fgt (lv' := [none]) trivial ?_
        exact bpX11_isBarredNow_130_16 x S4 1 _ _ hm
theorem gpX11_isBarredNow_130 (x : XT) (S : ST)  (r : Int32) (S' : ST) (hm : gfX11_isBarredNow_130 x S  = some (r, S')) : Ct mX11_isBarredNow 125 0 0 [.ref 130] (mkS x S) (fun v h => v = some (.int r) ∧ h = mkS x S') :=
  Ct.of (lv := [some (.ref 130)]) rfl rfl rfl (show (_ : Nat) ≤ _ from Nat.le_of_ble_eq_true rfl) (fun G => rfl) (bpX11_isBarredNow_130_0 x S  r S' hm)
set_option maxHeartbeats 4000000 in
set_option maxRecDepth 20000 in
theorem bpX11_canGo_130_32 (x : XT)  (S : ST)  (r : Int32) (S' : ST) (hm : bfX11_canGo_130_32 x  S  = some (r, S')) : Ev mX11_canGo 126 0 0 32 [none, none, none] [] (mkS x S) (fun v h => v = some (.int r) ∧ h = mkS x S') := by
    unfold bfX11_canGo_130_32 at hm
    refine Ev.steps tokX11_canGo 1 (P := True) (pc' := 33) (lv' := [none, none, none]) (st' := [.int 0]) (h' := mkS x S) rfl trivial ?_
    cases hm
    exact Ev.retz tokX11_canGo rfl rfl (Or.inl rfl) ⟨rfl, rfl⟩
set_option maxHeartbeats 4000000 in
set_option maxRecDepth 20000 in
theorem bpX11_canGo_130_60 (x : XT)  (S : ST) (t0 : Int32) (r : Int32) (S' : ST) (hm : bfX11_canGo_130_60 x  S t0 = some (r, S')) : Ev mX11_canGo 126 0 0 60 [none, none, none] [.int t0] (mkS x S) (fun v h => v = some (.int r) ∧ h = mkS x S') := by
    unfold bfX11_canGo_130_60 at hm
    obtain ⟨o1, hm⟩ := oblk hm
    cases hm
    exact Ev.retz tokX11_canGo rfl rfl (bbz_ok o1) ⟨rfl, rfl⟩
set_option maxHeartbeats 4000000 in
set_option maxRecDepth 20000 in
theorem bpX11_canGo_130_0 (x : XT)  (S : ST) (p1 : Int32) (p2 : Int32) (r : Int32) (S' : ST) (hm : bfX11_canGo_130_0 x  S p1 p2 = some (r, S')) : Ev mX11_canGo 126 0 0 0 [some (.ref 130), some (.int p1), some (.int p2)] [] (mkS x S) (fun v h => v = some (.int r) ∧ h = mkS x S') := by
    unfold bfX11_canGo_130_0 at hm
    obtain ⟨o1, hm⟩ := oblk hm
    obtain ⟨o2, hm⟩ := oblk hm
    refine Ev.steps tokX11_canGo 13 (P := vp_in (36 + p2) 5703 ∧ vp_in (0 + p1) 5703 ∧ True) (pc' := if ¬ (S.2.1 132 ((36 + p2).toNatClampNeg)) = (S.2.1 132 ((0 + p1).toNatClampNeg)) then 32 else 20) (lv' := [some (.ref 130), some (.int p1), some (.int p2)]) (st' := []) (h' := mkS x S) rfl ⟨inb_ok o1, inb_ok o2, trivial⟩ ?_
    refine Ev.ite (fun c3 => ?_) (fun c3 => ?_)
    · rw [if_pos c3] at hm
      refine Ev.fgt (lv' := [none, none, none]) trivial ?_
      exact bpX11_canGo_130_32 x S _ _ hm
    · rw [if_neg c3] at hm
      obtain ⟨o4, hm⟩ := oblk hm
      refine Ev.steps tokX11_canGo 7 (P := vp_in (25 + p2) 5703 ∧ True) (pc' := if ¬ (S.2.1 132 ((25 + p2).toNatClampNeg)) = 0 then 34 else 32) (lv' := [some (.ref 130), some (.int p1), some (.int p2)]) (st' := []) (h' := mkS x S) rfl ⟨inb_ok o4, trivial⟩ ?_
      refine Ev.ite (fun c5 => ?_) (fun c5 => ?_)
      · rw [if_pos c5] at hm
        obtain ⟨o6, hm⟩ := oblk hm
        refine Ev.steps tokX11_canGo 9 (P := vp_in (5 + p1) 5703 ∧ True) (pc' := 45) (lv' := [some (.ref 130), some (.int p1), some (.int p2)]) (st' := [.int (S.2.1 132 ((5 + p1).toNatClampNeg)), .int p2, .int p1, .ref 130]) (h' := mkS x S) rfl ⟨inb_ok o6, trivial⟩ ?_
        cases h7 : gfX11_setsGate_130 x S p1 p2 (S.2.1 132 ((5 + p1).toNatClampNeg)) with
        | none => rw [h7] at hm; cases hm
        | some q8 =>
          obtain ⟨r9, S10⟩ := q8
          rw [h7] at hm
          dsimp only at hm
          refine ev_callV (N := mX11_setsGate) (d' := 2) (bc := 0) (bs := 0) (bc' := 0) (bs' := 0) (as := [.int p1, .int p2, .int (S.2.1 132 ((5 + p1).toNatClampNeg))]) (rest := []) (a := 130) (ci := 11) (dcd tokX11_canGo rfl) okX11_setsGate inX11_setsGate seX11_setsGate lk11_159 rfl (by decide) (Nat.le_of_ble_eq_true rfl) rfl ⟨by decide, rfl⟩ (gpX11_setsGate_130 x S p1 p2 (S.2.1 132 ((5 + p1).toNatClampNeg)) _ _ h7) (fun v h' hq hn => ?_)
          obtain ⟨rfl, rfl⟩ := hq
          refine Ev.steps tokX11_canGo 1 (P := True) (pc' := 49) (lv' := [some (.ref 130), some (.int p1), some (.int p2)]) (st' := [.ref 130]) (h' := mkS x S10) rfl trivial ?_
          cases h11 : gfX11_isBarredNow_130 x S10 with
          | none => rw [h11] at hm; cases hm
          | some q12 =>
            obtain ⟨r13, S14⟩ := q12
            rw [h11] at hm
            dsimp only at hm
            refine ev_callV (N := mX11_isBarredNow) (d' := 125) (bc := 0) (bs := 0) (bc' := 0) (bs' := 0) (as := []) (rest := []) (a := 130) (ci := 11) (dcd tokX11_canGo rfl) okX11_isBarredNow inX11_isBarredNow seX11_isBarredNow lk11_169 rfl (by decide) (Nat.le_of_ble_eq_true rfl) rfl ⟨by decide, rfl⟩ (gpX11_isBarredNow_130 x S10 _ _ h11) (fun v h' hq hn => ?_)
            obtain ⟨rfl, rfl⟩ := hq
            refine Ev.steps tokX11_canGo 1 (P := True) (pc' := if ¬ r13 = 0 then 59 else 55) (lv' := [some (.ref 130), some (.int p1), some (.int p2)]) (st' := []) (h' := mkS x S14) rfl trivial ?_
            refine Ev.ite (fun c15 => ?_) (fun c15 => ?_)
            · rw [if_pos c15] at hm
              refine Ev.steps tokX11_canGo 1 (P := True) (pc' := 60) (lv' := [some (.ref 130), some (.int p1), some (.int p2)]) (st' := [.int 0]) (h' := mkS x S14) rfl trivial ?_
              refine Ev.fgt (lv' := [none, none, none]) trivial ?_
              exact bpX11_canGo_130_60 x S14 0 _ _ hm
            · rw [if_neg c15] at hm
              refine Ev.steps tokX11_canGo 2 (P := True) (pc' := 60) (lv' := [some (.ref 130), some (.int p1), some (.int p2)]) (st' := [.int 1]) (h' := mkS x S14) rfl trivial ?_
              refine Ev.fgt (lv' := [none, none, none]) trivial ?_
              exact bpX11_canGo_130_60 x S14 1 _ _ hm
      · rw [if_neg c5] at hm
        refine Ev.fgt (lv' := [none, none, none]) trivial ?_
        exact bpX11_canGo_130_32 x S _ _ hm
theorem gpX11_canGo_130 (x : XT) (S : ST) (p1 : Int32) (p2 : Int32) (r : Int32) (S' : ST) (hm : gfX11_canGo_130 x S p1 p2 = some (r, S')) : Ct mX11_canGo 126 0 0 [.ref 130, .int p1, .int p2] (mkS x S) (fun v h => v = some (.int r) ∧ h = mkS x S') :=
  Ct.of (lv := [some (.ref 130), some (.int p1), some (.int p2)]) rfl rfl rfl (show (_ : Nat) ≤ _ from Nat.le_of_ble_eq_true rfl) (fun G => rfl) (bpX11_canGo_130_0 x S p1 p2 r S' hm)
set_option maxHeartbeats 4000000 in
set_option maxRecDepth 20000 in
theorem bpX11_gatesOf_130_29 (x : XT) (k4 : ST → Int32 → Int32 → Int32 → Option (Int32 × ST)) (hk4 : ∀ (S : ST) (v1 : Int32) (v2 : Int32) (v3 : Int32) (r : Int32) (S' : ST), k4 S v1 v2 v3 = some (r, S') → Ev mX11_gatesOf 127 0 0 4 [some (.ref 130), some (.int v1), some (.int v2), some (.int v3)] [] (mkS x S) (fun v h => v = some (.int r) ∧ h = mkS x S')) (S : ST) (v1 : Int32) (v3 : Int32) (t0 : Int32) (t1 : Int32) (r : Int32) (S' : ST) (hm : bfX11_gatesOf_130_29 x k4 S v1 v3 t0 t1 = some (r, S')) : Ev mX11_gatesOf 127 0 0 29 [some (.ref 130), some (.int v1), none, some (.int v3)] [.int t1, .int t0] (mkS x S) (fun v h => v = some (.int r) ∧ h = mkS x S') := by
    unfold bfX11_gatesOf_130_29 at hm
    refine Ev.steps tokX11_gatesOf 4 (P := True) (pc' := 4) (lv' := [some (.ref 130), some (.int v1), some (.int (t0 ||| t1)), some (.int (v3 + 1))]) (st' := []) (h' := mkS x S) rfl trivial ?_
    exact hk4 S v1 (t0 ||| t1) (v3 + 1) _ _ hm
set_option maxHeartbeats 4000000 in
set_option maxRecDepth 20000 in
theorem bpX11_gatesOf_130_4 (x : XT) (k4 : ST → Int32 → Int32 → Int32 → Option (Int32 × ST)) (hk4 : ∀ (S : ST) (v1 : Int32) (v2 : Int32) (v3 : Int32) (r : Int32) (S' : ST), k4 S v1 v2 v3 = some (r, S') → Ev mX11_gatesOf 127 0 0 4 [some (.ref 130), some (.int v1), some (.int v2), some (.int v3)] [] (mkS x S) (fun v h => v = some (.int r) ∧ h = mkS x S')) (S : ST) (v1 : Int32) (v2 : Int32) (v3 : Int32) (r : Int32) (S' : ST) (hm : bfX11_gatesOf_130_4 x k4 S v1 v2 v3 = some (r, S')) : Ev mX11_gatesOf 127 0 0 4 [some (.ref 130), some (.int v1), some (.int v2), some (.int v3)] [] (mkS x S) (fun v h => v = some (.int r) ∧ h = mkS x S') := by
    unfold bfX11_gatesOf_130_4 at hm
    refine Ev.steps tokX11_gatesOf 2 (P := True) (pc' := 6) (lv' := [some (.ref 130), some (.int v1), some (.int v2), some (.int v3)]) (st' := [.ref 130, .int v3]) (h' := mkS x S) rfl trivial ?_
    cases h1 : gfX11_gateMany_130 x S with
    | none => rw [h1] at hm; cases hm
    | some q2 =>
      obtain ⟨r3, S4⟩ := q2
      rw [h1] at hm
      dsimp only at hm
      refine ev_callV (N := mX11_gateMany) (d' := 1) (bc := 0) (bs := 0) (bc' := 0) (bs' := 0) (as := []) (rest := [.int v3]) (a := 130) (ci := 11) (dcd tokX11_gatesOf rfl) okX11_gateMany inX11_gateMany seX11_gateMany lk11_124 rfl (by decide) (Nat.le_of_ble_eq_true rfl) rfl ⟨by decide, rfl⟩ (gpX11_gateMany_130 x S _ _ h1) (fun v h' hq hn => ?_)
      obtain ⟨rfl, rfl⟩ := hq
      refine Ev.steps tokX11_gatesOf 1 (P := True) (pc' := if r3 ≤ v3 then 37 else 12) (lv' := [some (.ref 130), some (.int v1), some (.int v2), some (.int v3)]) (st' := []) (h' := mkS x S4) rfl trivial ?_
      refine Ev.ite (fun c5 => ?_) (fun c5 => ?_)
      · rw [if_pos c5] at hm
        refine Ev.steps tokX11_gatesOf 1 (P := True) (pc' := 38) (lv' := [some (.ref 130), some (.int v1), some (.int v2), some (.int v3)]) (st' := [.int v2]) (h' := mkS x S4) rfl trivial ?_
        cases hm
        exact Ev.reti tokX11_gatesOf rfl rfl ⟨rfl, rfl⟩
      · rw [if_neg c5] at hm
        refine Ev.steps tokX11_gatesOf 4 (P := True) (pc' := 16) (lv' := [some (.ref 130), some (.int v1), some (.int v2), some (.int v3)]) (st' := [.int v3, .int v1, .ref 130, .int v2]) (h' := mkS x S4) rfl trivial ?_
        cases h6 : gfX11_canGo_130 x S4 v1 v3 with
        | none => rw [h6] at hm; cases hm
        | some q7 =>
          obtain ⟨r8, S9⟩ := q7
          rw [h6] at hm
          dsimp only at hm
          refine ev_callV (N := mX11_canGo) (d' := 126) (bc := 0) (bs := 0) (bc' := 0) (bs' := 0) (as := [.int v1, .int v3]) (rest := [.int v2]) (a := 130) (ci := 11) (dcd tokX11_gatesOf rfl) okX11_canGo inX11_canGo seX11_canGo lk11_155 rfl (by decide) (Nat.le_of_ble_eq_true rfl) rfl ⟨by decide, rfl⟩ (gpX11_canGo_130 x S4 v1 v3 _ _ h6) (fun v h' hq hn => ?_)
          obtain ⟨rfl, rfl⟩ := hq
          refine Ev.steps tokX11_gatesOf 1 (P := True) (pc' := if r8 = 0 then 28 else 22) (lv' := [some (.ref 130), some (.int v1), some (.int v2), some (.int v3)]) (st' := [.int v2]) (h' := mkS x S9) rfl trivial ?_
          refine Ev.ite (fun c10 => ?_) (fun c10 => ?_)
          · rw [if_pos c10] at hm
            refine Ev.steps tokX11_gatesOf 1 (P := True) (pc' := 29) (lv' := [some (.ref 130), some (.int v1), some (.int v2), some (.int v3)]) (st' := [.int 0, .int v2]) (h' := mkS x S9) rfl trivial ?_
            refine Ev.fgt (lv' := [some (.ref 130), some (.int v1), none, some (.int v3)]) ⟨rfl, rfl, rfl, trivial⟩ ?_
            exact bpX11_gatesOf_130_29 x k4 hk4 S9 v1 v3 v2 0 _ _ hm
          · rw [if_neg c10] at hm
            refine Ev.steps tokX11_gatesOf 4 (P := True) (pc' := 29) (lv' := [some (.ref 130), some (.int v1), some (.int v2), some (.int v3)]) (st' := [.int (1 <<< (v3 &&& 31)), .int v2]) (h' := mkS x S9) rfl trivial ?_
            refine Ev.fgt (lv' := [some (.ref 130), some (.int v1), none, some (.int v3)]) ⟨rfl, rfl, rfl, trivial⟩ ?_
            exact bpX11_gatesOf_130_29 x k4 hk4 S9 v1 v3 v2 (1 <<< (v3 &&& 31)) _ _ hm
theorem lpX11_gatesOf_130_4 (x : XT)  : ∀ (n : Nat) (S : ST) (v1 : Int32) (v2 : Int32) (v3 : Int32) (r : Int32) (S' : ST), lfX11_gatesOf_130_4 x  n S v1 v2 v3 = some (r, S') → Ev mX11_gatesOf 127 0 0 4 [some (.ref 130), some (.int v1), some (.int v2), some (.int v3)] [] (mkS x S) (fun v h => v = some (.int r) ∧ h = mkS x S')
  | 0, _, _, _, _, _, _, hm => by cases hm
  | n + 1, S, v1, v2, v3, r, S', hm => bpX11_gatesOf_130_4 x (lfX11_gatesOf_130_4 x  n) (lpX11_gatesOf_130_4 x  n) S v1 v2 v3 r S' hm
set_option maxHeartbeats 4000000 in
set_option maxRecDepth 20000 in
theorem bpX11_gatesOf_130_0 (x : XT)  (S : ST) (p1 : Int32) (r : Int32) (S' : ST) (hm : bfX11_gatesOf_130_0 x  S p1 = some (r, S')) : Ev mX11_gatesOf 127 0 0 0 [some (.ref 130), some (.int p1), none, none] [] (mkS x S) (fun v h => v = some (.int r) ∧ h = mkS x S') := by
    unfold bfX11_gatesOf_130_0 at hm
    refine Ev.steps tokX11_gatesOf 4 (P := True) (pc' := 4) (lv' := [some (.ref 130), some (.int p1), some (.int 0), some (.int 0)]) (st' := []) (h' := mkS x S) rfl trivial ?_
    exact lpX11_gatesOf_130_4 x  20000 S p1 0 0 _ _ hm
theorem gpX11_gatesOf_130 (x : XT) (S : ST) (p1 : Int32) (r : Int32) (S' : ST) (hm : gfX11_gatesOf_130 x S p1 = some (r, S')) : Ct mX11_gatesOf 127 0 0 [.ref 130, .int p1] (mkS x S) (fun v h => v = some (.int r) ∧ h = mkS x S') :=
  Ct.of (lv := [some (.ref 130), some (.int p1), none, none]) rfl rfl rfl (show (_ : Nat) ≤ _ from Nat.le_of_ble_eq_true rfl) (fun G => rfl) (bpX11_gatesOf_130_0 x S p1 r S' hm)
set_option maxHeartbeats 4000000 in
set_option maxRecDepth 20000 in
theorem bpX11_of_130_0 (x : XT)  (S : ST) (p1 : Int32) (p2 : Int32) (r : Int32) (S' : ST) (hm : bfX11_of_130_0 x  S p1 p2 = some (r, S')) : Ev mX11_of 128 0 0 0 [some (.ref 130), some (.int p1), some (.int p2)] [] (mkS x S) (fun v h => v = some (.int r) ∧ h = mkS x S') := by
    unfold bfX11_of_130_0 at hm
    refine Ev.steps tokX11_of 2 (P := True) (pc' := 2) (lv' := [some (.ref 130), some (.int p1), some (.int p2)]) (st' := [.int p1, .ref 130]) (h' := mkS x S) rfl trivial ?_
    cases h1 : gfX11_isGoer_130 x S p1 with
    | none => rw [h1] at hm; cases hm
    | some q2 =>
      obtain ⟨r3, S4⟩ := q2
      rw [h1] at hm
      dsimp only at hm
      refine ev_callV (N := mX11_isGoer) (d' := 2) (bc := 0) (bs := 0) (bc' := 0) (bs' := 0) (as := [.int p1]) (rest := []) (a := 130) (ci := 11) (dcd tokX11_of rfl) okX11_isGoer inX11_isGoer seX11_isGoer lk11_149 rfl (by decide) (Nat.le_of_ble_eq_true rfl) rfl ⟨by decide, rfl⟩ (gpX11_isGoer_130 x S p1 _ _ h1) (fun v h' hq hn => ?_)
      obtain ⟨rfl, rfl⟩ := hq
      refine Ev.steps tokX11_of 1 (P := True) (pc' := if ¬ r3 = 0 then 10 else 8) (lv' := [some (.ref 130), some (.int p1), some (.int p2)]) (st' := []) (h' := mkS x S4) rfl trivial ?_
      refine Ev.ite (fun c5 => ?_) (fun c5 => ?_)
      · rw [if_pos c5] at hm
        refine Ev.steps tokX11_of 1 (P := True) (pc' := 11) (lv' := [some (.ref 130), some (.int p1), some (.int p2)]) (st' := [.int p2]) (h' := mkS x S4) rfl trivial ?_
        by_cases c6 : p2 = 0
        · rw [if_pos c6] at hm
          refine ev_tIn (off := 33) (t := 44) (dcd tokX11_of rfl) (by rw [c6]; decide) (by rw [c6]; decide) (by rw [c6]; rfl) rfl ?_
          obtain ⟨o7, hm⟩ := oblk hm
          refine Ev.steps tokX11_of 6 (P := vp_in (0 + p1) 5703 ∧ True) (pc' := 52) (lv' := [some (.ref 130), some (.int p1), some (.int p2)]) (st' := [.int (S4.2.1 132 ((0 + p1).toNatClampNeg))]) (h' := mkS x S4) rfl ⟨inb_ok o7, trivial⟩ ?_
          cases hm
          exact Ev.reti tokX11_of rfl rfl ⟨rfl, rfl⟩
        rw [if_neg c6] at hm
        by_cases c8 : p2 = 1
        · rw [if_pos c8] at hm
          refine ev_tIn (off := 42) (t := 53) (dcd tokX11_of rfl) (by rw [c8]; decide) (by rw [c8]; decide) (by rw [c8]; rfl) rfl ?_
          obtain ⟨o9, hm⟩ := oblk hm
          refine Ev.steps tokX11_of 6 (P := vp_in (5 + p1) 5703 ∧ True) (pc' := 61) (lv' := [some (.ref 130), some (.int p1), some (.int p2)]) (st' := [.int (S4.2.1 132 ((5 + p1).toNatClampNeg))]) (h' := mkS x S4) rfl ⟨inb_ok o9, trivial⟩ ?_
          cases hm
          exact Ev.reti tokX11_of rfl rfl ⟨rfl, rfl⟩
        rw [if_neg c8] at hm
        by_cases c10 : p2 = 2
        · rw [if_pos c10] at hm
          refine ev_tIn (off := 51) (t := 62) (dcd tokX11_of rfl) (by rw [c10]; decide) (by rw [c10]; decide) (by rw [c10]; rfl) rfl ?_
          obtain ⟨o11, hm⟩ := oblk hm
          refine Ev.steps tokX11_of 6 (P := vp_in (66 + p1) 5703 ∧ True) (pc' := 71) (lv' := [some (.ref 130), some (.int p1), some (.int p2)]) (st' := [.int (S4.2.1 132 ((66 + p1).toNatClampNeg))]) (h' := mkS x S4) rfl ⟨inb_ok o11, trivial⟩ ?_
          cases hm
          exact Ev.reti tokX11_of rfl rfl ⟨rfl, rfl⟩
        rw [if_neg c10] at hm
        by_cases c12 : p2 = 3
        · rw [if_pos c12] at hm
          refine ev_tIn (off := 61) (t := 72) (dcd tokX11_of rfl) (by rw [c12]; decide) (by rw [c12]; decide) (by rw [c12]; rfl) rfl ?_
          obtain ⟨o13, hm⟩ := oblk hm
          refine Ev.steps tokX11_of 6 (P := vp_in (10 + p1) 5703 ∧ True) (pc' := 81) (lv' := [some (.ref 130), some (.int p1), some (.int p2)]) (st' := [.int (S4.2.1 132 ((10 + p1).toNatClampNeg))]) (h' := mkS x S4) rfl ⟨inb_ok o13, trivial⟩ ?_
          cases hm
          exact Ev.reti tokX11_of rfl rfl ⟨rfl, rfl⟩
        rw [if_neg c12] at hm
        by_cases c14 : p2 = 4
        · rw [if_pos c14] at hm
          refine ev_tIn (off := 71) (t := 82) (dcd tokX11_of rfl) (by rw [c14]; decide) (by rw [c14]; decide) (by rw [c14]; rfl) rfl ?_
          refine Ev.steps tokX11_of 2 (P := True) (pc' := 84) (lv' := [some (.ref 130), some (.int p1), some (.int p2)]) (st' := [.int p1, .ref 130]) (h' := mkS x S4) rfl trivial ?_
          cases h15 : gfX11_gatesOf_130 x S4 p1 with
          | none => rw [h15] at hm; cases hm
          | some q16 =>
            obtain ⟨r17, S18⟩ := q16
            rw [h15] at hm
            dsimp only at hm
            refine ev_callV (N := mX11_gatesOf) (d' := 127) (bc := 0) (bs := 0) (bc' := 0) (bs' := 0) (as := [.int p1]) (rest := []) (a := 130) (ci := 11) (dcd tokX11_of rfl) okX11_gatesOf inX11_gatesOf seX11_gatesOf lk11_152 rfl (by decide) (Nat.le_of_ble_eq_true rfl) rfl ⟨by decide, rfl⟩ (gpX11_gatesOf_130 x S4 p1 _ _ h15) (fun v h' hq hn => ?_)
            obtain ⟨rfl, rfl⟩ := hq
            cases hm
            exact Ev.reti tokX11_of rfl rfl ⟨rfl, rfl⟩
        rw [if_neg c14] at hm
        refine ev_tOut (t := 88) (dcd tokX11_of rfl) (by have zc6 := lv_neT c6 (show (0 : Int32).toInt = 0 from by decide); have zc8 := lv_neT c8 (show (1 : Int32).toInt = 1 from by decide); have zc10 := lv_neT c10 (show (2 : Int32).toInt = 2 from by decide); have zc12 := lv_neT c12 (show (3 : Int32).toInt = 3 from by decide); have zc14 := lv_neT c14 (show (4 : Int32).toInt = 4 from by decide); omega) rfl ?_
        refine Ev.steps tokX11_of 1 (P := True) (pc' := 89) (lv' := [some (.ref 130), some (.int p1), some (.int p2)]) (st' := [.int (-1)]) (h' := mkS x S4) rfl trivial ?_
        cases hm
        exact Ev.reti tokX11_of rfl rfl ⟨rfl, rfl⟩
      · rw [if_neg c5] at hm
        refine Ev.steps tokX11_of 1 (P := True) (pc' := 9) (lv' := [some (.ref 130), some (.int p1), some (.int p2)]) (st' := [.int (-1)]) (h' := mkS x S4) rfl trivial ?_
        cases hm
        exact Ev.reti tokX11_of rfl rfl ⟨rfl, rfl⟩
theorem gpX11_of_130 (x : XT) (S : ST) (p1 : Int32) (p2 : Int32) (r : Int32) (S' : ST) (hm : gfX11_of_130 x S p1 p2 = some (r, S')) : Ct mX11_of 128 0 0 [.ref 130, .int p1, .int p2] (mkS x S) (fun v h => v = some (.int r) ∧ h = mkS x S') :=
  Ct.of (lv := [some (.ref 130), some (.int p1), some (.int p2)]) rfl rfl rfl (show (_ : Nat) ≤ _ from Nat.le_of_ble_eq_true rfl) (fun G => rfl) (bpX11_of_130_0 x S p1 p2 r S' hm)
set_option maxHeartbeats 4000000 in
set_option maxRecDepth 20000 in
theorem bpX11_turnsNow_130_0 (x : XT)  (S : ST)  (r : Int32) (S' : ST) (hm : bfX11_turnsNow_130_0 x  S  = some (r, S')) : Ev mX11_turnsNow 125 0 0 0 [some (.ref 130)] [] (mkS x S) (fun v h => v = some (.int r) ∧ h = mkS x S') := by
    unfold bfX11_turnsNow_130_0 at hm
    refine Ev.steps tokX11_turnsNow 10 (P := vp_in 6 8 ∧ True) (pc' := 14) (lv' := [some (.ref 130)]) (st' := [.int ((S.2.1 142 6) - 1), .int 0, .int 19, .int 1, .ref 130]) (h' := mkS x S) rfl ⟨(by unfold vp_in; decide), trivial⟩ ?_
    cases h1 : gfX11_greater x S 0 ((S.2.1 142 6) - 1) with
    | none => rw [h1] at hm; cases hm
    | some q2 =>
      obtain ⟨r3, S4⟩ := q2
      rw [h1] at hm
      dsimp only at hm
      refine ev_callS (N := mX11_greater) (d' := 1) (bc := 0) (bs := 0) (bc' := 0) (bs' := 0) (as := [.int 0, .int ((S.2.1 142 6) - 1)]) (rest := [.int 19, .int 1, .ref 130]) (dcd tokX11_turnsNow rfl) okX11_greater inX11_greater lk11_352 rfl (by decide) (Nat.le_of_ble_eq_true rfl) (gpX11_greater x S 0 ((S.2.1 142 6) - 1) _ _ h1) (fun v h' hq hn => ?_)
      obtain ⟨rfl, rfl⟩ := hq
      cases h5 : gfX11_tells_130 x S4 1 19 r3 with
      | none => rw [h5] at hm; cases hm
      | some q6 =>
        obtain ⟨r7, S8⟩ := q6
        rw [h5] at hm
        dsimp only at hm
        refine ev_callV (N := mX11_tells) (d' := 124) (bc := 0) (bs := 0) (bc' := 0) (bs' := 0) (as := [.int 1, .int 19, .int r3]) (rest := []) (a := 130) (ci := 11) (dcd tokX11_turnsNow rfl) okX11_tells inX11_tells seX11_tells lk11_355 rfl (by decide) (Nat.le_of_ble_eq_true rfl) rfl ⟨by decide, rfl⟩ (gpX11_tells_130 x S4 1 19 r3 _ _ h5) (fun v h' hq hn => ?_)
        obtain ⟨rfl, rfl⟩ := hq
        cases hm
        exact Ev.reti tokX11_turnsNow rfl rfl ⟨rfl, rfl⟩
theorem gpX11_turnsNow_130 (x : XT) (S : ST)  (r : Int32) (S' : ST) (hm : gfX11_turnsNow_130 x S  = some (r, S')) : Ct mX11_turnsNow 125 0 0 [.ref 130] (mkS x S) (fun v h => v = some (.int r) ∧ h = mkS x S') :=
  Ct.of (lv := [some (.ref 130)]) rfl rfl rfl (show (_ : Nat) ≤ _ from Nat.le_of_ble_eq_true rfl) (fun G => rfl) (bpX11_turnsNow_130_0 x S  r S' hm)
set_option maxHeartbeats 4000000 in
set_option maxRecDepth 20000 in
theorem bpX11_paysNow_130_0 (x : XT)  (S : ST)  (r : Int32) (S' : ST) (hm : bfX11_paysNow_130_0 x  S  = some (r, S')) : Ev mX11_paysNow 125 0 0 0 [some (.ref 130)] [] (mkS x S) (fun v h => v = some (.int r) ∧ h = mkS x S') := by
    unfold bfX11_paysNow_130_0 at hm
    refine Ev.steps tokX11_paysNow 4 (P := True) (pc' := 5) (lv' := [some (.ref 130)]) (st' := [.int 1, .int 9, .int 2, .ref 130]) (h' := mkS x S) rfl trivial ?_
    cases h1 : gfX11_tells_130 x S 2 9 1 with
    | none => rw [h1] at hm; cases hm
    | some q2 =>
      obtain ⟨r3, S4⟩ := q2
      rw [h1] at hm
      dsimp only at hm
      refine ev_callV (N := mX11_tells) (d' := 124) (bc := 0) (bs := 0) (bc' := 0) (bs' := 0) (as := [.int 2, .int 9, .int 1]) (rest := []) (a := 130) (ci := 11) (dcd tokX11_paysNow rfl) okX11_tells inX11_tells seX11_tells lk11_355 rfl (by decide) (Nat.le_of_ble_eq_true rfl) rfl ⟨by decide, rfl⟩ (gpX11_tells_130 x S 2 9 1 _ _ h1) (fun v h' hq hn => ?_)
      obtain ⟨rfl, rfl⟩ := hq
      cases hm
      exact Ev.reti tokX11_paysNow rfl rfl ⟨rfl, rfl⟩
theorem gpX11_paysNow_130 (x : XT) (S : ST)  (r : Int32) (S' : ST) (hm : gfX11_paysNow_130 x S  = some (r, S')) : Ct mX11_paysNow 125 0 0 [.ref 130] (mkS x S) (fun v h => v = some (.int r) ∧ h = mkS x S') :=
  Ct.of (lv := [some (.ref 130)]) rfl rfl rfl (show (_ : Nat) ≤ _ from Nat.le_of_ble_eq_true rfl) (fun G => rfl) (bpX11_paysNow_130_0 x S  r S' hm)
set_option maxHeartbeats 4000000 in
set_option maxRecDepth 20000 in
theorem bpX11_asks_130_23 (x : XT)  (S : ST)  (r : Int32) (S' : ST) (hm : bfX11_asks_130_23 x  S  = some (r, S')) : Ev mX11_asks 126 0 0 23 [none, none, none, none, none] [] (mkS x S) (fun v h => v = some (.int r) ∧ h = mkS x S') := by
    unfold bfX11_asks_130_23 at hm
    refine Ev.steps tokX11_asks 1 (P := True) (pc' := 24) (lv' := [none, none, none, none, none]) (st' := [.int (-1)]) (h' := mkS x S) rfl trivial ?_
    cases hm
    exact Ev.reti tokX11_asks rfl rfl ⟨rfl, rfl⟩
set_option maxHeartbeats 4000000 in
set_option maxRecDepth 20000 in
theorem bpX11_asks_130_82 (x : XT)  (S : ST) (t0 : Int32) (r : Int32) (S' : ST) (hm : bfX11_asks_130_82 x  S t0 = some (r, S')) : Ev mX11_asks 126 0 0 82 [none, none, none, none, none] [.int t0] (mkS x S) (fun v h => v = some (.int r) ∧ h = mkS x S') := by
    unfold bfX11_asks_130_82 at hm
    cases hm
    exact Ev.reti tokX11_asks rfl rfl ⟨rfl, rfl⟩
set_option maxHeartbeats 4000000 in
set_option maxRecDepth 20000 in
theorem bpX11_asks_130_0 (x : XT)  (S : ST) (p1 : Int32) (p2 : Int32) (p3 : Int32) (p4 : Int32) (r : Int32) (S' : ST) (hm : bfX11_asks_130_0 x  S p1 p2 p3 p4 = some (r, S')) : Ev mX11_asks 126 0 0 0 [some (.ref 130), some (.int p1), some (.int p2), some (.int p3), some (.int p4)] [] (mkS x S) (fun v h => v = some (.int r) ∧ h = mkS x S') := by
    unfold bfX11_asks_130_0 at hm
    refine Ev.steps tokX11_asks 2 (P := True) (pc' := 2) (lv' := [some (.ref 130), some (.int p1), some (.int p2), some (.int p3), some (.int p4)]) (st' := [.int p1, .ref 130]) (h' := mkS x S) rfl trivial ?_
    cases h1 : gfX11_isGoer_130 x S p1 with
    | none => rw [h1] at hm; cases hm
    | some q2 =>
      obtain ⟨r3, S4⟩ := q2
      rw [h1] at hm
      dsimp only at hm
      refine ev_callV (N := mX11_isGoer) (d' := 2) (bc := 0) (bs := 0) (bc' := 0) (bs' := 0) (as := [.int p1]) (rest := []) (a := 130) (ci := 11) (dcd tokX11_asks rfl) okX11_isGoer inX11_isGoer seX11_isGoer lk11_149 rfl (by decide) (Nat.le_of_ble_eq_true rfl) rfl ⟨by decide, rfl⟩ (gpX11_isGoer_130 x S p1 _ _ h1) (fun v h' hq hn => ?_)
      obtain ⟨rfl, rfl⟩ := hq
      refine Ev.steps tokX11_asks 1 (P := True) (pc' := if r3 = 0 then 23 else 8) (lv' := [some (.ref 130), some (.int p1), some (.int p2), some (.int p3), some (.int p4)]) (st' := []) (h' := mkS x S4) rfl trivial ?_
      refine Ev.ite (fun c5 => ?_) (fun c5 => ?_)
      · rw [if_pos c5] at hm
        refine Ev.fgt (lv' := [none, none, none, none, none]) trivial ?_
        exact bpX11_asks_130_23 x S4 _ _ hm
      · rw [if_neg c5] at hm
        refine Ev.steps tokX11_asks 2 (P := True) (pc' := 10) (lv' := [some (.ref 130), some (.int p1), some (.int p2), some (.int p3), some (.int p4)]) (st' := [.int p2, .ref 130]) (h' := mkS x S4) rfl trivial ?_
        cases h6 : gfX11_isGate_130 x S4 p2 with
        | none => rw [h6] at hm; cases hm
        | some q7 =>
          obtain ⟨r8, S9⟩ := q7
          rw [h6] at hm
          dsimp only at hm
          refine ev_callV (N := mX11_isGate) (d' := 2) (bc := 0) (bs := 0) (bc' := 0) (bs' := 0) (as := [.int p2]) (rest := []) (a := 130) (ci := 11) (dcd tokX11_asks rfl) okX11_isGate inX11_isGate seX11_isGate lk11_143 rfl (by decide) (Nat.le_of_ble_eq_true rfl) rfl ⟨by decide, rfl⟩ (gpX11_isGate_130 x S4 p2 _ _ h6) (fun v h' hq hn => ?_)
          obtain ⟨rfl, rfl⟩ := hq
          refine Ev.steps tokX11_asks 1 (P := True) (pc' := if r8 = 0 then 23 else 16) (lv' := [some (.ref 130), some (.int p1), some (.int p2), some (.int p3), some (.int p4)]) (st' := []) (h' := mkS x S9) rfl trivial ?_
          refine Ev.ite (fun c10 => ?_) (fun c10 => ?_)
          · rw [if_pos c10] at hm
            refine Ev.fgt (lv' := [none, none, none, none, none]) trivial ?_
            exact bpX11_asks_130_23 x S9 _ _ hm
          · rw [if_neg c10] at hm
            refine Ev.steps tokX11_asks 1 (P := True) (pc' := 17) (lv' := [some (.ref 130), some (.int p1), some (.int p2), some (.int p3), some (.int p4)]) (st' := [.int p3]) (h' := mkS x S9) rfl trivial ?_
            cases h11 : gfX11_isMany x S9 p3 with
            | none => rw [h11] at hm; cases hm
            | some q12 =>
              obtain ⟨r13, S14⟩ := q12
              rw [h11] at hm
              dsimp only at hm
              refine ev_callS (N := mX11_isMany) (d' := 2) (bc := 0) (bs := 0) (bc' := 0) (bs' := 0) (as := [.int p3]) (rest := []) (dcd tokX11_asks rfl) okX11_isMany inX11_isMany lk11_146 rfl (by decide) (Nat.le_of_ble_eq_true rfl) (gpX11_isMany x S9 p3 _ _ h11) (fun v h' hq hn => ?_)
              obtain ⟨rfl, rfl⟩ := hq
              refine Ev.steps tokX11_asks 1 (P := True) (pc' := if ¬ r13 = 0 then 25 else 23) (lv' := [some (.ref 130), some (.int p1), some (.int p2), some (.int p3), some (.int p4)]) (st' := []) (h' := mkS x S14) rfl trivial ?_
              refine Ev.ite (fun c15 => ?_) (fun c15 => ?_)
              · rw [if_pos c15] at hm
                refine Ev.steps tokX11_asks 4 (P := True) (pc' := 29) (lv' := [some (.ref 130), some (.int p1), some (.int p2), some (.int p3), some (.int p4)]) (st' := [.int p3, .int p2, .int p1, .ref 130]) (h' := mkS x S14) rfl trivial ?_
                cases h16 : gfX11_setsGate_130 x S14 p1 p2 p3 with
                | none => rw [h16] at hm; cases hm
                | some q17 =>
                  obtain ⟨r18, S19⟩ := q17
                  rw [h16] at hm
                  dsimp only at hm
                  refine ev_callV (N := mX11_setsGate) (d' := 2) (bc := 0) (bs := 0) (bc' := 0) (bs' := 0) (as := [.int p1, .int p2, .int p3]) (rest := []) (a := 130) (ci := 11) (dcd tokX11_asks rfl) okX11_setsGate inX11_setsGate seX11_setsGate lk11_159 rfl (by decide) (Nat.le_of_ble_eq_true rfl) rfl ⟨by decide, rfl⟩ (gpX11_setsGate_130 x S14 p1 p2 p3 _ _ h16) (fun v h' hq hn => ?_)
                  obtain ⟨rfl, rfl⟩ := hq
                  refine Ev.steps tokX11_asks 1 (P := True) (pc' := 34) (lv' := [some (.ref 130), some (.int p1), some (.int p2), some (.int p3), some (.int p4)]) (st' := [.int p4]) (h' := mkS x S19) rfl trivial ?_
                  by_cases c20 : p4 = 0
                  · rw [if_pos c20] at hm
                    refine ev_tIn (off := 26) (t := 60) (dcd tokX11_asks rfl) (by rw [c20]; decide) (by rw [c20]; decide) (by rw [c20]; rfl) rfl ?_
                    refine Ev.steps tokX11_asks 1 (P := True) (pc' := 61) (lv' := [some (.ref 130), some (.int p1), some (.int p2), some (.int p3), some (.int p4)]) (st' := [.ref 130]) (h' := mkS x S19) rfl trivial ?_
                    cases h21 : gfX11_turnsNow_130 x S19 with
                    | none => rw [h21] at hm; cases hm
                    | some q22 =>
                      obtain ⟨r23, S24⟩ := q22
                      rw [h21] at hm
                      dsimp only at hm
                      refine ev_callV (N := mX11_turnsNow) (d' := 125) (bc := 0) (bs := 0) (bc' := 0) (bs' := 0) (as := []) (rest := []) (a := 130) (ci := 11) (dcd tokX11_asks rfl) okX11_turnsNow inX11_turnsNow seX11_turnsNow lk11_163 rfl (by decide) (Nat.le_of_ble_eq_true rfl) rfl ⟨by decide, rfl⟩ (gpX11_turnsNow_130 x S19 _ _ h21) (fun v h' hq hn => ?_)
                      obtain ⟨rfl, rfl⟩ := hq
                      cases hm
                      exact Ev.reti tokX11_asks rfl rfl ⟨rfl, rfl⟩
                  rw [if_neg c20] at hm
                  by_cases c25 : p4 = 1
                  · rw [if_pos c25] at hm
                    refine ev_tIn (off := 31) (t := 65) (dcd tokX11_asks rfl) (by rw [c25]; decide) (by rw [c25]; decide) (by rw [c25]; rfl) rfl ?_
                    refine Ev.steps tokX11_asks 1 (P := True) (pc' := 66) (lv' := [some (.ref 130), some (.int p1), some (.int p2), some (.int p3), some (.int p4)]) (st' := [.ref 130]) (h' := mkS x S19) rfl trivial ?_
                    cases h26 : gfX11_paysNow_130 x S19 with
                    | none => rw [h26] at hm; cases hm
                    | some q27 =>
                      obtain ⟨r28, S29⟩ := q27
                      rw [h26] at hm
                      dsimp only at hm
                      refine ev_callV (N := mX11_paysNow) (d' := 125) (bc := 0) (bs := 0) (bc' := 0) (bs' := 0) (as := []) (rest := []) (a := 130) (ci := 11) (dcd tokX11_asks rfl) okX11_paysNow inX11_paysNow seX11_paysNow lk11_166 rfl (by decide) (Nat.le_of_ble_eq_true rfl) rfl ⟨by decide, rfl⟩ (gpX11_paysNow_130 x S19 _ _ h26) (fun v h' hq hn => ?_)
                      obtain ⟨rfl, rfl⟩ := hq
                      cases hm
                      exact Ev.reti tokX11_asks rfl rfl ⟨rfl, rfl⟩
                  rw [if_neg c25] at hm
                  by_cases c30 : p4 = 2
                  · rw [if_pos c30] at hm
                    refine ev_tIn (off := 36) (t := 70) (dcd tokX11_asks rfl) (by rw [c30]; decide) (by rw [c30]; decide) (by rw [c30]; rfl) rfl ?_
                    refine Ev.steps tokX11_asks 1 (P := True) (pc' := 71) (lv' := [some (.ref 130), some (.int p1), some (.int p2), some (.int p3), some (.int p4)]) (st' := [.ref 130]) (h' := mkS x S19) rfl trivial ?_
                    cases h31 : gfX11_isBarredNow_130 x S19 with
                    | none => rw [h31] at hm; cases hm
                    | some q32 =>
                      obtain ⟨r33, S34⟩ := q32
                      rw [h31] at hm
                      dsimp only at hm
                      refine ev_callV (N := mX11_isBarredNow) (d' := 125) (bc := 0) (bs := 0) (bc' := 0) (bs' := 0) (as := []) (rest := []) (a := 130) (ci := 11) (dcd tokX11_asks rfl) okX11_isBarredNow inX11_isBarredNow seX11_isBarredNow lk11_169 rfl (by decide) (Nat.le_of_ble_eq_true rfl) rfl ⟨by decide, rfl⟩ (gpX11_isBarredNow_130 x S19 _ _ h31) (fun v h' hq hn => ?_)
                      obtain ⟨rfl, rfl⟩ := hq
                      refine Ev.steps tokX11_asks 1 (P := True) (pc' := if r33 = 0 then 81 else 77) (lv' := [some (.ref 130), some (.int p1), some (.int p2), some (.int p3), some (.int p4)]) (st' := []) (h' := mkS x S34) rfl trivial ?_
                      refine Ev.ite (fun c35 => ?_) (fun c35 => ?_)
                      · rw [if_pos c35] at hm
                        refine Ev.steps tokX11_asks 1 (P := True) (pc' := 82) (lv' := [some (.ref 130), some (.int p1), some (.int p2), some (.int p3), some (.int p4)]) (st' := [.int 0]) (h' := mkS x S34) rfl trivial ?_
                        refine Ev.fgt (lv' := [none, none, none, none, none]) trivial ?_
                        exact bpX11_asks_130_82 x S34 0 _ _ hm
                      · rw [if_neg c35] at hm
                        refine Ev.steps tokX11_asks 2 (P := True) (pc' := 82) (lv' := [some (.ref 130), some (.int p1), some (.int p2), some (.int p3), some (.int p4)]) (st' := [.int 1]) (h' := mkS x S34) rfl trivial ?_
                        refine Ev.fgt (lv' := [none, none, none, none, none]) trivial ?_
                        exact bpX11_asks_130_82 x S34 1 _ _ hm
                  rw [if_neg c30] at hm
                  refine ev_tOut (t := 83) (dcd tokX11_asks rfl) (by have zc20 := lv_neT c20 (show (0 : Int32).toInt = 0 from by decide); have zc25 := lv_neT c25 (show (1 : Int32).toInt = 1 from by decide); have zc30 := lv_neT c30 (show (2 : Int32).toInt = 2 from by decide); omega) rfl ?_
                  refine Ev.steps tokX11_asks 1 (P := True) (pc' := 84) (lv' := [some (.ref 130), some (.int p1), some (.int p2), some (.int p3), some (.int p4)]) (st' := [.int (-1)]) (h' := mkS x S19) rfl trivial ?_
                  cases hm
                  exact Ev.reti tokX11_asks rfl rfl ⟨rfl, rfl⟩
              · rw [if_neg c15] at hm
                refine Ev.fgt (lv' := [none, none, none, none, none]) trivial ?_
                exact bpX11_asks_130_23 x S14 _ _ hm
theorem gpX11_asks_130 (x : XT) (S : ST) (p1 : Int32) (p2 : Int32) (p3 : Int32) (p4 : Int32) (r : Int32) (S' : ST) (hm : gfX11_asks_130 x S p1 p2 p3 p4 = some (r, S')) : Ct mX11_asks 126 0 0 [.ref 130, .int p1, .int p2, .int p3, .int p4] (mkS x S) (fun v h => v = some (.int r) ∧ h = mkS x S') :=
  Ct.of (lv := [some (.ref 130), some (.int p1), some (.int p2), some (.int p3), some (.int p4)]) rfl rfl rfl (show (_ : Nat) ≤ _ from Nat.le_of_ble_eq_true rfl) (fun G => rfl) (bpX11_asks_130_0 x S p1 p2 p3 p4 r S' hm)
set_option maxHeartbeats 4000000 in
set_option maxRecDepth 20000 in
theorem bpX11_isTerm_0 (x : XT)  (S : ST) (p0 : Int32) (p1 : Int32) (r : Int32) (S' : ST) (hm : bfX11_isTerm_0 x  S p0 p1 = some (r, S')) : Ev mX11_isTerm 2 0 0 0 [some (.int p0), some (.int p1)] [] (mkS x S) (fun v h => v = some (.int r) ∧ h = mkS x S') := by
    unfold bfX11_isTerm_0 at hm
    refine Ev.steps tokX11_isTerm 1 (P := True) (pc' := 1) (lv' := [some (.int p0), some (.int p1)]) (st' := [.int p0]) (h' := mkS x S) rfl trivial ?_
    by_cases c1 : p0 = 0
    · rw [if_pos c1] at hm
      refine ev_tIn (off := 27) (t := 28) (dcd tokX11_isTerm rfl) (by rw [c1]; decide) (by rw [c1]; decide) (by rw [c1]; rfl) rfl ?_
      refine Ev.steps tokX11_isTerm 3 (P := True) (pc' := 33) (lv' := [some (.int p0), some (.int p1)]) (st' := [.int 999, .int 0, .int p1]) (h' := mkS x S) rfl trivial ?_
      cases h2 : gfX11_lies x S p1 0 999 with
      | none => rw [h2] at hm; cases hm
      | some q3 =>
        obtain ⟨r4, S5⟩ := q3
        rw [h2] at hm
        dsimp only at hm
        refine ev_callS (N := mX11_lies) (d' := 1) (bc := 0) (bs := 0) (bc' := 0) (bs' := 0) (as := [.int p1, .int 0, .int 999]) (rest := []) (dcd tokX11_isTerm rfl) okX11_lies inX11_lies lk11_18 rfl (by decide) (Nat.le_of_ble_eq_true rfl) (gpX11_lies x S p1 0 999 _ _ h2) (fun v h' hq hn => ?_)
        obtain ⟨rfl, rfl⟩ := hq
        obtain ⟨o6, hm⟩ := oblk hm
        cases hm
        exact Ev.retz tokX11_isTerm rfl rfl (bbz_ok o6) ⟨rfl, rfl⟩
    rw [if_neg c1] at hm
    by_cases c7 : p0 = 1
    · rw [if_pos c7] at hm
      refine ev_tIn (off := 36) (t := 37) (dcd tokX11_isTerm rfl) (by rw [c7]; decide) (by rw [c7]; decide) (by rw [c7]; rfl) rfl ?_
      refine Ev.steps tokX11_isTerm 3 (P := True) (pc' := 41) (lv' := [some (.int p0), some (.int p1)]) (st' := [.int 10, .int 0, .int p1]) (h' := mkS x S) rfl trivial ?_
      cases h8 : gfX11_lies x S p1 0 10 with
      | none => rw [h8] at hm; cases hm
      | some q9 =>
        obtain ⟨r10, S11⟩ := q9
        rw [h8] at hm
        dsimp only at hm
        refine ev_callS (N := mX11_lies) (d' := 1) (bc := 0) (bs := 0) (bc' := 0) (bs' := 0) (as := [.int p1, .int 0, .int 10]) (rest := []) (dcd tokX11_isTerm rfl) okX11_lies inX11_lies lk11_18 rfl (by decide) (Nat.le_of_ble_eq_true rfl) (gpX11_lies x S p1 0 10 _ _ h8) (fun v h' hq hn => ?_)
        obtain ⟨rfl, rfl⟩ := hq
        obtain ⟨o12, hm⟩ := oblk hm
        cases hm
        exact Ev.retz tokX11_isTerm rfl rfl (bbz_ok o12) ⟨rfl, rfl⟩
    rw [if_neg c7] at hm
    by_cases c13 : p0 = 2
    · rw [if_pos c13] at hm
      refine ev_tIn (off := 44) (t := 45) (dcd tokX11_isTerm rfl) (by rw [c13]; decide) (by rw [c13]; decide) (by rw [c13]; rfl) rfl ?_
      refine Ev.steps tokX11_isTerm 3 (P := True) (pc' := 49) (lv' := [some (.int p0), some (.int p1)]) (st' := [.int 9, .int 0, .int p1]) (h' := mkS x S) rfl trivial ?_
      cases h14 : gfX11_lies x S p1 0 9 with
      | none => rw [h14] at hm; cases hm
      | some q15 =>
        obtain ⟨r16, S17⟩ := q15
        rw [h14] at hm
        dsimp only at hm
        refine ev_callS (N := mX11_lies) (d' := 1) (bc := 0) (bs := 0) (bc' := 0) (bs' := 0) (as := [.int p1, .int 0, .int 9]) (rest := []) (dcd tokX11_isTerm rfl) okX11_lies inX11_lies lk11_18 rfl (by decide) (Nat.le_of_ble_eq_true rfl) (gpX11_lies x S p1 0 9 _ _ h14) (fun v h' hq hn => ?_)
        obtain ⟨rfl, rfl⟩ := hq
        obtain ⟨o18, hm⟩ := oblk hm
        cases hm
        exact Ev.retz tokX11_isTerm rfl rfl (bbz_ok o18) ⟨rfl, rfl⟩
    rw [if_neg c13] at hm
    refine ev_tOut (t := 53) (dcd tokX11_isTerm rfl) (by have zc1 := lv_neT c1 (show (0 : Int32).toInt = 0 from by decide); have zc7 := lv_neT c7 (show (1 : Int32).toInt = 1 from by decide); have zc13 := lv_neT c13 (show (2 : Int32).toInt = 2 from by decide); omega) rfl ?_
    refine Ev.steps tokX11_isTerm 1 (P := True) (pc' := 54) (lv' := [some (.int p0), some (.int p1)]) (st' := [.int 0]) (h' := mkS x S) rfl trivial ?_
    cases hm
    exact Ev.retz tokX11_isTerm rfl rfl (Or.inl rfl) ⟨rfl, rfl⟩
theorem gpX11_isTerm (x : XT) (S : ST) (p0 : Int32) (p1 : Int32) (r : Int32) (S' : ST) (hm : gfX11_isTerm x S p0 p1 = some (r, S')) : Ct mX11_isTerm 2 0 0 [.int p0, .int p1] (mkS x S) (fun v h => v = some (.int r) ∧ h = mkS x S') :=
  Ct.of (lv := [some (.int p0), some (.int p1)]) rfl rfl rfl (show (_ : Nat) ≤ _ from Nat.le_of_ble_eq_true rfl) (fun G => rfl) (bpX11_isTerm_0 x S p0 p1 r S' hm)
end MIR
