section MIR
set_option maxHeartbeats 4000000 in
set_option maxRecDepth 20000 in
theorem bpX4_split_24_18_65 (x : XT)  (S : ST)  (r : Unit) (S' : ST) (hm : bfX4_split_24_18_65 x  S  = some (r, S')) : Ev mX4_split 7 0 0 65 [some (.ref 24), some (.ref 18), none, none, none] [] (mkS x S) (fun v h => v = none ∧ h = mkS x S') := by
    unfold bfX4_split_24_18_65 at hm
    obtain ⟨o1, hm⟩ := oblk hm
    obtain ⟨o2, hm⟩ := oblk hm
    refine Ev.steps tokX4_split 19 (P := vp_in (S.1 24 5) 401 ∧ vp_in (S.1 24 5) 401 ∧ True) (pc' := 100) (lv' := [some (.ref 24), some (.ref 18), none, none, none]) (st' := []) (h' := mkS x ((u2 S.1 24 5 ((S.1 24 5) + 1)), (u2 (u2 S.2.1 30 ((S.1 24 5).toNatClampNeg) 257) 32 ((S.1 24 5).toNatClampNeg) (S.1 18 1)), S.2.2.1, S.2.2.2)) rfl ⟨inb_ok o1, inb_ok o2, trivial⟩ ?_
    cases hm
    exact Ev.retv tokX4_split rfl rfl ⟨rfl, rfl⟩
set_option maxHeartbeats 4000000 in
set_option maxRecDepth 20000 in
theorem bpX4_split_24_18_56 (x : XT) (k9 : ST → Int32 → Int32 → Option (Unit × ST)) (hk9 : ∀ (S : ST) (v2 : Int32) (v3 : Int32) (r : Unit) (S' : ST), k9 S v2 v3 = some (r, S') → Ev mX4_split 7 0 0 9 [some (.ref 24), some (.ref 18), some (.int v2), some (.int v3), none] [] (mkS x S) (fun v h => v = none ∧ h = mkS x S')) (S : ST) (v3 : Int32) (v4 : Int32) (r : Unit) (S' : ST) (hm : bfX4_split_24_18_56 x k9 S v3 v4 = some (r, S')) : Ev mX4_split 7 0 0 56 [some (.ref 24), some (.ref 18), none, some (.int v3), some (.int v4)] [] (mkS x S) (fun v h => v = none ∧ h = mkS x S') := by
    unfold bfX4_split_24_18_56 at hm
    refine Ev.steps tokX4_split 4 (P := True) (pc' := 9) (lv' := [some (.ref 24), some (.ref 18), some (.int v4), some (.int (v3 + 1)), some (.int v4)]) (st' := []) (h' := mkS x S) rfl trivial ?_
    refine Ev.fgt (lv' := [some (.ref 24), some (.ref 18), some (.int v4), some (.int (v3 + 1)), none]) ⟨rfl, rfl, rfl, rfl, trivial⟩ ?_
    exact hk9 S v4 (v3 + 1) _ _ hm
set_option maxHeartbeats 4000000 in
set_option maxRecDepth 20000 in
theorem bpX4_split_24_18_9 (x : XT) (k9 : ST → Int32 → Int32 → Option (Unit × ST)) (hk9 : ∀ (S : ST) (v2 : Int32) (v3 : Int32) (r : Unit) (S' : ST), k9 S v2 v3 = some (r, S') → Ev mX4_split 7 0 0 9 [some (.ref 24), some (.ref 18), some (.int v2), some (.int v3), none] [] (mkS x S) (fun v h => v = none ∧ h = mkS x S')) (S : ST) (v2 : Int32) (v3 : Int32) (r : Unit) (S' : ST) (hm : bfX4_split_24_18_9 x k9 S v2 v3 = some (r, S')) : Ev mX4_split 7 0 0 9 [some (.ref 24), some (.ref 18), some (.int v2), some (.int v3), none] [] (mkS x S) (fun v h => v = none ∧ h = mkS x S') := by
    unfold bfX4_split_24_18_9 at hm
    refine Ev.steps tokX4_split 3 (P := True) (pc' := if 400 ≤ v3 then 65 else 16) (lv' := [some (.ref 24), some (.ref 18), some (.int v2), some (.int v3), none]) (st' := []) (h' := mkS x S) rfl trivial ?_
    refine Ev.ite (fun c1 => ?_) (fun c1 => ?_)
    · rw [if_pos c1] at hm
      refine Ev.fgt (lv' := [some (.ref 24), some (.ref 18), none, none, none]) ⟨rfl, rfl, trivial⟩ ?_
      exact bpX4_split_24_18_65 x S _ _ hm
    · rw [if_neg c1] at hm
      refine Ev.steps tokX4_split 4 (P := True) (pc' := if (S.1 18 1) ≤ v2 then 65 else 24) (lv' := [some (.ref 24), some (.ref 18), some (.int v2), some (.int v3), none]) (st' := []) (h' := mkS x S) rfl trivial ?_
      refine Ev.ite (fun c2 => ?_) (fun c2 => ?_)
      · rw [if_pos c2] at hm
        refine Ev.fgt (lv' := [some (.ref 24), some (.ref 18), none, none, none]) ⟨rfl, rfl, trivial⟩ ?_
        exact bpX4_split_24_18_65 x S _ _ hm
      · rw [if_neg c2] at hm
        obtain ⟨o3, hm⟩ := oblk hm
        refine Ev.steps tokX4_split 10 (P := vp_in v2 400 ∧ True) (pc' := if (S.2.1 19 v2.toNatClampNeg) = 32 then 56 else 40) (lv' := [some (.ref 24), some (.ref 18), some (.int v2), some (.int v3), some (.int (v2 + 1))]) (st' := []) (h' := mkS x S) rfl ⟨inb_ok o3, trivial⟩ ?_
        refine Ev.ite (fun c4 => ?_) (fun c4 => ?_)
        · rw [if_pos c4] at hm
          refine Ev.fgt (lv' := [some (.ref 24), some (.ref 18), none, some (.int v3), some (.int (v2 + 1))]) ⟨rfl, rfl, rfl, rfl, trivial⟩ ?_
          exact bpX4_split_24_18_56 x k9 hk9 S v3 (v2 + 1) _ _ hm
        · rw [if_neg c4] at hm
          refine Ev.steps tokX4_split 3 (P := True) (pc' := 43) (lv' := [some (.ref 24), some (.ref 18), some (.int v2), some (.int v3), some (.int (v2 + 1))]) (st' := [.int v2, .ref 18, .ref 24]) (h' := mkS x S) rfl trivial ?_
          cases h5 : gfX4_behindToken_24_18 x S v2 with
          | none => rw [h5] at hm; cases hm
          | some q6 =>
            obtain ⟨r7, S8⟩ := q6
            rw [h5] at hm
            dsimp only at hm
            refine ev_callV (N := mX4_behindToken) (d' := 2) (bc := 0) (bs := 0) (bc' := 0) (bs' := 0) (as := [.ref 18, .int v2]) (rest := []) (a := 24) (ci := 4) (dcd tokX4_split rfl) okX4_behindToken inX4_behindToken seX4_behindToken lk4_73 rfl (by decide) (Nat.le_of_ble_eq_true rfl) rfl ⟨by decide, rfl⟩ (gpX4_behindToken_24_18 x S v2 _ _ h5) (fun v h' hq hn => ?_)
            obtain ⟨rfl, rfl⟩ := hq
            refine Ev.steps tokX4_split 5 (P := True) (pc' := 53) (lv' := [some (.ref 24), some (.ref 18), some (.int v2), some (.int v3), some (.int r7)]) (st' := [.int r7, .int v2, .ref 18, .ref 24]) (h' := mkS x S8) rfl trivial ?_
            cases h9 : gfX4_addToken_24_18 x S8 v2 r7 with
            | none => rw [h9] at hm; cases hm
            | some q10 =>
              obtain ⟨r11, S12⟩ := q10
              rw [h9] at hm
              dsimp only at hm
              refine ev_callV (N := mX4_addToken) (d' := 6) (bc := 0) (bs := 0) (bc' := 0) (bs' := 0) (as := [.ref 18, .int v2, .int r7]) (rest := []) (a := 24) (ci := 4) (dcd tokX4_split rfl) okX4_addToken inX4_addToken seX4_addToken lk4_77 rfl (by decide) (Nat.le_of_ble_eq_true rfl) rfl ⟨by decide, rfl⟩ (gpX4_addToken_24_18 x S8 v2 r7 _ _ h9) (fun v h' hq hn => ?_)
              obtain ⟨rfl, rfl⟩ := hq
              refine Ev.fgt (lv' := [some (.ref 24), some (.ref 18), none, some (.int v3), some (.int r7)]) ⟨rfl, rfl, rfl, rfl, trivial⟩ ?_
              exact bpX4_split_24_18_56 x k9 hk9 S12 v3 r7 _ _ hm
theorem lpX4_split_24_18_9 (x : XT)  : ∀ (n : Nat) (S : ST) (v2 : Int32) (v3 : Int32) (r : Unit) (S' : ST), lfX4_split_24_18_9 x  n S v2 v3 = some (r, S') → Ev mX4_split 7 0 0 9 [some (.ref 24), some (.ref 18), some (.int v2), some (.int v3), none] [] (mkS x S) (fun v h => v = none ∧ h = mkS x S')
  | 0, _, _, _, _, _, hm => by cases hm
  | n + 1, S, v2, v3, r, S', hm => bpX4_split_24_18_9 x (lfX4_split_24_18_9 x  n) (lpX4_split_24_18_9 x  n) S v2 v3 r S' hm
set_option maxHeartbeats 4000000 in
set_option maxRecDepth 20000 in
theorem bpX4_split_24_18_0 (x : XT)  (S : ST)  (r : Unit) (S' : ST) (hm : bfX4_split_24_18_0 x  S  = some (r, S')) : Ev mX4_split 7 0 0 0 [some (.ref 24), some (.ref 18), none, none, none] [] (mkS x S) (fun v h => v = none ∧ h = mkS x S') := by
    unfold bfX4_split_24_18_0 at hm
    refine Ev.steps tokX4_split 7 (P := True) (pc' := 9) (lv' := [some (.ref 24), some (.ref 18), some (.int 0), some (.int 0), none]) (st' := []) (h' := mkS x ((u2 S.1 24 5 0), S.2.1, S.2.2.1, S.2.2.2)) rfl trivial ?_
    exact lpX4_split_24_18_9 x  20000 ((u2 S.1 24 5 0), S.2.1, S.2.2.1, S.2.2.2) 0 0 _ _ hm
theorem gpX4_split_24_18 (x : XT) (S : ST)  (r : Unit) (S' : ST) (hm : gfX4_split_24_18 x S  = some (r, S')) : Ct mX4_split 7 0 0 [.ref 24, .ref 18] (mkS x S) (fun v h => v = none ∧ h = mkS x S') :=
  Ct.of (lv := [some (.ref 24), some (.ref 18), none, none, none]) rfl rfl rfl (show (_ : Nat) ≤ _ from Nat.le_of_ble_eq_true rfl) (fun G => rfl) (bpX4_split_24_18_0 x S  r S' hm)
set_option maxHeartbeats 4000000 in
set_option maxRecDepth 20000 in
theorem bpX9_clear_25_0 (x : XT)  (S : ST)  (r : Unit) (S' : ST) (hm : bfX9_clear_25_0 x  S  = some (r, S')) : Ev mX9_clear 1 0 0 0 [some (.ref 25)] [] (mkS x S) (fun v h => v = none ∧ h = mkS x S') := by
    unfold bfX9_clear_25_0 at hm
    refine Ev.steps tokX9_clear 6 (P := True) (pc' := 10) (lv' := [some (.ref 25)]) (st' := []) (h' := mkS x ((u2 (u2 S.1 25 0 0) 25 1 0), S.2.1, S.2.2.1, S.2.2.2)) rfl trivial ?_
    cases hm
    exact Ev.retv tokX9_clear rfl rfl ⟨rfl, rfl⟩
theorem gpX9_clear_25 (x : XT) (S : ST)  (r : Unit) (S' : ST) (hm : gfX9_clear_25 x S  = some (r, S')) : Ct mX9_clear 1 0 0 [.ref 25] (mkS x S) (fun v h => v = none ∧ h = mkS x S') :=
  Ct.of (lv := [some (.ref 25)]) rfl rfl rfl (show (_ : Nat) ≤ _ from Nat.le_of_ble_eq_true rfl) (fun G => rfl) (bpX9_clear_25_0 x S  r S' hm)
set_option maxHeartbeats 4000000 in
set_option maxRecDepth 20000 in
theorem bpX4_read_24_18_114 (x : XT)  (S : ST) (t0 : Int32) (r : Int32) (S' : ST) (hm : bfX4_read_24_18_114 x  S t0 = some (r, S')) : Ev mX4_read 65 0 0 114 [none, none, none, none, none] [.int t0] (mkS x S) (fun v h => v = some (.int r) ∧ h = mkS x S') := by
    unfold bfX4_read_24_18_114 at hm
    obtain ⟨o1, hm⟩ := oblk hm
    cases hm
    exact Ev.retz tokX4_read rfl rfl (bbz_ok o1) ⟨rfl, rfl⟩
set_option maxHeartbeats 4000000 in
set_option maxRecDepth 20000 in
theorem bpX4_read_24_18_109 (x : XT)  (S : ST)  (r : Int32) (S' : ST) (hm : bfX4_read_24_18_109 x  S  = some (r, S')) : Ev mX4_read 65 0 0 109 [none, none, none, none, none] [] (mkS x S) (fun v h => v = some (.int r) ∧ h = mkS x S') := by
    unfold bfX4_read_24_18_109 at hm
    refine Ev.steps tokX4_read 2 (P := True) (pc' := 114) (lv' := [none, none, none, none, none]) (st' := [.int 1]) (h' := mkS x S) rfl trivial ?_
    exact bpX4_read_24_18_114 x S 1 _ _ hm
set_option maxHeartbeats 4000000 in
set_option maxRecDepth 20000 in
theorem bpX4_read_24_18_92 (x : XT)  (S : ST)  (r : Int32) (S' : ST) (hm : bfX4_read_24_18_92 x  S  = some (r, S')) : Ev mX4_read 65 0 0 92 [some (.ref 24), none, none, none, none] [] (mkS x S) (fun v h => v = some (.int r) ∧ h = mkS x S') := by
    unfold bfX4_read_24_18_92 at hm
    refine Ev.steps tokX4_read 1 (P := True) (pc' := 93) (lv' := [some (.ref 24), none, none, none, none]) (st' := [.ref 24]) (h' := mkS x S) rfl trivial ?_
    cases h1 : gfX4_here_24 x S with
    | none => rw [h1] at hm; cases hm
    | some q2 =>
      obtain ⟨r3, S4⟩ := q2
      rw [h1] at hm
      dsimp only at hm
      refine ev_callV (N := mX4_here) (d' := 1) (bc := 0) (bs := 0) (bc' := 0) (bs' := 0) (as := []) (rest := []) (a := 24) (ci := 4) (dcd tokX4_read rfl) okX4_here inX4_here seX4_here lk4_58 rfl (by decide) (Nat.le_of_ble_eq_true rfl) rfl ⟨by decide, rfl⟩ (gpX4_here_24 x S _ _ h1) (fun v h' hq hn => ?_)
      obtain ⟨rfl, rfl⟩ := hq
      refine Ev.steps tokX4_read 2 (P := True) (pc' := if r3 = 257 then 109 else 102) (lv' := [some (.ref 24), none, none, none, none]) (st' := []) (h' := mkS x S4) rfl trivial ?_
      refine Ev.ite (fun c5 => ?_) (fun c5 => ?_)
      · rw [if_pos c5] at hm
        refine Ev.fgt (lv' := [none, none, none, none, none]) trivial ?_
        exact bpX4_read_24_18_109 x S4 _ _ hm
      · rw [if_neg c5] at hm
        refine Ev.steps tokX4_read 1 (P := True) (pc' := 103) (lv' := [some (.ref 24), none, none, none, none]) (st' := [.ref 24]) (h' := mkS x S4) rfl trivial ?_
        cases h6 : gfX4_faulty_24 x S4 with
        | none => rw [h6] at hm; cases hm
        | some q7 =>
          obtain ⟨r8, S9⟩ := q7
          rw [h6] at hm
          dsimp only at hm
          refine ev_callV (N := mX4_faulty) (d' := 1) (bc := 0) (bs := 0) (bc' := 0) (bs' := 0) (as := []) (rest := []) (a := 24) (ci := 4) (dcd tokX4_read rfl) okX4_faulty inX4_faulty seX4_faulty lk4_62 rfl (by decide) (Nat.le_of_ble_eq_true rfl) rfl ⟨by decide, rfl⟩ (gpX4_faulty_24 x S4 _ _ h6) (fun v h' hq hn => ?_)
          obtain ⟨rfl, rfl⟩ := hq
          refine Ev.steps tokX4_read 1 (P := True) (pc' := if r8 = 0 then 113 else 109) (lv' := [some (.ref 24), none, none, none, none]) (st' := []) (h' := mkS x S9) rfl trivial ?_
          refine Ev.ite (fun c10 => ?_) (fun c10 => ?_)
          · rw [if_pos c10] at hm
            refine Ev.steps tokX4_read 1 (P := True) (pc' := 114) (lv' := [some (.ref 24), none, none, none, none]) (st' := [.int 0]) (h' := mkS x S9) rfl trivial ?_
            refine Ev.fgt (lv' := [none, none, none, none, none]) trivial ?_
            exact bpX4_read_24_18_114 x S9 0 _ _ hm
          · rw [if_neg c10] at hm
            refine Ev.fgt (lv' := [none, none, none, none, none]) trivial ?_
            exact bpX4_read_24_18_109 x S9 _ _ hm
set_option maxHeartbeats 4000000 in
set_option maxRecDepth 20000 in
theorem bpX4_read_24_18_86 (x : XT) (k37 : ST → Int32 → Int32 → Option (Int32 × ST)) (hk37 : ∀ (S : ST) (v3 : Int32) (v4 : Int32) (r : Int32) (S' : ST), k37 S v3 v4 = some (r, S') → Ev mX4_read 65 0 0 37 [some (.ref 24), none, none, some (.int v3), some (.int v4)] [] (mkS x S) (fun v h => v = some (.int r) ∧ h = mkS x S')) (S : ST) (v3 : Int32) (v4 : Int32) (r : Int32) (S' : ST) (hm : bfX4_read_24_18_86 x k37 S v3 v4 = some (r, S')) : Ev mX4_read 65 0 0 86 [some (.ref 24), none, none, some (.int v3), some (.int v4)] [] (mkS x S) (fun v h => v = some (.int r) ∧ h = mkS x S') := by
    unfold bfX4_read_24_18_86 at hm
    refine Ev.steps tokX4_read 2 (P := True) (pc' := 37) (lv' := [some (.ref 24), none, none, some (.int v3), some (.int (v4 + 1))]) (st' := []) (h' := mkS x S) rfl trivial ?_
    exact hk37 S v3 (v4 + 1) _ _ hm
set_option maxHeartbeats 4000000 in
set_option maxRecDepth 20000 in
theorem bpX4_read_24_18_71 (x : XT) (k37 : ST → Int32 → Int32 → Option (Int32 × ST)) (hk37 : ∀ (S : ST) (v3 : Int32) (v4 : Int32) (r : Int32) (S' : ST), k37 S v3 v4 = some (r, S') → Ev mX4_read 65 0 0 37 [some (.ref 24), none, none, some (.int v3), some (.int v4)] [] (mkS x S) (fun v h => v = some (.int r) ∧ h = mkS x S')) (S : ST) (v4 : Int32) (t0 : Int32) (r : Int32) (S' : ST) (hm : bfX4_read_24_18_71 x k37 S v4 t0 = some (r, S')) : Ev mX4_read 65 0 0 71 [some (.ref 24), none, none, none, some (.int v4)] [.int t0] (mkS x S) (fun v h => v = some (.int r) ∧ h = mkS x S') := by
    unfold bfX4_read_24_18_71 at hm
    refine Ev.steps tokX4_read 3 (P := True) (pc' := if t0 = 0 then 86 else 76) (lv' := [some (.ref 24), none, none, some (.int t0), some (.int v4)]) (st' := []) (h' := mkS x S) rfl trivial ?_
    refine Ev.ite (fun c1 => ?_) (fun c1 => ?_)
    · rw [if_pos c1] at hm
      exact bpX4_read_24_18_86 x k37 hk37 S t0 v4 _ _ hm
    · rw [if_neg c1] at hm
      refine Ev.steps tokX4_read 6 (P := True) (pc' := 86) (lv' := [some (.ref 24), none, none, some (.int t0), some (.int v4)]) (st' := []) (h' := mkS x ((u2 S.1 24 6 ((S.1 24 6) + 1)), S.2.1, S.2.2.1, S.2.2.2)) rfl trivial ?_
      exact bpX4_read_24_18_86 x k37 hk37 ((u2 S.1 24 6 ((S.1 24 6) + 1)), S.2.1, S.2.2.1, S.2.2.2) t0 v4 _ _ hm
set_option maxHeartbeats 4000000 in
set_option maxRecDepth 20000 in
theorem bpX4_read_24_18_37 (x : XT) (k37 : ST → Int32 → Int32 → Option (Int32 × ST)) (hk37 : ∀ (S : ST) (v3 : Int32) (v4 : Int32) (r : Int32) (S' : ST), k37 S v3 v4 = some (r, S') → Ev mX4_read 65 0 0 37 [some (.ref 24), none, none, some (.int v3), some (.int v4)] [] (mkS x S) (fun v h => v = some (.int r) ∧ h = mkS x S')) (S : ST) (v3 : Int32) (v4 : Int32) (r : Int32) (S' : ST) (hm : bfX4_read_24_18_37 x k37 S v3 v4 = some (r, S')) : Ev mX4_read 65 0 0 37 [some (.ref 24), none, none, some (.int v3), some (.int v4)] [] (mkS x S) (fun v h => v = some (.int r) ∧ h = mkS x S') := by
    unfold bfX4_read_24_18_37 at hm
    refine Ev.steps tokX4_read 3 (P := True) (pc' := if 12 < v4 then 92 else 44) (lv' := [some (.ref 24), none, none, some (.int v3), some (.int v4)]) (st' := []) (h' := mkS x S) rfl trivial ?_
    refine Ev.ite (fun c1 => ?_) (fun c1 => ?_)
    · rw [if_pos c1] at hm
      refine Ev.fgt (lv' := [some (.ref 24), none, none, none, none]) ⟨rfl, trivial⟩ ?_
      exact bpX4_read_24_18_92 x S _ _ hm
    · rw [if_neg c1] at hm
      refine Ev.steps tokX4_read 2 (P := True) (pc' := if v3 = 0 then 92 else 48) (lv' := [some (.ref 24), none, none, some (.int v3), some (.int v4)]) (st' := []) (h' := mkS x S) rfl trivial ?_
      refine Ev.ite (fun c2 => ?_) (fun c2 => ?_)
      · rw [if_pos c2] at hm
        refine Ev.fgt (lv' := [some (.ref 24), none, none, none, none]) ⟨rfl, trivial⟩ ?_
        exact bpX4_read_24_18_92 x S _ _ hm
      · rw [if_neg c2] at hm
        refine Ev.steps tokX4_read 1 (P := True) (pc' := 49) (lv' := [some (.ref 24), none, none, some (.int v3), some (.int v4)]) (st' := [.ref 24]) (h' := mkS x S) rfl trivial ?_
        cases h3 : gfX4_clause_24 x S with
        | none => rw [h3] at hm; cases hm
        | some q4 =>
          obtain ⟨r5, S6⟩ := q4
          rw [h3] at hm
          dsimp only at hm
          refine ev_callV (N := mX4_clause) (d' := 64) (bc := 0) (bs := 0) (bc' := 0) (bs' := 0) (as := []) (rest := []) (a := 24) (ci := 4) (dcd tokX4_read rfl) okX4_clause inX4_clause seX4_clause lk4_54 rfl (by decide) (Nat.le_of_ble_eq_true rfl) rfl ⟨by decide, rfl⟩ (gpX4_clause_24 x S _ _ h3) (fun v h' hq hn => ?_)
          obtain ⟨rfl, rfl⟩ := hq
          refine Ev.steps tokX4_read 1 (P := True) (pc' := if ¬ r5 = 0 then 57 else 55) (lv' := [some (.ref 24), none, none, some (.int v3), some (.int v4)]) (st' := []) (h' := mkS x S6) rfl trivial ?_
          refine Ev.ite (fun c7 => ?_) (fun c7 => ?_)
          · rw [if_pos c7] at hm
            refine Ev.steps tokX4_read 1 (P := True) (pc' := 58) (lv' := [some (.ref 24), none, none, some (.int v3), some (.int v4)]) (st' := [.ref 24]) (h' := mkS x S6) rfl trivial ?_
            cases h8 : gfX4_here_24 x S6 with
            | none => rw [h8] at hm; cases hm
            | some q9 =>
              obtain ⟨r10, S11⟩ := q9
              rw [h8] at hm
              dsimp only at hm
              refine ev_callV (N := mX4_here) (d' := 1) (bc := 0) (bs := 0) (bc' := 0) (bs' := 0) (as := []) (rest := []) (a := 24) (ci := 4) (dcd tokX4_read rfl) okX4_here inX4_here seX4_here lk4_58 rfl (by decide) (Nat.le_of_ble_eq_true rfl) rfl ⟨by decide, rfl⟩ (gpX4_here_24 x S6 _ _ h8) (fun v h' hq hn => ?_)
              obtain ⟨rfl, rfl⟩ := hq
              refine Ev.steps tokX4_read 2 (P := True) (pc' := if ¬ r10 = 59 then 70 else 66) (lv' := [some (.ref 24), none, none, some (.int v3), some (.int v4)]) (st' := []) (h' := mkS x S11) rfl trivial ?_
              refine Ev.ite (fun c12 => ?_) (fun c12 => ?_)
              · rw [if_pos c12] at hm
                refine Ev.steps tokX4_read 1 (P := True) (pc' := 71) (lv' := [some (.ref 24), none, none, some (.int v3), some (.int v4)]) (st' := [.int 0]) (h' := mkS x S11) rfl trivial ?_
                refine Ev.fgt (lv' := [some (.ref 24), none, none, none, some (.int v4)]) ⟨rfl, rfl, trivial⟩ ?_
                exact bpX4_read_24_18_71 x k37 hk37 S11 v4 0 _ _ hm
              · rw [if_neg c12] at hm
                refine Ev.steps tokX4_read 2 (P := True) (pc' := 71) (lv' := [some (.ref 24), none, none, some (.int v3), some (.int v4)]) (st' := [.int 1]) (h' := mkS x S11) rfl trivial ?_
                refine Ev.fgt (lv' := [some (.ref 24), none, none, none, some (.int v4)]) ⟨rfl, rfl, trivial⟩ ?_
                exact bpX4_read_24_18_71 x k37 hk37 S11 v4 1 _ _ hm
          · rw [if_neg c7] at hm
            refine Ev.steps tokX4_read 1 (P := True) (pc' := 56) (lv' := [some (.ref 24), none, none, some (.int v3), some (.int v4)]) (st' := [.int 0]) (h' := mkS x S6) rfl trivial ?_
            cases hm
            exact Ev.retz tokX4_read rfl rfl (Or.inl rfl) ⟨rfl, rfl⟩
theorem lpX4_read_24_18_37 (x : XT)  : ∀ (n : Nat) (S : ST) (v3 : Int32) (v4 : Int32) (r : Int32) (S' : ST), lfX4_read_24_18_37 x  n S v3 v4 = some (r, S') → Ev mX4_read 65 0 0 37 [some (.ref 24), none, none, some (.int v3), some (.int v4)] [] (mkS x S) (fun v h => v = some (.int r) ∧ h = mkS x S')
  | 0, _, _, _, _, _, hm => by cases hm
  | n + 1, S, v3, v4, r, S', hm => bpX4_read_24_18_37 x (lfX4_read_24_18_37 x  n) (lpX4_read_24_18_37 x  n) S v3 v4 r S' hm
set_option maxHeartbeats 4000000 in
set_option maxRecDepth 20000 in
theorem bpX4_read_24_18_0 (x : XT)  (S : ST) (p2 : Int32) (r : Int32) (S' : ST) (hm : bfX4_read_24_18_0 x  S p2 = some (r, S')) : Ev mX4_read 65 0 0 0 [some (.ref 24), some (.ref 18), some (.int p2), none, none] [] (mkS x S) (fun v h => v = some (.int r) ∧ h = mkS x S') := by
    unfold bfX4_read_24_18_0 at hm
    refine Ev.steps tokX4_read 2 (P := True) (pc' := 2) (lv' := [some (.ref 24), some (.ref 18), some (.int p2), none, none]) (st' := [.ref 18, .ref 24]) (h' := mkS x S) rfl trivial ?_
    cases h1 : gfX4_split_24_18 x S with
    | none => rw [h1] at hm; cases hm
    | some q2 =>
      obtain ⟨r3, S4⟩ := q2
      rw [h1] at hm
      dsimp only at hm
      refine ev_callV (N := mX4_split) (d' := 7) (bc := 0) (bs := 0) (bc' := 0) (bs' := 0) (as := [.ref 18]) (rest := []) (a := 24) (ci := 4) (dcd tokX4_read rfl) okX4_split inX4_split seX4_split lk4_47 rfl (by decide) (Nat.le_of_ble_eq_true rfl) rfl ⟨by decide, rfl⟩ (gpX4_split_24_18 x S _ _ h1) (fun v h' hq hn => ?_)
      obtain ⟨rfl, rfl⟩ := hq
      obtain ⟨o5, hm⟩ := oblk hm
      refine Ev.steps tokX4_read 14 (P := (p2 = 0 ∨ p2 = 1) ∧ True) (pc' := 29) (lv' := [some (.ref 24), some (.ref 18), some (.int p2), none, none]) (st' := [.ref 25]) (h' := mkS x ((u2 (u2 (u2 (u2 S4.1 24 8 p2) 24 6 0) 24 7 0) 24 1 (-1)), S4.2.1, S4.2.2.1, S4.2.2.2)) rfl ⟨bbz_ok o5, trivial⟩ ?_
      cases h6 : gfX9_clear_25 x ((u2 (u2 (u2 (u2 S4.1 24 8 p2) 24 6 0) 24 7 0) 24 1 (-1)), S4.2.1, S4.2.2.1, S4.2.2.2) with
      | none => rw [h6] at hm; cases hm
      | some q7 =>
        obtain ⟨r8, S9⟩ := q7
        rw [h6] at hm
        dsimp only at hm
        refine ev_callV (N := mX9_clear) (d' := 1) (bc := 0) (bs := 0) (bc' := 0) (bs' := 0) (as := []) (rest := []) (a := 25) (ci := 9) (dcd tokX4_read rfl) okX9_clear inX9_clear seX9_clear lk4_51 rfl (by decide) (Nat.le_of_ble_eq_true rfl) rfl ⟨by decide, rfl⟩ (gpX9_clear_25 x ((u2 (u2 (u2 (u2 S4.1 24 8 p2) 24 6 0) 24 7 0) 24 1 (-1)), S4.2.1, S4.2.2.1, S4.2.2.2) _ _ h6) (fun v h' hq hn => ?_)
        obtain ⟨rfl, rfl⟩ := hq
        refine Ev.steps tokX4_read 4 (P := True) (pc' := 37) (lv' := [some (.ref 24), some (.ref 18), some (.int p2), some (.int 1), some (.int 0)]) (st' := []) (h' := mkS x S9) rfl trivial ?_
        refine Ev.fgt (lv' := [some (.ref 24), none, none, some (.int 1), some (.int 0)]) ⟨rfl, rfl, rfl, trivial⟩ ?_
        exact lpX4_read_24_18_37 x  20000 S9 1 0 _ _ hm
theorem gpX4_read_24_18 (x : XT) (S : ST) (p2 : Int32) (r : Int32) (S' : ST) (hm : gfX4_read_24_18 x S p2 = some (r, S')) : Ct mX4_read 65 0 0 [.ref 24, .ref 18, .int p2] (mkS x S) (fun v h => v = some (.int r) ∧ h = mkS x S') :=
  Ct.of (lv := [some (.ref 24), some (.ref 18), some (.int p2), none, none]) rfl rfl rfl (show (_ : Nat) ≤ _ from Nat.le_of_ble_eq_true rfl) (fun G => rfl) (bpX4_read_24_18_0 x S p2 r S' hm)
set_option maxHeartbeats 4000000 in
set_option maxRecDepth 20000 in
theorem bpX10_readTape_0_0 (x : XT)  (S : ST) (p1 : Int32) (r : Int32) (S' : ST) (hm : bfX10_readTape_0_0 x  S p1 = some (r, S')) : Ev mX10_readTape 66 0 0 0 [some (.ref 0), some (.int p1), none] [] (mkS x S) (fun v h => v = some (.int r) ∧ h = mkS x S') := by
    unfold bfX10_readTape_0_0 at hm
    refine Ev.steps tokX10_readTape 5 (P := True) (pc' := 9) (lv' := [some (.ref 0), some (.int p1), none]) (st' := [.int p1, .ref 18, .ref 24]) (h' := mkS x S) rfl trivial ?_
    cases h1 : gfX4_read_24_18 x S p1 with
    | none => rw [h1] at hm; cases hm
    | some q2 =>
      obtain ⟨r3, S4⟩ := q2
      rw [h1] at hm
      dsimp only at hm
      refine ev_callV (N := mX4_read) (d' := 65) (bc := 0) (bs := 0) (bc' := 0) (bs' := 0) (as := [.ref 18, .int p1]) (rest := []) (a := 24) (ci := 4) (dcd tokX10_readTape rfl) okX4_read inX4_read seX4_read lk10_353 rfl (by decide) (Nat.le_of_ble_eq_true rfl) rfl ⟨by decide, rfl⟩ (gpX4_read_24_18 x S p1 _ _ h1) (fun v h' hq hn => ?_)
      obtain ⟨rfl, rfl⟩ := hq
      refine Ev.steps tokX10_readTape 8 (P := True) (pc' := 28) (lv' := [some (.ref 0), some (.int p1), some (.int r3)]) (st' := [.ref 18]) (h' := mkS x ((u2 S4.1 0 13 (S4.1 24 1)), S4.2.1, S4.2.2.1, S4.2.2.2)) rfl trivial ?_
      cases h5 : gfX8_clear_18 x ((u2 S4.1 0 13 (S4.1 24 1)), S4.2.1, S4.2.2.1, S4.2.2.2) with
      | none => rw [h5] at hm; cases hm
      | some q6 =>
        obtain ⟨r7, S8⟩ := q6
        rw [h5] at hm
        dsimp only at hm
        refine ev_callV (N := mX8_clear) (d' := 1) (bc := 0) (bs := 0) (bc' := 0) (bs' := 0) (as := []) (rest := []) (a := 18) (ci := 8) (dcd tokX10_readTape rfl) okX8_clear inX8_clear seX8_clear lk10_183 rfl (by decide) (Nat.le_of_ble_eq_true rfl) rfl ⟨by decide, rfl⟩ (gpX8_clear_18 x ((u2 S4.1 0 13 (S4.1 24 1)), S4.2.1, S4.2.2.1, S4.2.2.2) _ _ h5) (fun v h' hq hn => ?_)
        obtain ⟨rfl, rfl⟩ := hq
        refine Ev.steps tokX10_readTape 1 (P := True) (pc' := 32) (lv' := [some (.ref 0), some (.int p1), some (.int r3)]) (st' := [.int r3]) (h' := mkS x S8) rfl trivial ?_
        obtain ⟨o9, hm⟩ := oblk hm
        cases hm
        exact Ev.retz tokX10_readTape rfl rfl (bbz_ok o9) ⟨rfl, rfl⟩
theorem gpX10_readTape_0 (x : XT) (S : ST) (p1 : Int32) (r : Int32) (S' : ST) (hm : gfX10_readTape_0 x S p1 = some (r, S')) : Ct mX10_readTape 66 0 0 [.ref 0, .int p1] (mkS x S) (fun v h => v = some (.int r) ∧ h = mkS x S') :=
  Ct.of (lv := [some (.ref 0), some (.int p1), none]) rfl rfl rfl (show (_ : Nat) ≤ _ from Nat.le_of_ble_eq_true rfl) (fun G => rfl) (bpX10_readTape_0_0 x S p1 r S' hm)
set_option maxHeartbeats 4000000 in
set_option maxRecDepth 20000 in
theorem bpX7_copyFrom_35_1_252 (x : XT) (k252 : ST → Int32 → Option (Unit × ST)) (hk252 : ∀ (S : ST) (v2 : Int32) (r : Unit) (S' : ST), k252 S v2 = some (r, S') → Ev mX7_copyFrom 1 0 0 252 [some (.ref 35), some (.ref 1), some (.int v2)] [] (mkS x S) (fun v h => v = none ∧ h = mkS x S')) (S : ST) (v2 : Int32) (r : Unit) (S' : ST) (hm : bfX7_copyFrom_35_1_252 x k252 S v2 = some (r, S')) : Ev mX7_copyFrom 1 0 0 252 [some (.ref 35), some (.ref 1), some (.int v2)] [] (mkS x S) (fun v h => v = none ∧ h = mkS x S') := by
    unfold bfX7_copyFrom_35_1_252 at hm
    refine Ev.steps tokX7_copyFrom 3 (P := True) (pc' := if 6 ≤ v2 then 276 else 258) (lv' := [some (.ref 35), some (.ref 1), some (.int v2)]) (st' := []) (h' := mkS x S) rfl trivial ?_
    refine Ev.ite (fun c1 => ?_) (fun c1 => ?_)
    · rw [if_pos c1] at hm
      cases hm
      exact Ev.retv tokX7_copyFrom rfl rfl ⟨rfl, rfl⟩
    · rw [if_neg c1] at hm
      obtain ⟨o2, hm⟩ := oblk hm
      refine Ev.steps tokX7_copyFrom 7 (P := vp_in v2 6 ∧ True) (pc' := 269) (lv' := [some (.ref 35), some (.ref 1), some (.int v2)]) (st' := [va_rf (S.2.2.2 15 v2.toNatClampNeg), .int v2, .ref 49]) (h' := mkS x S) rfl ⟨inb_ok o2, trivial⟩ ?_
      obtain ⟨o3, hm⟩ := oblk hm
      obtain ⟨o4, hm⟩ := oblk hm
      refine ev_aast (kd := 17) (ci := 9) (r := (S.2.2.2 15 v2.toNatClampNeg)) (dcd tokX7_copyFrom rfl) rfl (Or.inr ⟨rfl, rfl⟩) (inb_ok o3) (qk_ok o4) ?_
      refine Ev.steps tokX7_copyFrom 2 (P := True) (pc' := 252) (lv' := [some (.ref 35), some (.ref 1), some (.int (v2 + 1))]) (st' := []) (h' := mkS x (S.1, S.2.1, S.2.2.1, (u2 S.2.2.2 49 v2.toNatClampNeg (S.2.2.2 15 v2.toNatClampNeg)))) rfl trivial ?_
      exact hk252 (S.1, S.2.1, S.2.2.1, (u2 S.2.2.2 49 v2.toNatClampNeg (S.2.2.2 15 v2.toNatClampNeg))) (v2 + 1) _ _ hm
theorem lpX7_copyFrom_35_1_252 (x : XT)  : ∀ (n : Nat) (S : ST) (v2 : Int32) (r : Unit) (S' : ST), lfX7_copyFrom_35_1_252 x  n S v2 = some (r, S') → Ev mX7_copyFrom 1 0 0 252 [some (.ref 35), some (.ref 1), some (.int v2)] [] (mkS x S) (fun v h => v = none ∧ h = mkS x S')
  | 0, _, _, _, _, hm => by cases hm
  | n + 1, S, v2, r, S', hm => bpX7_copyFrom_35_1_252 x (lfX7_copyFrom_35_1_252 x  n) (lpX7_copyFrom_35_1_252 x  n) S v2 r S' hm
set_option maxHeartbeats 4000000 in
set_option maxRecDepth 20000 in
theorem bpX7_copyFrom_35_1_227 (x : XT) (k227 : ST → Int32 → Option (Unit × ST)) (hk227 : ∀ (S : ST) (v2 : Int32) (r : Unit) (S' : ST), k227 S v2 = some (r, S') → Ev mX7_copyFrom 1 0 0 227 [some (.ref 35), some (.ref 1), some (.int v2)] [] (mkS x S) (fun v h => v = none ∧ h = mkS x S')) (S : ST) (v2 : Int32) (r : Unit) (S' : ST) (hm : bfX7_copyFrom_35_1_227 x k227 S v2 = some (r, S')) : Ev mX7_copyFrom 1 0 0 227 [some (.ref 35), some (.ref 1), some (.int v2)] [] (mkS x S) (fun v h => v = none ∧ h = mkS x S') := by
    unfold bfX7_copyFrom_35_1_227 at hm
    refine Ev.steps tokX7_copyFrom 3 (P := True) (pc' := if 3 ≤ v2 then 250 else 232) (lv' := [some (.ref 35), some (.ref 1), some (.int v2)]) (st' := []) (h' := mkS x S) rfl trivial ?_
    refine Ev.ite (fun c1 => ?_) (fun c1 => ?_)
    · rw [if_pos c1] at hm
      refine Ev.steps tokX7_copyFrom 2 (P := True) (pc' := 252) (lv' := [some (.ref 35), some (.ref 1), some (.int 0)]) (st' := []) (h' := mkS x S) rfl trivial ?_
      exact lpX7_copyFrom_35_1_252 x  20000 S 0 _ _ hm
    · rw [if_neg c1] at hm
      obtain ⟨o2, hm⟩ := oblk hm
      obtain ⟨o3, hm⟩ := oblk hm
      refine Ev.steps tokX7_copyFrom 10 (P := vp_in v2 3 ∧ vp_in v2 3 ∧ True) (pc' := 227) (lv' := [some (.ref 35), some (.ref 1), some (.int (v2 + 1))]) (st' := []) (h' := mkS x (S.1, (u2 S.2.1 48 v2.toNatClampNeg (S.2.1 14 v2.toNatClampNeg)), S.2.2.1, S.2.2.2)) rfl ⟨inb_ok o2, inb_ok o3, trivial⟩ ?_
      exact hk227 (S.1, (u2 S.2.1 48 v2.toNatClampNeg (S.2.1 14 v2.toNatClampNeg)), S.2.2.1, S.2.2.2) (v2 + 1) _ _ hm
theorem lpX7_copyFrom_35_1_227 (x : XT)  : ∀ (n : Nat) (S : ST) (v2 : Int32) (r : Unit) (S' : ST), lfX7_copyFrom_35_1_227 x  n S v2 = some (r, S') → Ev mX7_copyFrom 1 0 0 227 [some (.ref 35), some (.ref 1), some (.int v2)] [] (mkS x S) (fun v h => v = none ∧ h = mkS x S')
  | 0, _, _, _, _, hm => by cases hm
  | n + 1, S, v2, r, S', hm => bpX7_copyFrom_35_1_227 x (lfX7_copyFrom_35_1_227 x  n) (lpX7_copyFrom_35_1_227 x  n) S v2 r S' hm
set_option maxHeartbeats 4000000 in
set_option maxRecDepth 20000 in
theorem bpX7_copyFrom_35_1_177 (x : XT) (k177 : ST → Int32 → Option (Unit × ST)) (hk177 : ∀ (S : ST) (v2 : Int32) (r : Unit) (S' : ST), k177 S v2 = some (r, S') → Ev mX7_copyFrom 1 0 0 177 [some (.ref 35), some (.ref 1), some (.int v2)] [] (mkS x S) (fun v h => v = none ∧ h = mkS x S')) (S : ST) (v2 : Int32) (r : Unit) (S' : ST) (hm : bfX7_copyFrom_35_1_177 x k177 S v2 = some (r, S')) : Ev mX7_copyFrom 1 0 0 177 [some (.ref 35), some (.ref 1), some (.int v2)] [] (mkS x S) (fun v h => v = none ∧ h = mkS x S') := by
    unfold bfX7_copyFrom_35_1_177 at hm
    refine Ev.steps tokX7_copyFrom 3 (P := True) (pc' := if 6 ≤ v2 then 225 else 183) (lv' := [some (.ref 35), some (.ref 1), some (.int v2)]) (st' := []) (h' := mkS x S) rfl trivial ?_
    refine Ev.ite (fun c1 => ?_) (fun c1 => ?_)
    · rw [if_pos c1] at hm
      refine Ev.steps tokX7_copyFrom 2 (P := True) (pc' := 227) (lv' := [some (.ref 35), some (.ref 1), some (.int 0)]) (st' := []) (h' := mkS x S) rfl trivial ?_
      exact lpX7_copyFrom_35_1_227 x  20000 S 0 _ _ hm
    · rw [if_neg c1] at hm
      obtain ⟨o2, hm⟩ := oblk hm
      obtain ⟨o3, hm⟩ := oblk hm
      obtain ⟨o4, hm⟩ := oblk hm
      obtain ⟨o5, hm⟩ := oblk hm
      obtain ⟨o6, hm⟩ := oblk hm
      obtain ⟨o7, hm⟩ := oblk hm
      refine Ev.steps tokX7_copyFrom 26 (P := vp_in v2 6 ∧ vp_in v2 6 ∧ vp_in v2 6 ∧ vp_in v2 6 ∧ vp_in v2 6 ∧ vp_in v2 6 ∧ True) (pc' := 177) (lv' := [some (.ref 35), some (.ref 1), some (.int (v2 + 1))]) (st' := []) (h' := mkS x (S.1, (u2 (u2 (u2 S.2.1 45 v2.toNatClampNeg (S.2.1 11 v2.toNatClampNeg)) 46 v2.toNatClampNeg (S.2.1 12 v2.toNatClampNeg)) 47 v2.toNatClampNeg (S.2.1 13 v2.toNatClampNeg)), S.2.2.1, S.2.2.2)) rfl ⟨inb_ok o2, inb_ok o3, inb_ok o4, inb_ok o5, inb_ok o6, inb_ok o7, trivial⟩ ?_
      exact hk177 (S.1, (u2 (u2 (u2 S.2.1 45 v2.toNatClampNeg (S.2.1 11 v2.toNatClampNeg)) 46 v2.toNatClampNeg (S.2.1 12 v2.toNatClampNeg)) 47 v2.toNatClampNeg (S.2.1 13 v2.toNatClampNeg)), S.2.2.1, S.2.2.2) (v2 + 1) _ _ hm
theorem lpX7_copyFrom_35_1_177 (x : XT)  : ∀ (n : Nat) (S : ST) (v2 : Int32) (r : Unit) (S' : ST), lfX7_copyFrom_35_1_177 x  n S v2 = some (r, S') → Ev mX7_copyFrom 1 0 0 177 [some (.ref 35), some (.ref 1), some (.int v2)] [] (mkS x S) (fun v h => v = none ∧ h = mkS x S')
  | 0, _, _, _, _, hm => by cases hm
  | n + 1, S, v2, r, S', hm => bpX7_copyFrom_35_1_177 x (lfX7_copyFrom_35_1_177 x  n) (lpX7_copyFrom_35_1_177 x  n) S v2 r S' hm
set_option maxHeartbeats 4000000 in
set_option maxRecDepth 20000 in
theorem bpX7_copyFrom_35_1_116 (x : XT) (k116 : ST → Int32 → Option (Unit × ST)) (hk116 : ∀ (S : ST) (v2 : Int32) (r : Unit) (S' : ST), k116 S v2 = some (r, S') → Ev mX7_copyFrom 1 0 0 116 [some (.ref 35), some (.ref 1), some (.int v2)] [] (mkS x S) (fun v h => v = none ∧ h = mkS x S')) (S : ST) (v2 : Int32) (r : Unit) (S' : ST) (hm : bfX7_copyFrom_35_1_116 x k116 S v2 = some (r, S')) : Ev mX7_copyFrom 1 0 0 116 [some (.ref 35), some (.ref 1), some (.int v2)] [] (mkS x S) (fun v h => v = none ∧ h = mkS x S') := by
    unfold bfX7_copyFrom_35_1_116 at hm
    refine Ev.steps tokX7_copyFrom 3 (P := True) (pc' := if 5 ≤ v2 then 175 else 121) (lv' := [some (.ref 35), some (.ref 1), some (.int v2)]) (st' := []) (h' := mkS x S) rfl trivial ?_
    refine Ev.ite (fun c1 => ?_) (fun c1 => ?_)
    · rw [if_pos c1] at hm
      refine Ev.steps tokX7_copyFrom 2 (P := True) (pc' := 177) (lv' := [some (.ref 35), some (.ref 1), some (.int 0)]) (st' := []) (h' := mkS x S) rfl trivial ?_
      exact lpX7_copyFrom_35_1_177 x  20000 S 0 _ _ hm
    · rw [if_neg c1] at hm
      obtain ⟨o2, hm⟩ := oblk hm
      obtain ⟨o3, hm⟩ := oblk hm
      obtain ⟨o4, hm⟩ := oblk hm
      obtain ⟨o5, hm⟩ := oblk hm
      obtain ⟨o6, hm⟩ := oblk hm
      obtain ⟨o7, hm⟩ := oblk hm
      obtain ⟨o8, hm⟩ := oblk hm
      obtain ⟨o9, hm⟩ := oblk hm
      refine Ev.steps tokX7_copyFrom 34 (P := vp_in v2 5 ∧ vp_in v2 5 ∧ vp_in v2 5 ∧ vp_in v2 5 ∧ vp_in v2 5 ∧ vp_in v2 5 ∧ vp_in v2 5 ∧ vp_in v2 5 ∧ True) (pc' := 116) (lv' := [some (.ref 35), some (.ref 1), some (.int (v2 + 1))]) (st' := []) (h' := mkS x (S.1, (u2 (u2 (u2 (u2 S.2.1 41 v2.toNatClampNeg (S.2.1 7 v2.toNatClampNeg)) 42 v2.toNatClampNeg (S.2.1 8 v2.toNatClampNeg)) 43 v2.toNatClampNeg (S.2.1 9 v2.toNatClampNeg)) 44 v2.toNatClampNeg (S.2.1 10 v2.toNatClampNeg)), S.2.2.1, S.2.2.2)) rfl ⟨inb_ok o2, inb_ok o3, inb_ok o4, inb_ok o5, inb_ok o6, inb_ok o7, inb_ok o8, inb_ok o9, trivial⟩ ?_
      exact hk116 (S.1, (u2 (u2 (u2 (u2 S.2.1 41 v2.toNatClampNeg (S.2.1 7 v2.toNatClampNeg)) 42 v2.toNatClampNeg (S.2.1 8 v2.toNatClampNeg)) 43 v2.toNatClampNeg (S.2.1 9 v2.toNatClampNeg)) 44 v2.toNatClampNeg (S.2.1 10 v2.toNatClampNeg)), S.2.2.1, S.2.2.2) (v2 + 1) _ _ hm
theorem lpX7_copyFrom_35_1_116 (x : XT)  : ∀ (n : Nat) (S : ST) (v2 : Int32) (r : Unit) (S' : ST), lfX7_copyFrom_35_1_116 x  n S v2 = some (r, S') → Ev mX7_copyFrom 1 0 0 116 [some (.ref 35), some (.ref 1), some (.int v2)] [] (mkS x S) (fun v h => v = none ∧ h = mkS x S')
  | 0, _, _, _, _, hm => by cases hm
  | n + 1, S, v2, r, S', hm => bpX7_copyFrom_35_1_116 x (lfX7_copyFrom_35_1_116 x  n) (lpX7_copyFrom_35_1_116 x  n) S v2 r S' hm
set_option maxHeartbeats 4000000 in
set_option maxRecDepth 20000 in
theorem bpX7_copyFrom_35_1_42 (x : XT) (k42 : ST → Int32 → Option (Unit × ST)) (hk42 : ∀ (S : ST) (v2 : Int32) (r : Unit) (S' : ST), k42 S v2 = some (r, S') → Ev mX7_copyFrom 1 0 0 42 [some (.ref 35), some (.ref 1), some (.int v2)] [] (mkS x S) (fun v h => v = none ∧ h = mkS x S')) (S : ST) (v2 : Int32) (r : Unit) (S' : ST) (hm : bfX7_copyFrom_35_1_42 x k42 S v2 = some (r, S')) : Ev mX7_copyFrom 1 0 0 42 [some (.ref 35), some (.ref 1), some (.int v2)] [] (mkS x S) (fun v h => v = none ∧ h = mkS x S') := by
    unfold bfX7_copyFrom_35_1_42 at hm
    refine Ev.steps tokX7_copyFrom 3 (P := True) (pc' := if 10 ≤ v2 then 114 else 48) (lv' := [some (.ref 35), some (.ref 1), some (.int v2)]) (st' := []) (h' := mkS x S) rfl trivial ?_
    refine Ev.ite (fun c1 => ?_) (fun c1 => ?_)
    · rw [if_pos c1] at hm
      refine Ev.steps tokX7_copyFrom 2 (P := True) (pc' := 116) (lv' := [some (.ref 35), some (.ref 1), some (.int 0)]) (st' := []) (h' := mkS x S) rfl trivial ?_
      exact lpX7_copyFrom_35_1_116 x  20000 S 0 _ _ hm
    · rw [if_neg c1] at hm
      obtain ⟨o2, hm⟩ := oblk hm
      obtain ⟨o3, hm⟩ := oblk hm
      obtain ⟨o4, hm⟩ := oblk hm
      obtain ⟨o5, hm⟩ := oblk hm
      obtain ⟨o6, hm⟩ := oblk hm
      obtain ⟨o7, hm⟩ := oblk hm
      obtain ⟨o8, hm⟩ := oblk hm
      obtain ⟨o9, hm⟩ := oblk hm
      obtain ⟨o10, hm⟩ := oblk hm
      obtain ⟨o11, hm⟩ := oblk hm
      refine Ev.steps tokX7_copyFrom 42 (P := vp_in v2 10 ∧ vp_in v2 10 ∧ vp_in v2 10 ∧ vp_in v2 10 ∧ vp_in v2 10 ∧ vp_in v2 10 ∧ vp_in v2 10 ∧ vp_in v2 10 ∧ vp_in v2 10 ∧ vp_in v2 10 ∧ True) (pc' := 42) (lv' := [some (.ref 35), some (.ref 1), some (.int (v2 + 1))]) (st' := []) (h' := mkS x (S.1, (u2 (u2 (u2 (u2 (u2 S.2.1 36 v2.toNatClampNeg (S.2.1 2 v2.toNatClampNeg)) 37 v2.toNatClampNeg (S.2.1 3 v2.toNatClampNeg)) 38 v2.toNatClampNeg (S.2.1 4 v2.toNatClampNeg)) 39 v2.toNatClampNeg (S.2.1 5 v2.toNatClampNeg)) 40 v2.toNatClampNeg (vp_nar .boolean (S.2.1 6 v2.toNatClampNeg))), S.2.2.1, S.2.2.2)) rfl ⟨inb_ok o2, inb_ok o3, inb_ok o4, inb_ok o5, inb_ok o6, inb_ok o7, inb_ok o8, inb_ok o9, inb_ok o10, inb_ok o11, trivial⟩ ?_
      exact hk42 (S.1, (u2 (u2 (u2 (u2 (u2 S.2.1 36 v2.toNatClampNeg (S.2.1 2 v2.toNatClampNeg)) 37 v2.toNatClampNeg (S.2.1 3 v2.toNatClampNeg)) 38 v2.toNatClampNeg (S.2.1 4 v2.toNatClampNeg)) 39 v2.toNatClampNeg (S.2.1 5 v2.toNatClampNeg)) 40 v2.toNatClampNeg (vp_nar .boolean (S.2.1 6 v2.toNatClampNeg))), S.2.2.1, S.2.2.2) (v2 + 1) _ _ hm
theorem lpX7_copyFrom_35_1_42 (x : XT)  : ∀ (n : Nat) (S : ST) (v2 : Int32) (r : Unit) (S' : ST), lfX7_copyFrom_35_1_42 x  n S v2 = some (r, S') → Ev mX7_copyFrom 1 0 0 42 [some (.ref 35), some (.ref 1), some (.int v2)] [] (mkS x S) (fun v h => v = none ∧ h = mkS x S')
  | 0, _, _, _, _, hm => by cases hm
  | n + 1, S, v2, r, S', hm => bpX7_copyFrom_35_1_42 x (lfX7_copyFrom_35_1_42 x  n) (lpX7_copyFrom_35_1_42 x  n) S v2 r S' hm
set_option maxHeartbeats 4000000 in
set_option maxRecDepth 20000 in
theorem bpX7_copyFrom_35_1_0 (x : XT)  (S : ST)  (r : Unit) (S' : ST) (hm : bfX7_copyFrom_35_1_0 x  S  = some (r, S')) : Ev mX7_copyFrom 1 0 0 0 [some (.ref 35), some (.ref 1), none] [] (mkS x S) (fun v h => v = none ∧ h = mkS x S') := by
    unfold bfX7_copyFrom_35_1_0 at hm
    refine Ev.steps tokX7_copyFrom 22 (P := True) (pc' := 42) (lv' := [some (.ref 35), some (.ref 1), some (.int 0)]) (st' := []) (h' := mkS x ((u2 (u2 (u2 (u2 (u2 S.1 35 0 (S.1 1 0)) 35 6 (S.1 1 6)) 35 11 (S.1 1 11)) 35 16 (S.1 1 16)) 35 18 (S.1 1 18)), S.2.1, S.2.2.1, S.2.2.2)) rfl trivial ?_
    exact lpX7_copyFrom_35_1_42 x  20000 ((u2 (u2 (u2 (u2 (u2 S.1 35 0 (S.1 1 0)) 35 6 (S.1 1 6)) 35 11 (S.1 1 11)) 35 16 (S.1 1 16)) 35 18 (S.1 1 18)), S.2.1, S.2.2.1, S.2.2.2) 0 _ _ hm
theorem gpX7_copyFrom_35_1 (x : XT) (S : ST)  (r : Unit) (S' : ST) (hm : gfX7_copyFrom_35_1 x S  = some (r, S')) : Ct mX7_copyFrom 1 0 0 [.ref 35, .ref 1] (mkS x S) (fun v h => v = none ∧ h = mkS x S') :=
  Ct.of (lv := [some (.ref 35), some (.ref 1), none]) rfl rfl rfl (show (_ : Nat) ≤ _ from Nat.le_of_ble_eq_true rfl) (fun G => rfl) (bpX7_copyFrom_35_1_0 x S  r S' hm)
set_option maxHeartbeats 4000000 in
set_option maxRecDepth 20000 in
theorem bpX1_keepAhead_33_0 (x : XT)  (S : ST)  (r : Unit) (S' : ST) (hm : bfX1_keepAhead_33_0 x  S  = some (r, S')) : Ev mX1_keepAhead 2 0 0 0 [some (.ref 33)] [] (mkS x S) (fun v h => v = none ∧ h = mkS x S') := by
    unfold bfX1_keepAhead_33_0 at hm
    refine Ev.steps tokX1_keepAhead 4 (P := True) (pc' := 8) (lv' := [some (.ref 33)]) (st' := [.ref 1, .ref 35]) (h' := mkS x S) rfl trivial ?_
    cases h1 : gfX7_copyFrom_35_1 x S with
    | none => rw [h1] at hm; cases hm
    | some q2 =>
      obtain ⟨r3, S4⟩ := q2
      rw [h1] at hm
      dsimp only at hm
      refine ev_callV (N := mX7_copyFrom) (d' := 1) (bc := 0) (bs := 0) (bc' := 0) (bs' := 0) (as := [.ref 1]) (rest := []) (a := 35) (ci := 7) (dcd tokX1_keepAhead rfl) okX7_copyFrom inX7_copyFrom seX7_copyFrom lk1_89 rfl (by decide) (Nat.le_of_ble_eq_true rfl) rfl ⟨by decide, rfl⟩ (gpX7_copyFrom_35_1 x S _ _ h1) (fun v h' hq hn => ?_)
      obtain ⟨rfl, rfl⟩ := hq
      refine Ev.steps tokX1_keepAhead 9 (P := True) (pc' := 26) (lv' := [some (.ref 33)]) (st' := [.int 80, .int 0, .ref 50, .int 0, .ref 34]) (h' := mkS x S4) rfl trivial ?_
      refine ev_copyi (sp' := 0) (dp' := 0) (n' := 80) (dcd tokX1_keepAhead rfl) lk1_83 mt_ac.2 mt_ac.1 mt_in.2 (by decide) (Nat.le_of_ble_eq_true rfl) rfl rfl (by decide) (by decide) (by decide) (by decide) (by decide) (by decide) (Nat.le_of_ble_eq_true rfl) (Nat.le_of_ble_eq_true rfl) ?_
      refine Ev.steps tokX1_keepAhead 4 (P := True) (pc' := 37) (lv' := [some (.ref 33)]) (st' := []) (h' := mkS x ((u2 S4.1 33 6 (S4.1 33 0)), (u1 S4.2.1 50 (va_cpy (S4.2.1 34) (S4.2.1 50) 0 0 80)), S4.2.2.1, S4.2.2.2)) rfl trivial ?_
      cases hm
      exact Ev.retv tokX1_keepAhead rfl rfl ⟨rfl, rfl⟩
theorem gpX1_keepAhead_33 (x : XT) (S : ST)  (r : Unit) (S' : ST) (hm : gfX1_keepAhead_33 x S  = some (r, S')) : Ct mX1_keepAhead 2 0 0 [.ref 33] (mkS x S) (fun v h => v = none ∧ h = mkS x S') :=
  Ct.of (lv := [some (.ref 33)]) rfl rfl rfl (show (_ : Nat) ≤ _ from Nat.le_of_ble_eq_true rfl) (fun G => rfl) (bpX1_keepAhead_33_0 x S  r S' hm)
set_option maxHeartbeats 4000000 in
set_option maxRecDepth 20000 in
theorem bpX1_keep_33_30 (x : XT)  (S : ST) (v1 : Int32) (v2 : Int32) (v3 : Int32) (v4 : Int32) (v5 : Int32) (r : Unit) (S' : ST) (hm : bfX1_keep_33_30 x  S v1 v2 v3 v4 v5 = some (r, S')) : Ev mX1_keep 1 0 0 30 [some (.ref 33), some (.int v1), some (.int v2), some (.int v3), some (.int v4), some (.int v5), none] [] (mkS x S) (fun v h => v = none ∧ h = mkS x S') := by
    unfold bfX1_keep_33_30 at hm
    obtain ⟨o1, hm⟩ := oblk hm
    obtain ⟨o2, hm⟩ := oblk hm
    obtain ⟨o3, hm⟩ := oblk hm
    obtain ⟨o4, hm⟩ := oblk hm
    obtain ⟨o5, hm⟩ := oblk hm
    refine Ev.steps tokX1_keep 44 (P := vp_in ((S.1 33 0) * 5) 80 ∧ vp_in (((S.1 33 0) * 5) + 1) 80 ∧ vp_in (((S.1 33 0) * 5) + 2) 80 ∧ vp_in (((S.1 33 0) * 5) + 3) 80 ∧ vp_in (((S.1 33 0) * 5) + 4) 80 ∧ True) (pc' := 98) (lv' := [some (.ref 33), some (.int v1), some (.int v2), some (.int v3), some (.int v4), some (.int v5), some (.int ((S.1 33 0) * 5))]) (st' := []) (h' := mkS x ((u2 S.1 33 0 ((S.1 33 0) + 1)), (u2 (u2 (u2 (u2 (u2 S.2.1 34 (((S.1 33 0) * 5).toNatClampNeg) v1) 34 ((((S.1 33 0) * 5) + 1).toNatClampNeg) v2) 34 ((((S.1 33 0) * 5) + 2).toNatClampNeg) v3) 34 ((((S.1 33 0) * 5) + 3).toNatClampNeg) v4) 34 ((((S.1 33 0) * 5) + 4).toNatClampNeg) v5), S.2.2.1, S.2.2.2)) rfl ⟨inb_ok o1, inb_ok o2, inb_ok o3, inb_ok o4, inb_ok o5, trivial⟩ ?_
    cases hm
    exact Ev.retv tokX1_keep rfl rfl ⟨rfl, rfl⟩
set_option maxHeartbeats 4000000 in
set_option maxRecDepth 20000 in
theorem bpX1_keep_33_0 (x : XT)  (S : ST) (p1 : Int32) (p2 : Int32) (p3 : Int32) (p4 : Int32) (p5 : Int32) (r : Unit) (S' : ST) (hm : bfX1_keep_33_0 x  S p1 p2 p3 p4 p5 = some (r, S')) : Ev mX1_keep 1 0 0 0 [some (.ref 33), some (.int p1), some (.int p2), some (.int p3), some (.int p4), some (.int p5), none] [] (mkS x S) (fun v h => v = none ∧ h = mkS x S') := by
    unfold bfX1_keep_33_0 at hm
    refine Ev.steps tokX1_keep 4 (P := True) (pc' := if (S.1 33 0) < 16 then 30 else 9) (lv' := [some (.ref 33), some (.int p1), some (.int p2), some (.int p3), some (.int p4), some (.int p5), none]) (st' := []) (h' := mkS x S) rfl trivial ?_
    refine Ev.ite (fun c1 => ?_) (fun c1 => ?_)
    · rw [if_pos c1] at hm
      exact bpX1_keep_33_30 x S p1 p2 p3 p4 p5 _ _ hm
    · rw [if_neg c1] at hm
      refine Ev.steps tokX1_keep 7 (P := True) (pc' := 21) (lv' := [some (.ref 33), some (.int p1), some (.int p2), some (.int p3), some (.int p4), some (.int p5), none]) (st' := [.int 75, .int 0, .ref 34, .int 5, .ref 34]) (h' := mkS x S) rfl trivial ?_
      refine ev_copyi (sp' := 5) (dp' := 0) (n' := 75) (dcd tokX1_keep rfl) lk1_83 mt_ac.2 mt_ac.1 mt_in.2 (by decide) (Nat.le_of_ble_eq_true rfl) rfl rfl (by decide) (by decide) (by decide) (by decide) (by decide) (by decide) (Nat.le_of_ble_eq_true rfl) (Nat.le_of_ble_eq_true rfl) ?_
      refine Ev.steps tokX1_keep 3 (P := True) (pc' := 30) (lv' := [some (.ref 33), some (.int p1), some (.int p2), some (.int p3), some (.int p4), some (.int p5), none]) (st' := []) (h' := mkS x ((u2 S.1 33 0 15), (u1 S.2.1 34 (va_cpy (S.2.1 34) (S.2.1 34) 5 0 75)), S.2.2.1, S.2.2.2)) rfl trivial ?_
      exact bpX1_keep_33_30 x ((u2 S.1 33 0 15), (u1 S.2.1 34 (va_cpy (S.2.1 34) (S.2.1 34) 5 0 75)), S.2.2.1, S.2.2.2) p1 p2 p3 p4 p5 _ _ hm
theorem gpX1_keep_33 (x : XT) (S : ST) (p1 : Int32) (p2 : Int32) (p3 : Int32) (p4 : Int32) (p5 : Int32) (r : Unit) (S' : ST) (hm : gfX1_keep_33 x S p1 p2 p3 p4 p5 = some (r, S')) : Ct mX1_keep 1 0 0 [.ref 33, .int p1, .int p2, .int p3, .int p4, .int p5] (mkS x S) (fun v h => v = none ∧ h = mkS x S') :=
  Ct.of (lv := [some (.ref 33), some (.int p1), some (.int p2), some (.int p3), some (.int p4), some (.int p5), none]) rfl rfl rfl (show (_ : Nat) ≤ _ from Nat.le_of_ble_eq_true rfl) (fun G => rfl) (bpX1_keep_33_0 x S p1 p2 p3 p4 p5 r S' hm)
set_option maxHeartbeats 4000000 in
set_option maxRecDepth 20000 in
theorem bpX0_move_20_1_0 (x : XT)  (S : ST) (p2 : Int32) (p3 : Int32) (r : Unit) (S' : ST) (hm : bfX0_move_20_1_0 x  S p2 p3 = some (r, S')) : Ev mX0_move 4 0 0 0 [some (.ref 20), some (.ref 1), some (.int p2), some (.int p3), none, none] [] (mkS x S) (fun v h => v = none ∧ h = mkS x S') := by
    unfold bfX0_move_20_1_0 at hm
    obtain ⟨o1, hm⟩ := oblk hm
    refine Ev.steps tokX0_move 8 (P := vp_in p2 5 ∧ True) (pc' := 10) (lv' := [some (.ref 20), some (.ref 1), some (.int p2), some (.int p3), none, none]) (st' := [.int (S.2.1 8 p2.toNatClampNeg), .int p3, .int p2, .ref 1, .ref 20]) (h' := mkS x S) rfl ⟨inb_ok o1, trivial⟩ ?_
    cases h2 : gfX0_regard_20_1 x S p2 p3 (S.2.1 8 p2.toNatClampNeg) with
    | none => rw [h2] at hm; cases hm
    | some q3 =>
      obtain ⟨r4, S5⟩ := q3
      rw [h2] at hm
      dsimp only at hm
      refine ev_callV (N := mX0_regard) (d' := 2) (bc := 0) (bs := 0) (bc' := 0) (bs' := 0) (as := [.ref 1, .int p2, .int p3, .int (S.2.1 8 p2.toNatClampNeg)]) (rest := []) (a := 20) (ci := 0) (dcd tokX0_move rfl) okX0_regard inX0_regard seX0_regard lk0_83 rfl (by decide) (Nat.le_of_ble_eq_true rfl) rfl ⟨by decide, rfl⟩ (gpX0_regard_20_1 x S p2 p3 (S.2.1 8 p2.toNatClampNeg) _ _ h2) (fun v h' hq hn => ?_)
      obtain ⟨rfl, rfl⟩ := hq
      refine Ev.steps tokX0_move 3 (P := True) (pc' := 18) (lv' := [some (.ref 20), some (.ref 1), some (.int p2), some (.int p3), none, none]) (st' := [.int 260, .ref 1, .ref 20]) (h' := mkS x S5) rfl trivial ?_
      cases h6 : gfX0_told_20_1 x S5 260 with
      | none => rw [h6] at hm; cases hm
      | some q7 =>
        obtain ⟨r8, S9⟩ := q7
        rw [h6] at hm
        dsimp only at hm
        refine ev_callV (N := mX0_told) (d' := 3) (bc := 0) (bs := 0) (bc' := 0) (bs' := 0) (as := [.ref 1, .int 260]) (rest := []) (a := 20) (ci := 0) (dcd tokX0_move rfl) okX0_told inX0_told seX0_told lk0_86 rfl (by decide) (Nat.le_of_ble_eq_true rfl) rfl ⟨by decide, rfl⟩ (gpX0_told_20_1 x S5 260 _ _ h6) (fun v h' hq hn => ?_)
        obtain ⟨rfl, rfl⟩ := hq
        refine Ev.steps tokX0_move 4 (P := True) (pc' := 28) (lv' := [some (.ref 20), some (.ref 1), some (.int p2), some (.int p3), some (.int r8), none]) (st' := [.int 261, .ref 1, .ref 20]) (h' := mkS x S9) rfl trivial ?_
        cases h10 : gfX0_told_20_1 x S9 261 with
        | none => rw [h10] at hm; cases hm
        | some q11 =>
          obtain ⟨r12, S13⟩ := q11
          rw [h10] at hm
          dsimp only at hm
          refine ev_callV (N := mX0_told) (d' := 3) (bc := 0) (bs := 0) (bc' := 0) (bs' := 0) (as := [.ref 1, .int 261]) (rest := []) (a := 20) (ci := 0) (dcd tokX0_move rfl) okX0_told inX0_told seX0_told lk0_86 rfl (by decide) (Nat.le_of_ble_eq_true rfl) rfl ⟨by decide, rfl⟩ (gpX0_told_20_1 x S9 261 _ _ h10) (fun v h' hq hn => ?_)
          obtain ⟨rfl, rfl⟩ := hq
          obtain ⟨o14, hm⟩ := oblk hm
          obtain ⟨o15, hm⟩ := oblk hm
          obtain ⟨o16, hm⟩ := oblk hm
          obtain ⟨o17, hm⟩ := oblk hm
          refine Ev.steps tokX0_move 24 (P := vp_in p3 10 ∧ vp_in p2 5 ∧ vp_in p2 5 ∧ vp_in p2 5 ∧ True) (pc' := 70) (lv' := [some (.ref 20), some (.ref 1), some (.int p2), some (.int p3), some (.int r8), some (.int r12)]) (st' := [.int 9999, .int ((S13.2.1 10 p2.toNatClampNeg) + r12), .int p2, .ref 10]) (h' := mkS x (S13.1, (u2 (u2 S13.2.1 7 p2.toNatClampNeg (S13.2.1 3 p3.toNatClampNeg)) 8 p2.toNatClampNeg r8), S13.2.2.1, S13.2.2.2)) rfl ⟨inb_ok o14, inb_ok o15, inb_ok o16, inb_ok o17, trivial⟩ ?_
          refine ev_min (dcd tokX0_move rfl) lk0_67 mt_min.1 mt_in.1 mt_min.2 (by decide) (Nat.le_of_ble_eq_true rfl) ?_
          obtain ⟨o18, hm⟩ := oblk hm
          refine Ev.steps tokX0_move 1 (P := vp_in p2 5 ∧ True) (pc' := 74) (lv' := [some (.ref 20), some (.ref 1), some (.int p2), some (.int p3), some (.int r8), some (.int r12)]) (st' := []) (h' := mkS x (S13.1, (u2 (u2 (u2 S13.2.1 7 p2.toNatClampNeg (S13.2.1 3 p3.toNatClampNeg)) 8 p2.toNatClampNeg r8) 10 p2.toNatClampNeg (if 9999 < ((S13.2.1 10 p2.toNatClampNeg) + r12) then 9999 else ((S13.2.1 10 p2.toNatClampNeg) + r12))), S13.2.2.1, S13.2.2.2)) rfl ⟨inb_ok o18, trivial⟩ ?_
          cases hm
          exact Ev.retv tokX0_move rfl rfl ⟨rfl, rfl⟩
theorem gpX0_move_20_1 (x : XT) (S : ST) (p2 : Int32) (p3 : Int32) (r : Unit) (S' : ST) (hm : gfX0_move_20_1 x S p2 p3 = some (r, S')) : Ct mX0_move 4 0 0 [.ref 20, .ref 1, .int p2, .int p3] (mkS x S) (fun v h => v = none ∧ h = mkS x S') :=
  Ct.of (lv := [some (.ref 20), some (.ref 1), some (.int p2), some (.int p3), none, none]) rfl rfl rfl (show (_ : Nat) ≤ _ from Nat.le_of_ble_eq_true rfl) (fun G => rfl) (bpX0_move_20_1_0 x S p2 p3 r S' hm)
set_option maxHeartbeats 4000000 in
set_option maxRecDepth 20000 in
theorem bpX1_sendThrough_33_22 (x : XT)  (S : ST)  (r : Int32) (S' : ST) (hm : bfX1_sendThrough_33_22 x  S  = some (r, S')) : Ev mX1_sendThrough 5 0 0 22 [none, none, none] [] (mkS x S) (fun v h => v = some (.int r) ∧ h = mkS x S') := by
    unfold bfX1_sendThrough_33_22 at hm
    refine Ev.steps tokX1_sendThrough 1 (P := True) (pc' := 24) (lv' := [none, none, none]) (st' := [.int (-2)]) (h' := mkS x S) rfl trivial ?_
    cases hm
    exact Ev.reti tokX1_sendThrough rfl rfl ⟨rfl, rfl⟩
set_option maxHeartbeats 4000000 in
set_option maxRecDepth 20000 in
theorem bpX1_sendThrough_33_0 (x : XT)  (S : ST) (p1 : Int32) (p2 : Int32) (r : Int32) (S' : ST) (hm : bfX1_sendThrough_33_0 x  S p1 p2 = some (r, S')) : Ev mX1_sendThrough 5 0 0 0 [some (.ref 33), some (.int p1), some (.int p2)] [] (mkS x S) (fun v h => v = some (.int r) ∧ h = mkS x S') := by
    unfold bfX1_sendThrough_33_0 at hm
    refine Ev.steps tokX1_sendThrough 3 (P := True) (pc' := 5) (lv' := [some (.ref 33), some (.int p1), some (.int p2)]) (st' := [.int p1, .ref 1]) (h' := mkS x S) rfl trivial ?_
    cases h1 : gfX7_hasGoer_1 x S p1 with
    | none => rw [h1] at hm; cases hm
    | some q2 =>
      obtain ⟨r3, S4⟩ := q2
      rw [h1] at hm
      dsimp only at hm
      refine ev_callV (N := mX7_hasGoer) (d' := 1) (bc := 0) (bs := 0) (bc' := 0) (bs' := 0) (as := [.int p1]) (rest := []) (a := 1) (ci := 7) (dcd tokX1_sendThrough rfl) okX7_hasGoer inX7_hasGoer seX7_hasGoer lk1_39 rfl (by decide) (Nat.le_of_ble_eq_true rfl) rfl ⟨by decide, rfl⟩ (gpX7_hasGoer_1 x S p1 _ _ h1) (fun v h' hq hn => ?_)
      obtain ⟨rfl, rfl⟩ := hq
      refine Ev.steps tokX1_sendThrough 1 (P := True) (pc' := if r3 = 0 then 22 else 11) (lv' := [some (.ref 33), some (.int p1), some (.int p2)]) (st' := []) (h' := mkS x S4) rfl trivial ?_
      refine Ev.ite (fun c5 => ?_) (fun c5 => ?_)
      · rw [if_pos c5] at hm
        refine Ev.fgt (lv' := [none, none, none]) trivial ?_
        exact bpX1_sendThrough_33_22 x S4 _ _ hm
      · rw [if_neg c5] at hm
        refine Ev.steps tokX1_sendThrough 3 (P := True) (pc' := 16) (lv' := [some (.ref 33), some (.int p1), some (.int p2)]) (st' := [.int p2, .ref 1]) (h' := mkS x S4) rfl trivial ?_
        cases h6 : gfX7_hasGate_1 x S4 p2 with
        | none => rw [h6] at hm; cases hm
        | some q7 =>
          obtain ⟨r8, S9⟩ := q7
          rw [h6] at hm
          dsimp only at hm
          refine ev_callV (N := mX7_hasGate) (d' := 1) (bc := 0) (bs := 0) (bc' := 0) (bs' := 0) (as := [.int p2]) (rest := []) (a := 1) (ci := 7) (dcd tokX1_sendThrough rfl) okX7_hasGate inX7_hasGate seX7_hasGate lk1_43 rfl (by decide) (Nat.le_of_ble_eq_true rfl) rfl ⟨by decide, rfl⟩ (gpX7_hasGate_1 x S4 p2 _ _ h6) (fun v h' hq hn => ?_)
          obtain ⟨rfl, rfl⟩ := hq
          refine Ev.steps tokX1_sendThrough 1 (P := True) (pc' := if ¬ r8 = 0 then 25 else 22) (lv' := [some (.ref 33), some (.int p1), some (.int p2)]) (st' := []) (h' := mkS x S9) rfl trivial ?_
          refine Ev.ite (fun c10 => ?_) (fun c10 => ?_)
          · rw [if_pos c10] at hm
            refine Ev.steps tokX1_sendThrough 6 (P := True) (pc' := 35) (lv' := [some (.ref 33), some (.int p1), some (.int p2)]) (st' := [.int p2, .int p1, .ref 1, .ref 20]) (h' := mkS x S9) rfl trivial ?_
            cases h11 : gfX0_can_20_1 x S9 p1 p2 with
            | none => rw [h11] at hm; cases hm
            | some q12 =>
              obtain ⟨r13, S14⟩ := q12
              rw [h11] at hm
              dsimp only at hm
              refine ev_callV (N := mX0_can) (d' := 4) (bc := 0) (bs := 0) (bc' := 0) (bs' := 0) (as := [.ref 1, .int p1, .int p2]) (rest := []) (a := 20) (ci := 0) (dcd tokX1_sendThrough rfl) okX0_can inX0_can seX0_can lk1_46 rfl (by decide) (Nat.le_of_ble_eq_true rfl) rfl ⟨by decide, rfl⟩ (gpX0_can_20_1 x S9 p1 p2 _ _ h11) (fun v h' hq hn => ?_)
              obtain ⟨rfl, rfl⟩ := hq
              refine Ev.steps tokX1_sendThrough 1 (P := True) (pc' := if ¬ r13 = 0 then 44 else 41) (lv' := [some (.ref 33), some (.int p1), some (.int p2)]) (st' := []) (h' := mkS x S14) rfl trivial ?_
              refine Ev.ite (fun c15 => ?_) (fun c15 => ?_)
              · rw [if_pos c15] at hm
                obtain ⟨o16, hm⟩ := oblk hm
                obtain ⟨o17, hm⟩ := oblk hm
                obtain ⟨o18, hm⟩ := oblk hm
                refine Ev.steps tokX1_sendThrough 18 (P := vp_in p1 5 ∧ vp_in p1 5 ∧ vp_in p1 5 ∧ True) (pc' := 76) (lv' := [some (.ref 33), some (.int p1), some (.int p2)]) (st' := [.int (S14.2.1 10 p1.toNatClampNeg), .int (S14.2.1 8 p1.toNatClampNeg), .int (S14.2.1 7 p1.toNatClampNeg), .int p1, .int 263, .ref 33]) (h' := mkS x S14) rfl ⟨inb_ok o16, inb_ok o17, inb_ok o18, trivial⟩ ?_
                cases h19 : gfX1_keep_33 x S14 263 p1 (S14.2.1 7 p1.toNatClampNeg) (S14.2.1 8 p1.toNatClampNeg) (S14.2.1 10 p1.toNatClampNeg) with
                | none => rw [h19] at hm; cases hm
                | some q20 =>
                  obtain ⟨r21, S22⟩ := q20
                  rw [h19] at hm
                  dsimp only at hm
                  refine ev_callV (N := mX1_keep) (d' := 1) (bc := 0) (bs := 0) (bc' := 0) (bs' := 0) (as := [.int 263, .int p1, .int (S14.2.1 7 p1.toNatClampNeg), .int (S14.2.1 8 p1.toNatClampNeg), .int (S14.2.1 10 p1.toNatClampNeg)]) (rest := []) (a := 33) (ci := 1) (dcd tokX1_sendThrough rfl) okX1_keep inX1_keep seX1_keep lk1_61 rfl (by decide) (Nat.le_of_ble_eq_true rfl) rfl ⟨by decide, rfl⟩ (gpX1_keep_33 x S14 263 p1 (S14.2.1 7 p1.toNatClampNeg) (S14.2.1 8 p1.toNatClampNeg) (S14.2.1 10 p1.toNatClampNeg) _ _ h19) (fun v h' hq hn => ?_)
                  obtain ⟨rfl, rfl⟩ := hq
                  refine Ev.steps tokX1_sendThrough 6 (P := True) (pc' := 89) (lv' := [some (.ref 33), some (.int p1), some (.int p2)]) (st' := [.int p2, .int p1, .ref 1, .ref 20]) (h' := mkS x S22) rfl trivial ?_
                  cases h23 : gfX0_move_20_1 x S22 p1 p2 with
                  | none => rw [h23] at hm; cases hm
                  | some q24 =>
                    obtain ⟨r25, S26⟩ := q24
                    rw [h23] at hm
                    dsimp only at hm
                    refine ev_callV (N := mX0_move) (d' := 4) (bc := 0) (bs := 0) (bc' := 0) (bs' := 0) (as := [.ref 1, .int p1, .int p2]) (rest := []) (a := 20) (ci := 0) (dcd tokX1_sendThrough rfl) okX0_move inX0_move seX0_move lk1_65 rfl (by decide) (Nat.le_of_ble_eq_true rfl) rfl ⟨by decide, rfl⟩ (gpX0_move_20_1 x S22 p1 p2 _ _ h23) (fun v h' hq hn => ?_)
                    obtain ⟨rfl, rfl⟩ := hq
                    obtain ⟨o27, hm⟩ := oblk hm
                    refine Ev.steps tokX1_sendThrough 5 (P := vp_in p1 5 ∧ True) (pc' := 101) (lv' := [some (.ref 33), some (.int p1), some (.int p2)]) (st' := [.int (S26.2.1 8 p1.toNatClampNeg)]) (h' := mkS x S26) rfl ⟨inb_ok o27, trivial⟩ ?_
                    cases hm
                    exact Ev.reti tokX1_sendThrough rfl rfl ⟨rfl, rfl⟩
              · rw [if_neg c15] at hm
                refine Ev.steps tokX1_sendThrough 1 (P := True) (pc' := 43) (lv' := [some (.ref 33), some (.int p1), some (.int p2)]) (st' := [.int (-3)]) (h' := mkS x S14) rfl trivial ?_
                cases hm
                exact Ev.reti tokX1_sendThrough rfl rfl ⟨rfl, rfl⟩
          · rw [if_neg c10] at hm
            refine Ev.fgt (lv' := [none, none, none]) trivial ?_
            exact bpX1_sendThrough_33_22 x S9 _ _ hm
theorem gpX1_sendThrough_33 (x : XT) (S : ST) (p1 : Int32) (p2 : Int32) (r : Int32) (S' : ST) (hm : gfX1_sendThrough_33 x S p1 p2 = some (r, S')) : Ct mX1_sendThrough 5 0 0 [.ref 33, .int p1, .int p2] (mkS x S) (fun v h => v = some (.int r) ∧ h = mkS x S') :=
  Ct.of (lv := [some (.ref 33), some (.int p1), some (.int p2)]) rfl rfl rfl (show (_ : Nat) ≤ _ from Nat.le_of_ble_eq_true rfl) (fun G => rfl) (bpX1_sendThrough_33_0 x S p1 p2 r S' hm)
set_option maxHeartbeats 4000000 in
set_option maxRecDepth 20000 in
theorem bpX1_flip_33_68 (x : XT)  (S : ST) (t0 : Int32) (r : Int32) (S' : ST) (hm : bfX1_flip_33_68 x  S t0 = some (r, S')) : Ev mX1_flip 2 0 0 68 [none, none] [.int t0] (mkS x S) (fun v h => v = some (.int r) ∧ h = mkS x S') := by
    unfold bfX1_flip_33_68 at hm
    cases hm
    exact Ev.reti tokX1_flip rfl rfl ⟨rfl, rfl⟩
set_option maxHeartbeats 4000000 in
set_option maxRecDepth 20000 in
theorem bpX1_flip_33_50 (x : XT)  (S : ST) (v1 : Int32) (t1 : Int32) (t2 : Int32) (r : Int32) (S' : ST) (hm : bfX1_flip_33_50 x  S v1 t1 t2 = some (r, S')) : Ev mX1_flip 2 0 0 50 [some (.ref 33), some (.int v1)] [.int t2, .int t1, .ref 6] (mkS x S) (fun v h => v = some (.int r) ∧ h = mkS x S') := by
    unfold bfX1_flip_33_50 at hm
    obtain ⟨o1, hm⟩ := oblk hm
    obtain ⟨o2, hm⟩ := oblk hm
    refine Ev.steps tokX1_flip 7 (P := vp_in t1 10 ∧ vp_in v1 10 ∧ True) (pc' := if ((u2 S.2.1 6 t1.toNatClampNeg (vp_nar .boolean t2)) 6 v1.toNatClampNeg) = 0 then 67 else 63) (lv' := [some (.ref 33), some (.int v1)]) (st' := []) (h' := mkS x (S.1, (u2 S.2.1 6 t1.toNatClampNeg (vp_nar .boolean t2)), S.2.2.1, S.2.2.2)) rfl ⟨inb_ok o1, inb_ok o2, trivial⟩ ?_
    refine Ev.ite (fun c3 => ?_) (fun c3 => ?_)
    · rw [if_pos c3] at hm
      refine Ev.steps tokX1_flip 1 (P := True) (pc' := 68) (lv' := [some (.ref 33), some (.int v1)]) (st' := [.int 0]) (h' := mkS x (S.1, (u2 S.2.1 6 t1.toNatClampNeg (vp_nar .boolean t2)), S.2.2.1, S.2.2.2)) rfl trivial ?_
      refine Ev.fgt (lv' := [none, none]) trivial ?_
      exact bpX1_flip_33_68 x (S.1, (u2 S.2.1 6 t1.toNatClampNeg (vp_nar .boolean t2)), S.2.2.1, S.2.2.2) 0 _ _ hm
    · rw [if_neg c3] at hm
      refine Ev.steps tokX1_flip 2 (P := True) (pc' := 68) (lv' := [some (.ref 33), some (.int v1)]) (st' := [.int 1]) (h' := mkS x (S.1, (u2 S.2.1 6 t1.toNatClampNeg (vp_nar .boolean t2)), S.2.2.1, S.2.2.2)) rfl trivial ?_
      refine Ev.fgt (lv' := [none, none]) trivial ?_
      exact bpX1_flip_33_68 x (S.1, (u2 S.2.1 6 t1.toNatClampNeg (vp_nar .boolean t2)), S.2.2.1, S.2.2.2) 1 _ _ hm
set_option maxHeartbeats 4000000 in
set_option maxRecDepth 20000 in
theorem bpX1_flip_33_0 (x : XT)  (S : ST) (p1 : Int32) (r : Int32) (S' : ST) (hm : bfX1_flip_33_0 x  S p1 = some (r, S')) : Ev mX1_flip 2 0 0 0 [some (.ref 33), some (.int p1)] [] (mkS x S) (fun v h => v = some (.int r) ∧ h = mkS x S') := by
    unfold bfX1_flip_33_0 at hm
    refine Ev.steps tokX1_flip 3 (P := True) (pc' := 5) (lv' := [some (.ref 33), some (.int p1)]) (st' := [.int p1, .ref 1]) (h' := mkS x S) rfl trivial ?_
    cases h1 : gfX7_hasGate_1 x S p1 with
    | none => rw [h1] at hm; cases hm
    | some q2 =>
      obtain ⟨r3, S4⟩ := q2
      rw [h1] at hm
      dsimp only at hm
      refine ev_callV (N := mX7_hasGate) (d' := 1) (bc := 0) (bs := 0) (bc' := 0) (bs' := 0) (as := [.int p1]) (rest := []) (a := 1) (ci := 7) (dcd tokX1_flip rfl) okX7_hasGate inX7_hasGate seX7_hasGate lk1_43 rfl (by decide) (Nat.le_of_ble_eq_true rfl) rfl ⟨by decide, rfl⟩ (gpX7_hasGate_1 x S p1 _ _ h1) (fun v h' hq hn => ?_)
      obtain ⟨rfl, rfl⟩ := hq
      refine Ev.steps tokX1_flip 1 (P := True) (pc' := if ¬ r3 = 0 then 14 else 11) (lv' := [some (.ref 33), some (.int p1)]) (st' := []) (h' := mkS x S4) rfl trivial ?_
      refine Ev.ite (fun c5 => ?_) (fun c5 => ?_)
      · rw [if_pos c5] at hm
        refine Ev.steps tokX1_flip 6 (P := True) (pc' := 22) (lv' := [some (.ref 33), some (.int p1)]) (st' := [.int 0, .int 0, .int 0, .int p1, .int 264, .ref 33]) (h' := mkS x S4) rfl trivial ?_
        cases h6 : gfX1_keep_33 x S4 264 p1 0 0 0 with
        | none => rw [h6] at hm; cases hm
        | some q7 =>
          obtain ⟨r8, S9⟩ := q7
          rw [h6] at hm
          dsimp only at hm
          refine ev_callV (N := mX1_keep) (d' := 1) (bc := 0) (bs := 0) (bc' := 0) (bs' := 0) (as := [.int 264, .int p1, .int 0, .int 0, .int 0]) (rest := []) (a := 33) (ci := 1) (dcd tokX1_flip rfl) okX1_keep inX1_keep seX1_keep lk1_61 rfl (by decide) (Nat.le_of_ble_eq_true rfl) rfl ⟨by decide, rfl⟩ (gpX1_keep_33 x S4 264 p1 0 0 0 _ _ h6) (fun v h' hq hn => ?_)
          obtain ⟨rfl, rfl⟩ := hq
          obtain ⟨o10, hm⟩ := oblk hm
          refine Ev.steps tokX1_flip 10 (P := vp_in p1 10 ∧ True) (pc' := if ¬ (S9.2.1 6 p1.toNatClampNeg) = 0 then 49 else 45) (lv' := [some (.ref 33), some (.int p1)]) (st' := [.int p1, .ref 6]) (h' := mkS x S9) rfl ⟨inb_ok o10, trivial⟩ ?_
          refine Ev.ite (fun c11 => ?_) (fun c11 => ?_)
          · rw [if_pos c11] at hm
            refine Ev.steps tokX1_flip 1 (P := True) (pc' := 50) (lv' := [some (.ref 33), some (.int p1)]) (st' := [.int 0, .int p1, .ref 6]) (h' := mkS x S9) rfl trivial ?_
            exact bpX1_flip_33_50 x S9 p1 p1 0 _ _ hm
          · rw [if_neg c11] at hm
            refine Ev.steps tokX1_flip 2 (P := True) (pc' := 50) (lv' := [some (.ref 33), some (.int p1)]) (st' := [.int 1, .int p1, .ref 6]) (h' := mkS x S9) rfl trivial ?_
            exact bpX1_flip_33_50 x S9 p1 p1 1 _ _ hm
      · rw [if_neg c5] at hm
        refine Ev.steps tokX1_flip 1 (P := True) (pc' := 13) (lv' := [some (.ref 33), some (.int p1)]) (st' := [.int (-2)]) (h' := mkS x S4) rfl trivial ?_
        cases hm
        exact Ev.reti tokX1_flip rfl rfl ⟨rfl, rfl⟩
theorem gpX1_flip_33 (x : XT) (S : ST) (p1 : Int32) (r : Int32) (S' : ST) (hm : gfX1_flip_33 x S p1 = some (r, S')) : Ct mX1_flip 2 0 0 [.ref 33, .int p1] (mkS x S) (fun v h => v = some (.int r) ∧ h = mkS x S') :=
  Ct.of (lv := [some (.ref 33), some (.int p1)]) rfl rfl rfl (show (_ : Nat) ≤ _ from Nat.le_of_ble_eq_true rfl) (fun G => rfl) (bpX1_flip_33_0 x S p1 r S' hm)
end MIR
