section MIR
set_option maxHeartbeats 4000000 in
set_option maxRecDepth 20000 in
theorem bpX4_test_24_44 (x : XT) {dd : Nat} (rec_X4_test : ST → Int32 → Int32 → Option (Int32 × ST)) (hrec_X4_test : ∀ (S : ST) (z0 : Int32) (z1 : Int32) (r : Int32) (S' : ST), rec_X4_test S z0 z1 = some (r, S') → Ct mX4_test dd 0 0 [.ref 24, .int z0, .int z1] (mkS x S) (fun v h => v = some (.int r) ∧ h = mkS x S')) (rec_X4_plain : ST → Int32 → Option (Int32 × ST)) (hrec_X4_plain : ∀ (S : ST) (z0 : Int32) (r : Int32) (S' : ST), rec_X4_plain S z0 = some (r, S') → Ct mX4_plain dd 0 0 [.ref 24, .int z0] (mkS x S) (fun v h => v = some (.int r) ∧ h = mkS x S')) (rec_X4_comparison : ST → Int32 → Option (Int32 × ST)) (hrec_X4_comparison : ∀ (S : ST) (z0 : Int32) (r : Int32) (S' : ST), rec_X4_comparison S z0 = some (r, S') → Ct mX4_comparison dd 0 0 [.ref 24, .int z0] (mkS x S) (fun v h => v = some (.int r) ∧ h = mkS x S')) (rec_X4_inBrackets : ST → Int32 → Int32 → Option (Int32 × ST)) (hrec_X4_inBrackets : ∀ (S : ST) (z0 : Int32) (z1 : Int32) (r : Int32) (S' : ST), rec_X4_inBrackets S z0 z1 = some (r, S') → Ct mX4_inBrackets dd 0 0 [.ref 24, .int z0, .int z1] (mkS x S) (fun v h => v = some (.int r) ∧ h = mkS x S')) (rec_X4_sum : ST → Int32 → Option (Int32 × ST)) (hrec_X4_sum : ∀ (S : ST) (z0 : Int32) (r : Int32) (S' : ST), rec_X4_sum S z0 = some (r, S') → Ct mX4_sum dd 0 0 [.ref 24, .int z0] (mkS x S) (fun v h => v = some (.int r) ∧ h = mkS x S')) (rec_X4_term : ST → Int32 → Option (Int32 × ST)) (hrec_X4_term : ∀ (S : ST) (z0 : Int32) (r : Int32) (S' : ST), rec_X4_term S z0 = some (r, S') → Ct mX4_term dd 0 0 [.ref 24, .int z0] (mkS x S) (fun v h => v = some (.int r) ∧ h = mkS x S')) (rec_X4_part : ST → Int32 → Option (Int32 × ST)) (hrec_X4_part : ∀ (S : ST) (z0 : Int32) (r : Int32) (S' : ST), rec_X4_part S z0 = some (r, S') → Ct mX4_part dd 0 0 [.ref 24, .int z0] (mkS x S) (fun v h => v = some (.int r) ∧ h = mkS x S')) (hB : 3 ≤ dd) (k5 : ST → Int32 → Int32 → Int32 → Int32 → Option (Int32 × ST)) (hk5 : ∀ (S : ST) (v1 : Int32) (v2 : Int32) (v3 : Int32) (v4 : Int32) (r : Int32) (S' : ST), k5 S v1 v2 v3 v4 = some (r, S') → Ev mX4_test (dd + 1) 0 0 5 [some (.ref 24), some (.int v1), some (.int v2), some (.int v3), some (.int v4)] [] (mkS x S) (fun v h => v = some (.int r) ∧ h = mkS x S')) (S : ST) (v1 : Int32) (v2 : Int32) (v3 : Int32) (v4 : Int32) (r : Int32) (S' : ST) (hm : bfX4_test_24_44 x rec_X4_test rec_X4_plain rec_X4_comparison rec_X4_inBrackets rec_X4_sum rec_X4_term rec_X4_part k5 S v1 v2 v3 v4 = some (r, S')) : Ev mX4_test (dd + 1) 0 0 44 [some (.ref 24), some (.int v1), some (.int v2), some (.int v3), some (.int v4)] [] (mkS x S) (fun v h => v = some (.int r) ∧ h = mkS x S') := by
    unfold bfX4_test_24_44 at hm
    refine Ev.steps tokX4_test 3 (P := True) (pc' := 49) (lv' := [some (.ref 24), some (.int v1), some (.int v2), some (.int v3), some (.int v4)]) (st' := [.int v3, .ref 25]) (h' := mkS x S) rfl trivial ?_
    cases h1 : gfX9_aim_25 x S v3 with
    | none => rw [h1] at hm; cases hm
    | some q2 =>
      obtain ⟨r3, S4⟩ := q2
      rw [h1] at hm
      dsimp only at hm
      refine ev_callV (N := mX9_aim) (d' := 1) (bc := 0) (bs := 0) (bc' := 0) (bs' := 0) (as := [.int v3]) (rest := []) (a := 25) (ci := 9) (dcd tokX4_test rfl) okX9_aim inX9_aim seX9_aim lk4_136 rfl (by omega) (Nat.le_of_ble_eq_true rfl) rfl ⟨by decide, rfl⟩ (gpX9_aim_25 x S v3 _ _ h1) (fun v h' hq hn => ?_)
      obtain ⟨rfl, rfl⟩ := hq
      refine Ev.steps tokX4_test 1 (P := True) (pc' := 53) (lv' := [some (.ref 24), some (.int v1), some (.int v2), some (.int v3), some (.int v4)]) (st' := [.ref 24]) (h' := mkS x S4) rfl trivial ?_
      cases h5 : gfX4_here_24 x S4 with
      | none => rw [h5] at hm; cases hm
      | some q6 =>
        obtain ⟨r7, S8⟩ := q6
        rw [h5] at hm
        dsimp only at hm
        refine ev_callV (N := mX4_here) (d' := 1) (bc := 0) (bs := 0) (bc' := 0) (bs' := 0) (as := []) (rest := []) (a := 24) (ci := 4) (dcd tokX4_test rfl) okX4_here inX4_here seX4_here lk4_58 rfl (by omega) (Nat.le_of_ble_eq_true rfl) rfl ⟨by decide, rfl⟩ (gpX4_here_24 x S4 _ _ h5) (fun v h' hq hn => ?_)
        obtain ⟨rfl, rfl⟩ := hq
        refine Ev.steps tokX4_test 2 (P := True) (pc' := if r7 = v2 then 62 else 60) (lv' := [some (.ref 24), some (.int v1), some (.int v2), some (.int v3), some (.int v4)]) (st' := []) (h' := mkS x S8) rfl trivial ?_
        refine Ev.ite (fun c9 => ?_) (fun c9 => ?_)
        · rw [if_pos c9] at hm
          refine Ev.steps tokX4_test 4 (P := True) (pc' := 68) (lv' := [some (.ref 24), some (.int v1), some (.int v2), some (.int v3), some (.int v4)]) (st' := [.int 0, .int v2, .ref 25]) (h' := mkS x S8) rfl trivial ?_
          cases h10 : gfX9_add_25 x S8 v2 0 with
          | none => rw [h10] at hm; cases hm
          | some q11 =>
            obtain ⟨r12, S13⟩ := q11
            rw [h10] at hm
            dsimp only at hm
            refine ev_callV (N := mX9_add) (d' := 1) (bc := 0) (bs := 0) (bc' := 0) (bs' := 0) (as := [.int v2, .int 0]) (rest := []) (a := 25) (ci := 9) (dcd tokX4_test rfl) okX9_add inX9_add seX9_add lk4_140 rfl (by omega) (Nat.le_of_ble_eq_true rfl) rfl ⟨by decide, rfl⟩ (gpX9_add_25 x S8 v2 0 _ _ h10) (fun v h' hq hn => ?_)
            obtain ⟨rfl, rfl⟩ := hq
            refine Ev.steps tokX4_test 9 (P := True) (pc' := 5) (lv' := [some (.ref 24), some (.int v1), some (.int v2), some (.int r12), some (.int (v4 + 1))]) (st' := []) (h' := mkS x ((u2 S13.1 24 6 ((S13.1 24 6) + 1)), S13.2.1, S13.2.2.1, S13.2.2.2)) rfl trivial ?_
            exact hk5 ((u2 S13.1 24 6 ((S13.1 24 6) + 1)), S13.2.1, S13.2.2.1, S13.2.2.2) v1 v2 r12 (v4 + 1) _ _ hm
        · rw [if_neg c9] at hm
          refine Ev.steps tokX4_test 1 (P := True) (pc' := 61) (lv' := [some (.ref 24), some (.int v1), some (.int v2), some (.int v3), some (.int v4)]) (st' := [.int 1]) (h' := mkS x S8) rfl trivial ?_
          cases hm
          exact Ev.retz tokX4_test rfl rfl (Or.inr rfl) ⟨rfl, rfl⟩
set_option maxHeartbeats 4000000 in
set_option maxRecDepth 20000 in
theorem bpX4_test_24_42 (x : XT) {dd : Nat} (rec_X4_test : ST → Int32 → Int32 → Option (Int32 × ST)) (hrec_X4_test : ∀ (S : ST) (z0 : Int32) (z1 : Int32) (r : Int32) (S' : ST), rec_X4_test S z0 z1 = some (r, S') → Ct mX4_test dd 0 0 [.ref 24, .int z0, .int z1] (mkS x S) (fun v h => v = some (.int r) ∧ h = mkS x S')) (rec_X4_plain : ST → Int32 → Option (Int32 × ST)) (hrec_X4_plain : ∀ (S : ST) (z0 : Int32) (r : Int32) (S' : ST), rec_X4_plain S z0 = some (r, S') → Ct mX4_plain dd 0 0 [.ref 24, .int z0] (mkS x S) (fun v h => v = some (.int r) ∧ h = mkS x S')) (rec_X4_comparison : ST → Int32 → Option (Int32 × ST)) (hrec_X4_comparison : ∀ (S : ST) (z0 : Int32) (r : Int32) (S' : ST), rec_X4_comparison S z0 = some (r, S') → Ct mX4_comparison dd 0 0 [.ref 24, .int z0] (mkS x S) (fun v h => v = some (.int r) ∧ h = mkS x S')) (rec_X4_inBrackets : ST → Int32 → Int32 → Option (Int32 × ST)) (hrec_X4_inBrackets : ∀ (S : ST) (z0 : Int32) (z1 : Int32) (r : Int32) (S' : ST), rec_X4_inBrackets S z0 z1 = some (r, S') → Ct mX4_inBrackets dd 0 0 [.ref 24, .int z0, .int z1] (mkS x S) (fun v h => v = some (.int r) ∧ h = mkS x S')) (rec_X4_sum : ST → Int32 → Option (Int32 × ST)) (hrec_X4_sum : ∀ (S : ST) (z0 : Int32) (r : Int32) (S' : ST), rec_X4_sum S z0 = some (r, S') → Ct mX4_sum dd 0 0 [.ref 24, .int z0] (mkS x S) (fun v h => v = some (.int r) ∧ h = mkS x S')) (rec_X4_term : ST → Int32 → Option (Int32 × ST)) (hrec_X4_term : ∀ (S : ST) (z0 : Int32) (r : Int32) (S' : ST), rec_X4_term S z0 = some (r, S') → Ct mX4_term dd 0 0 [.ref 24, .int z0] (mkS x S) (fun v h => v = some (.int r) ∧ h = mkS x S')) (rec_X4_part : ST → Int32 → Option (Int32 × ST)) (hrec_X4_part : ∀ (S : ST) (z0 : Int32) (r : Int32) (S' : ST), rec_X4_part S z0 = some (r, S') → Ct mX4_part dd 0 0 [.ref 24, .int z0] (mkS x S) (fun v h => v = some (.int r) ∧ h = mkS x S')) (hB : 3 ≤ dd)  (S : ST)  (r : Int32) (S' : ST) (hm : bfX4_test_24_42 x rec_X4_test rec_X4_plain rec_X4_comparison rec_X4_inBrackets rec_X4_sum rec_X4_term rec_X4_part  S  = some (r, S')) : Ev mX4_test (dd + 1) 0 0 42 [none, none, none, none, none] [] (mkS x S) (fun v h => v = some (.int r) ∧ h = mkS x S') := by
    unfold bfX4_test_24_42 at hm
    refine Ev.steps tokX4_test 1 (P := True) (pc' := 43) (lv' := [none, none, none, none, none]) (st' := [.int 0]) (h' := mkS x S) rfl trivial ?_
    cases hm
    exact Ev.retz tokX4_test rfl rfl (Or.inl rfl) ⟨rfl, rfl⟩
set_option maxHeartbeats 4000000 in
set_option maxRecDepth 20000 in
theorem bpX4_test_24_5 (x : XT) {dd : Nat} (rec_X4_test : ST → Int32 → Int32 → Option (Int32 × ST)) (hrec_X4_test : ∀ (S : ST) (z0 : Int32) (z1 : Int32) (r : Int32) (S' : ST), rec_X4_test S z0 z1 = some (r, S') → Ct mX4_test dd 0 0 [.ref 24, .int z0, .int z1] (mkS x S) (fun v h => v = some (.int r) ∧ h = mkS x S')) (rec_X4_plain : ST → Int32 → Option (Int32 × ST)) (hrec_X4_plain : ∀ (S : ST) (z0 : Int32) (r : Int32) (S' : ST), rec_X4_plain S z0 = some (r, S') → Ct mX4_plain dd 0 0 [.ref 24, .int z0] (mkS x S) (fun v h => v = some (.int r) ∧ h = mkS x S')) (rec_X4_comparison : ST → Int32 → Option (Int32 × ST)) (hrec_X4_comparison : ∀ (S : ST) (z0 : Int32) (r : Int32) (S' : ST), rec_X4_comparison S z0 = some (r, S') → Ct mX4_comparison dd 0 0 [.ref 24, .int z0] (mkS x S) (fun v h => v = some (.int r) ∧ h = mkS x S')) (rec_X4_inBrackets : ST → Int32 → Int32 → Option (Int32 × ST)) (hrec_X4_inBrackets : ∀ (S : ST) (z0 : Int32) (z1 : Int32) (r : Int32) (S' : ST), rec_X4_inBrackets S z0 z1 = some (r, S') → Ct mX4_inBrackets dd 0 0 [.ref 24, .int z0, .int z1] (mkS x S) (fun v h => v = some (.int r) ∧ h = mkS x S')) (rec_X4_sum : ST → Int32 → Option (Int32 × ST)) (hrec_X4_sum : ∀ (S : ST) (z0 : Int32) (r : Int32) (S' : ST), rec_X4_sum S z0 = some (r, S') → Ct mX4_sum dd 0 0 [.ref 24, .int z0] (mkS x S) (fun v h => v = some (.int r) ∧ h = mkS x S')) (rec_X4_term : ST → Int32 → Option (Int32 × ST)) (hrec_X4_term : ∀ (S : ST) (z0 : Int32) (r : Int32) (S' : ST), rec_X4_term S z0 = some (r, S') → Ct mX4_term dd 0 0 [.ref 24, .int z0] (mkS x S) (fun v h => v = some (.int r) ∧ h = mkS x S')) (rec_X4_part : ST → Int32 → Option (Int32 × ST)) (hrec_X4_part : ∀ (S : ST) (z0 : Int32) (r : Int32) (S' : ST), rec_X4_part S z0 = some (r, S') → Ct mX4_part dd 0 0 [.ref 24, .int z0] (mkS x S) (fun v h => v = some (.int r) ∧ h = mkS x S')) (hB : 3 ≤ dd) (k5 : ST → Int32 → Int32 → Int32 → Int32 → Option (Int32 × ST)) (hk5 : ∀ (S : ST) (v1 : Int32) (v2 : Int32) (v3 : Int32) (v4 : Int32) (r : Int32) (S' : ST), k5 S v1 v2 v3 v4 = some (r, S') → Ev mX4_test (dd + 1) 0 0 5 [some (.ref 24), some (.int v1), some (.int v2), some (.int v3), some (.int v4)] [] (mkS x S) (fun v h => v = some (.int r) ∧ h = mkS x S')) (S : ST) (v1 : Int32) (v2 : Int32) (v3 : Int32) (v4 : Int32) (r : Int32) (S' : ST) (hm : bfX4_test_24_5 x rec_X4_test rec_X4_plain rec_X4_comparison rec_X4_inBrackets rec_X4_sum rec_X4_term rec_X4_part k5 S v1 v2 v3 v4 = some (r, S')) : Ev mX4_test (dd + 1) 0 0 5 [some (.ref 24), some (.int v1), some (.int v2), some (.int v3), some (.int v4)] [] (mkS x S) (fun v h => v = some (.int r) ∧ h = mkS x S') := by
    unfold bfX4_test_24_5 at hm
    refine Ev.steps tokX4_test 3 (P := True) (pc' := if 400 < v4 then 88 else 13) (lv' := [some (.ref 24), some (.int v1), some (.int v2), some (.int v3), some (.int v4)]) (st' := []) (h' := mkS x S) rfl trivial ?_
    refine Ev.ite (fun c1 => ?_) (fun c1 => ?_)
    · rw [if_pos c1] at hm
      refine Ev.steps tokX4_test 1 (P := True) (pc' := 89) (lv' := [some (.ref 24), some (.int v1), some (.int v2), some (.int v3), some (.int v4)]) (st' := [.ref 24]) (h' := mkS x S) rfl trivial ?_
      cases h2 : gfX4_faulty_24 x S with
      | none => rw [h2] at hm; cases hm
      | some q3 =>
        obtain ⟨r4, S5⟩ := q3
        rw [h2] at hm
        dsimp only at hm
        refine ev_callV (N := mX4_faulty) (d' := 1) (bc := 0) (bs := 0) (bc' := 0) (bs' := 0) (as := []) (rest := []) (a := 24) (ci := 4) (dcd tokX4_test rfl) okX4_faulty inX4_faulty seX4_faulty lk4_62 rfl (by omega) (Nat.le_of_ble_eq_true rfl) rfl ⟨by decide, rfl⟩ (gpX4_faulty_24 x S _ _ h2) (fun v h' hq hn => ?_)
        obtain ⟨rfl, rfl⟩ := hq
        obtain ⟨o6, hm⟩ := oblk hm
        cases hm
        exact Ev.retz tokX4_test rfl rfl (bbz_ok o6) ⟨rfl, rfl⟩
    · rw [if_neg c1] at hm
      refine Ev.steps tokX4_test 3 (P := True) (pc' := if ¬ v2 = 271 then 34 else 20) (lv' := [some (.ref 24), some (.int v1), some (.int v2), some (.int v3), some (.int v4)]) (st' := []) (h' := mkS x S) rfl trivial ?_
      refine Ev.ite (fun c7 => ?_) (fun c7 => ?_)
      · rw [if_pos c7] at hm
        refine Ev.steps tokX4_test 2 (P := True) (pc' := 36) (lv' := [some (.ref 24), some (.int v1), some (.int v2), some (.int v3), some (.int v4)]) (st' := [.int v1, .ref 24]) (h' := mkS x S) rfl trivial ?_
        cases h8 : rec_X4_plain S v1 with
        | none => rw [h8] at hm; cases hm
        | some q9 =>
          obtain ⟨r10, S11⟩ := q9
          rw [h8] at hm
          dsimp only at hm
          refine ev_callV (N := mX4_plain) (d' := dd) (bc := 0) (bs := 0) (bc' := 0) (bs' := 0) (as := [.int v1]) (rest := []) (a := 24) (ci := 4) (dcd tokX4_test rfl) okX4_plain inX4_plain seX4_plain lk4_133 rfl (by omega) (Nat.le_of_ble_eq_true rfl) rfl ⟨by decide, rfl⟩ (hrec_X4_plain S v1 _ _ h8) (fun v h' hq hn => ?_)
          obtain ⟨rfl, rfl⟩ := hq
          refine Ev.steps tokX4_test 1 (P := True) (pc' := if ¬ r10 = 0 then 44 else 42) (lv' := [some (.ref 24), some (.int v1), some (.int v2), some (.int v3), some (.int v4)]) (st' := []) (h' := mkS x S11) rfl trivial ?_
          refine Ev.ite (fun c12 => ?_) (fun c12 => ?_)
          · rw [if_pos c12] at hm
            exact bpX4_test_24_44 x (dd := dd) rec_X4_test hrec_X4_test rec_X4_plain hrec_X4_plain rec_X4_comparison hrec_X4_comparison rec_X4_inBrackets hrec_X4_inBrackets rec_X4_sum hrec_X4_sum rec_X4_term hrec_X4_term rec_X4_part hrec_X4_part hB k5 hk5 S11 v1 v2 v3 v4 _ _ hm
          · rw [if_neg c12] at hm
            refine Ev.fgt (lv' := [none, none, none, none, none]) trivial ?_
            exact bpX4_test_24_42 x (dd := dd) rec_X4_test hrec_X4_test rec_X4_plain hrec_X4_plain rec_X4_comparison hrec_X4_comparison rec_X4_inBrackets hrec_X4_inBrackets rec_X4_sum hrec_X4_sum rec_X4_term hrec_X4_term rec_X4_part hrec_X4_part hB S11 _ _ hm
      · rw [if_neg c7] at hm
        refine Ev.steps tokX4_test 3 (P := True) (pc' := 25) (lv' := [some (.ref 24), some (.int v1), some (.int v2), some (.int v3), some (.int v4)]) (st' := [.int 272, .int v1, .ref 24]) (h' := mkS x S) rfl trivial ?_
        cases h13 : rec_X4_test S v1 272 with
        | none => rw [h13] at hm; cases hm
        | some q14 =>
          obtain ⟨r15, S16⟩ := q14
          rw [h13] at hm
          dsimp only at hm
          refine ev_callV (N := mX4_test) (d' := dd) (bc := 0) (bs := 0) (bc' := 0) (bs' := 0) (as := [.int v1, .int 272]) (rest := []) (a := 24) (ci := 4) (dcd tokX4_test rfl) okX4_test inX4_test seX4_test lk4_129 rfl (by omega) (Nat.le_of_ble_eq_true rfl) rfl ⟨by decide, rfl⟩ (hrec_X4_test S v1 272 _ _ h13) (fun v h' hq hn => ?_)
          obtain ⟨rfl, rfl⟩ := hq
          refine Ev.steps tokX4_test 1 (P := True) (pc' := if r15 = 0 then 42 else 31) (lv' := [some (.ref 24), some (.int v1), some (.int v2), some (.int v3), some (.int v4)]) (st' := []) (h' := mkS x S16) rfl trivial ?_
          refine Ev.ite (fun c17 => ?_) (fun c17 => ?_)
          · rw [if_pos c17] at hm
            refine Ev.fgt (lv' := [none, none, none, none, none]) trivial ?_
            exact bpX4_test_24_42 x (dd := dd) rec_X4_test hrec_X4_test rec_X4_plain hrec_X4_plain rec_X4_comparison hrec_X4_comparison rec_X4_inBrackets hrec_X4_inBrackets rec_X4_sum hrec_X4_sum rec_X4_term hrec_X4_term rec_X4_part hrec_X4_part hB S16 _ _ hm
          · rw [if_neg c17] at hm
            refine Ev.steps tokX4_test 1 (P := True) (pc' := 44) (lv' := [some (.ref 24), some (.int v1), some (.int v2), some (.int v3), some (.int v4)]) (st' := []) (h' := mkS x S16) rfl trivial ?_
            exact bpX4_test_24_44 x (dd := dd) rec_X4_test hrec_X4_test rec_X4_plain hrec_X4_plain rec_X4_comparison hrec_X4_comparison rec_X4_inBrackets hrec_X4_inBrackets rec_X4_sum hrec_X4_sum rec_X4_term hrec_X4_term rec_X4_part hrec_X4_part hB k5 hk5 S16 v1 v2 v3 v4 _ _ hm
theorem lpX4_test_24_5 (x : XT) {dd : Nat} (rec_X4_test : ST → Int32 → Int32 → Option (Int32 × ST)) (hrec_X4_test : ∀ (S : ST) (z0 : Int32) (z1 : Int32) (r : Int32) (S' : ST), rec_X4_test S z0 z1 = some (r, S') → Ct mX4_test dd 0 0 [.ref 24, .int z0, .int z1] (mkS x S) (fun v h => v = some (.int r) ∧ h = mkS x S')) (rec_X4_plain : ST → Int32 → Option (Int32 × ST)) (hrec_X4_plain : ∀ (S : ST) (z0 : Int32) (r : Int32) (S' : ST), rec_X4_plain S z0 = some (r, S') → Ct mX4_plain dd 0 0 [.ref 24, .int z0] (mkS x S) (fun v h => v = some (.int r) ∧ h = mkS x S')) (rec_X4_comparison : ST → Int32 → Option (Int32 × ST)) (hrec_X4_comparison : ∀ (S : ST) (z0 : Int32) (r : Int32) (S' : ST), rec_X4_comparison S z0 = some (r, S') → Ct mX4_comparison dd 0 0 [.ref 24, .int z0] (mkS x S) (fun v h => v = some (.int r) ∧ h = mkS x S')) (rec_X4_inBrackets : ST → Int32 → Int32 → Option (Int32 × ST)) (hrec_X4_inBrackets : ∀ (S : ST) (z0 : Int32) (z1 : Int32) (r : Int32) (S' : ST), rec_X4_inBrackets S z0 z1 = some (r, S') → Ct mX4_inBrackets dd 0 0 [.ref 24, .int z0, .int z1] (mkS x S) (fun v h => v = some (.int r) ∧ h = mkS x S')) (rec_X4_sum : ST → Int32 → Option (Int32 × ST)) (hrec_X4_sum : ∀ (S : ST) (z0 : Int32) (r : Int32) (S' : ST), rec_X4_sum S z0 = some (r, S') → Ct mX4_sum dd 0 0 [.ref 24, .int z0] (mkS x S) (fun v h => v = some (.int r) ∧ h = mkS x S')) (rec_X4_term : ST → Int32 → Option (Int32 × ST)) (hrec_X4_term : ∀ (S : ST) (z0 : Int32) (r : Int32) (S' : ST), rec_X4_term S z0 = some (r, S') → Ct mX4_term dd 0 0 [.ref 24, .int z0] (mkS x S) (fun v h => v = some (.int r) ∧ h = mkS x S')) (rec_X4_part : ST → Int32 → Option (Int32 × ST)) (hrec_X4_part : ∀ (S : ST) (z0 : Int32) (r : Int32) (S' : ST), rec_X4_part S z0 = some (r, S') → Ct mX4_part dd 0 0 [.ref 24, .int z0] (mkS x S) (fun v h => v = some (.int r) ∧ h = mkS x S')) (hB : 3 ≤ dd)  : ∀ (n : Nat) (S : ST) (v1 : Int32) (v2 : Int32) (v3 : Int32) (v4 : Int32) (r : Int32) (S' : ST), lfX4_test_24_5 x rec_X4_test rec_X4_plain rec_X4_comparison rec_X4_inBrackets rec_X4_sum rec_X4_term rec_X4_part  n S v1 v2 v3 v4 = some (r, S') → Ev mX4_test (dd + 1) 0 0 5 [some (.ref 24), some (.int v1), some (.int v2), some (.int v3), some (.int v4)] [] (mkS x S) (fun v h => v = some (.int r) ∧ h = mkS x S')
  | 0, _, _, _, _, _, _, _, hm => by cases hm
  | n + 1, S, v1, v2, v3, v4, r, S', hm => bpX4_test_24_5 x (dd := dd) rec_X4_test hrec_X4_test rec_X4_plain hrec_X4_plain rec_X4_comparison hrec_X4_comparison rec_X4_inBrackets hrec_X4_inBrackets rec_X4_sum hrec_X4_sum rec_X4_term hrec_X4_term rec_X4_part hrec_X4_part hB (lfX4_test_24_5 x rec_X4_test rec_X4_plain rec_X4_comparison rec_X4_inBrackets rec_X4_sum rec_X4_term rec_X4_part  n) (lpX4_test_24_5 x (dd := dd) rec_X4_test hrec_X4_test rec_X4_plain hrec_X4_plain rec_X4_comparison hrec_X4_comparison rec_X4_inBrackets hrec_X4_inBrackets rec_X4_sum hrec_X4_sum rec_X4_term hrec_X4_term rec_X4_part hrec_X4_part hB  n) S v1 v2 v3 v4 r S' hm
set_option maxHeartbeats 4000000 in
set_option maxRecDepth 20000 in
theorem bpX4_test_24_0 (x : XT) {dd : Nat} (rec_X4_test : ST → Int32 → Int32 → Option (Int32 × ST)) (hrec_X4_test : ∀ (S : ST) (z0 : Int32) (z1 : Int32) (r : Int32) (S' : ST), rec_X4_test S z0 z1 = some (r, S') → Ct mX4_test dd 0 0 [.ref 24, .int z0, .int z1] (mkS x S) (fun v h => v = some (.int r) ∧ h = mkS x S')) (rec_X4_plain : ST → Int32 → Option (Int32 × ST)) (hrec_X4_plain : ∀ (S : ST) (z0 : Int32) (r : Int32) (S' : ST), rec_X4_plain S z0 = some (r, S') → Ct mX4_plain dd 0 0 [.ref 24, .int z0] (mkS x S) (fun v h => v = some (.int r) ∧ h = mkS x S')) (rec_X4_comparison : ST → Int32 → Option (Int32 × ST)) (hrec_X4_comparison : ∀ (S : ST) (z0 : Int32) (r : Int32) (S' : ST), rec_X4_comparison S z0 = some (r, S') → Ct mX4_comparison dd 0 0 [.ref 24, .int z0] (mkS x S) (fun v h => v = some (.int r) ∧ h = mkS x S')) (rec_X4_inBrackets : ST → Int32 → Int32 → Option (Int32 × ST)) (hrec_X4_inBrackets : ∀ (S : ST) (z0 : Int32) (z1 : Int32) (r : Int32) (S' : ST), rec_X4_inBrackets S z0 z1 = some (r, S') → Ct mX4_inBrackets dd 0 0 [.ref 24, .int z0, .int z1] (mkS x S) (fun v h => v = some (.int r) ∧ h = mkS x S')) (rec_X4_sum : ST → Int32 → Option (Int32 × ST)) (hrec_X4_sum : ∀ (S : ST) (z0 : Int32) (r : Int32) (S' : ST), rec_X4_sum S z0 = some (r, S') → Ct mX4_sum dd 0 0 [.ref 24, .int z0] (mkS x S) (fun v h => v = some (.int r) ∧ h = mkS x S')) (rec_X4_term : ST → Int32 → Option (Int32 × ST)) (hrec_X4_term : ∀ (S : ST) (z0 : Int32) (r : Int32) (S' : ST), rec_X4_term S z0 = some (r, S') → Ct mX4_term dd 0 0 [.ref 24, .int z0] (mkS x S) (fun v h => v = some (.int r) ∧ h = mkS x S')) (rec_X4_part : ST → Int32 → Option (Int32 × ST)) (hrec_X4_part : ∀ (S : ST) (z0 : Int32) (r : Int32) (S' : ST), rec_X4_part S z0 = some (r, S') → Ct mX4_part dd 0 0 [.ref 24, .int z0] (mkS x S) (fun v h => v = some (.int r) ∧ h = mkS x S')) (hB : 3 ≤ dd)  (S : ST) (p1 : Int32) (p2 : Int32) (r : Int32) (S' : ST) (hm : bfX4_test_24_0 x rec_X4_test rec_X4_plain rec_X4_comparison rec_X4_inBrackets rec_X4_sum rec_X4_term rec_X4_part  S p1 p2 = some (r, S')) : Ev mX4_test (dd + 1) 0 0 0 [some (.ref 24), some (.int p1), some (.int p2), none, none] [] (mkS x S) (fun v h => v = some (.int r) ∧ h = mkS x S') := by
    unfold bfX4_test_24_0 at hm
    refine Ev.steps tokX4_test 4 (P := True) (pc' := 5) (lv' := [some (.ref 24), some (.int p1), some (.int p2), some (.int (-1)), some (.int 0)]) (st' := []) (h' := mkS x S) rfl trivial ?_
    exact lpX4_test_24_5 x (dd := dd) rec_X4_test hrec_X4_test rec_X4_plain hrec_X4_plain rec_X4_comparison hrec_X4_comparison rec_X4_inBrackets hrec_X4_inBrackets rec_X4_sum hrec_X4_sum rec_X4_term hrec_X4_term rec_X4_part hrec_X4_part hB  20000 S p1 p2 (-1) 0 _ _ hm
theorem grpX4_test_24 (x : XT) {dd : Nat} (rec_X4_test : ST → Int32 → Int32 → Option (Int32 × ST)) (hrec_X4_test : ∀ (S : ST) (z0 : Int32) (z1 : Int32) (r : Int32) (S' : ST), rec_X4_test S z0 z1 = some (r, S') → Ct mX4_test dd 0 0 [.ref 24, .int z0, .int z1] (mkS x S) (fun v h => v = some (.int r) ∧ h = mkS x S')) (rec_X4_plain : ST → Int32 → Option (Int32 × ST)) (hrec_X4_plain : ∀ (S : ST) (z0 : Int32) (r : Int32) (S' : ST), rec_X4_plain S z0 = some (r, S') → Ct mX4_plain dd 0 0 [.ref 24, .int z0] (mkS x S) (fun v h => v = some (.int r) ∧ h = mkS x S')) (rec_X4_comparison : ST → Int32 → Option (Int32 × ST)) (hrec_X4_comparison : ∀ (S : ST) (z0 : Int32) (r : Int32) (S' : ST), rec_X4_comparison S z0 = some (r, S') → Ct mX4_comparison dd 0 0 [.ref 24, .int z0] (mkS x S) (fun v h => v = some (.int r) ∧ h = mkS x S')) (rec_X4_inBrackets : ST → Int32 → Int32 → Option (Int32 × ST)) (hrec_X4_inBrackets : ∀ (S : ST) (z0 : Int32) (z1 : Int32) (r : Int32) (S' : ST), rec_X4_inBrackets S z0 z1 = some (r, S') → Ct mX4_inBrackets dd 0 0 [.ref 24, .int z0, .int z1] (mkS x S) (fun v h => v = some (.int r) ∧ h = mkS x S')) (rec_X4_sum : ST → Int32 → Option (Int32 × ST)) (hrec_X4_sum : ∀ (S : ST) (z0 : Int32) (r : Int32) (S' : ST), rec_X4_sum S z0 = some (r, S') → Ct mX4_sum dd 0 0 [.ref 24, .int z0] (mkS x S) (fun v h => v = some (.int r) ∧ h = mkS x S')) (rec_X4_term : ST → Int32 → Option (Int32 × ST)) (hrec_X4_term : ∀ (S : ST) (z0 : Int32) (r : Int32) (S' : ST), rec_X4_term S z0 = some (r, S') → Ct mX4_term dd 0 0 [.ref 24, .int z0] (mkS x S) (fun v h => v = some (.int r) ∧ h = mkS x S')) (rec_X4_part : ST → Int32 → Option (Int32 × ST)) (hrec_X4_part : ∀ (S : ST) (z0 : Int32) (r : Int32) (S' : ST), rec_X4_part S z0 = some (r, S') → Ct mX4_part dd 0 0 [.ref 24, .int z0] (mkS x S) (fun v h => v = some (.int r) ∧ h = mkS x S')) (hB : 3 ≤ dd) (S : ST) (p1 : Int32) (p2 : Int32) (r : Int32) (S' : ST) (hm : grfX4_test_24 x rec_X4_test rec_X4_plain rec_X4_comparison rec_X4_inBrackets rec_X4_sum rec_X4_term rec_X4_part S p1 p2 = some (r, S')) : Ct mX4_test (dd + 1) 0 0 [.ref 24, .int p1, .int p2] (mkS x S) (fun v h => v = some (.int r) ∧ h = mkS x S') :=
  Ct.of (lv := [some (.ref 24), some (.int p1), some (.int p2), none, none]) rfl rfl rfl (show (_ : Nat) ≤ _ from Nat.le_of_ble_eq_true rfl) (fun G => rfl) (bpX4_test_24_0 x (dd := dd) rec_X4_test hrec_X4_test rec_X4_plain hrec_X4_plain rec_X4_comparison hrec_X4_comparison rec_X4_inBrackets hrec_X4_inBrackets rec_X4_sum hrec_X4_sum rec_X4_term hrec_X4_term rec_X4_part hrec_X4_part hB S p1 p2 r S' hm)
set_option maxHeartbeats 4000000 in
set_option maxRecDepth 20000 in
theorem bpX4_plain_24_95 (x : XT) {dd : Nat} (rec_X4_test : ST → Int32 → Int32 → Option (Int32 × ST)) (hrec_X4_test : ∀ (S : ST) (z0 : Int32) (z1 : Int32) (r : Int32) (S' : ST), rec_X4_test S z0 z1 = some (r, S') → Ct mX4_test dd 0 0 [.ref 24, .int z0, .int z1] (mkS x S) (fun v h => v = some (.int r) ∧ h = mkS x S')) (rec_X4_plain : ST → Int32 → Option (Int32 × ST)) (hrec_X4_plain : ∀ (S : ST) (z0 : Int32) (r : Int32) (S' : ST), rec_X4_plain S z0 = some (r, S') → Ct mX4_plain dd 0 0 [.ref 24, .int z0] (mkS x S) (fun v h => v = some (.int r) ∧ h = mkS x S')) (rec_X4_comparison : ST → Int32 → Option (Int32 × ST)) (hrec_X4_comparison : ∀ (S : ST) (z0 : Int32) (r : Int32) (S' : ST), rec_X4_comparison S z0 = some (r, S') → Ct mX4_comparison dd 0 0 [.ref 24, .int z0] (mkS x S) (fun v h => v = some (.int r) ∧ h = mkS x S')) (rec_X4_inBrackets : ST → Int32 → Int32 → Option (Int32 × ST)) (hrec_X4_inBrackets : ∀ (S : ST) (z0 : Int32) (z1 : Int32) (r : Int32) (S' : ST), rec_X4_inBrackets S z0 z1 = some (r, S') → Ct mX4_inBrackets dd 0 0 [.ref 24, .int z0, .int z1] (mkS x S) (fun v h => v = some (.int r) ∧ h = mkS x S')) (rec_X4_sum : ST → Int32 → Option (Int32 × ST)) (hrec_X4_sum : ∀ (S : ST) (z0 : Int32) (r : Int32) (S' : ST), rec_X4_sum S z0 = some (r, S') → Ct mX4_sum dd 0 0 [.ref 24, .int z0] (mkS x S) (fun v h => v = some (.int r) ∧ h = mkS x S')) (rec_X4_term : ST → Int32 → Option (Int32 × ST)) (hrec_X4_term : ∀ (S : ST) (z0 : Int32) (r : Int32) (S' : ST), rec_X4_term S z0 = some (r, S') → Ct mX4_term dd 0 0 [.ref 24, .int z0] (mkS x S) (fun v h => v = some (.int r) ∧ h = mkS x S')) (rec_X4_part : ST → Int32 → Option (Int32 × ST)) (hrec_X4_part : ∀ (S : ST) (z0 : Int32) (r : Int32) (S' : ST), rec_X4_part S z0 = some (r, S') → Ct mX4_part dd 0 0 [.ref 24, .int z0] (mkS x S) (fun v h => v = some (.int r) ∧ h = mkS x S')) (hB : 3 ≤ dd)  (S : ST)  (r : Int32) (S' : ST) (hm : bfX4_plain_24_95 x rec_X4_test rec_X4_plain rec_X4_comparison rec_X4_inBrackets rec_X4_sum rec_X4_term rec_X4_part  S  = some (r, S')) : Ev mX4_plain (dd + 1) 0 0 95 [none, none, none, none] [] (mkS x S) (fun v h => v = some (.int r) ∧ h = mkS x S') := by
    unfold bfX4_plain_24_95 at hm
    refine Ev.steps tokX4_plain 1 (P := True) (pc' := 96) (lv' := [none, none, none, none]) (st' := [.int 1]) (h' := mkS x S) rfl trivial ?_
    cases hm
    exact Ev.retz tokX4_plain rfl rfl (Or.inr rfl) ⟨rfl, rfl⟩
set_option maxHeartbeats 4000000 in
set_option maxRecDepth 20000 in
theorem bpX4_plain_24_79 (x : XT) {dd : Nat} (rec_X4_test : ST → Int32 → Int32 → Option (Int32 × ST)) (hrec_X4_test : ∀ (S : ST) (z0 : Int32) (z1 : Int32) (r : Int32) (S' : ST), rec_X4_test S z0 z1 = some (r, S') → Ct mX4_test dd 0 0 [.ref 24, .int z0, .int z1] (mkS x S) (fun v h => v = some (.int r) ∧ h = mkS x S')) (rec_X4_plain : ST → Int32 → Option (Int32 × ST)) (hrec_X4_plain : ∀ (S : ST) (z0 : Int32) (r : Int32) (S' : ST), rec_X4_plain S z0 = some (r, S') → Ct mX4_plain dd 0 0 [.ref 24, .int z0] (mkS x S) (fun v h => v = some (.int r) ∧ h = mkS x S')) (rec_X4_comparison : ST → Int32 → Option (Int32 × ST)) (hrec_X4_comparison : ∀ (S : ST) (z0 : Int32) (r : Int32) (S' : ST), rec_X4_comparison S z0 = some (r, S') → Ct mX4_comparison dd 0 0 [.ref 24, .int z0] (mkS x S) (fun v h => v = some (.int r) ∧ h = mkS x S')) (rec_X4_inBrackets : ST → Int32 → Int32 → Option (Int32 × ST)) (hrec_X4_inBrackets : ∀ (S : ST) (z0 : Int32) (z1 : Int32) (r : Int32) (S' : ST), rec_X4_inBrackets S z0 z1 = some (r, S') → Ct mX4_inBrackets dd 0 0 [.ref 24, .int z0, .int z1] (mkS x S) (fun v h => v = some (.int r) ∧ h = mkS x S')) (rec_X4_sum : ST → Int32 → Option (Int32 × ST)) (hrec_X4_sum : ∀ (S : ST) (z0 : Int32) (r : Int32) (S' : ST), rec_X4_sum S z0 = some (r, S') → Ct mX4_sum dd 0 0 [.ref 24, .int z0] (mkS x S) (fun v h => v = some (.int r) ∧ h = mkS x S')) (rec_X4_term : ST → Int32 → Option (Int32 × ST)) (hrec_X4_term : ∀ (S : ST) (z0 : Int32) (r : Int32) (S' : ST), rec_X4_term S z0 = some (r, S') → Ct mX4_term dd 0 0 [.ref 24, .int z0] (mkS x S) (fun v h => v = some (.int r) ∧ h = mkS x S')) (rec_X4_part : ST → Int32 → Option (Int32 × ST)) (hrec_X4_part : ∀ (S : ST) (z0 : Int32) (r : Int32) (S' : ST), rec_X4_part S z0 = some (r, S') → Ct mX4_part dd 0 0 [.ref 24, .int z0] (mkS x S) (fun v h => v = some (.int r) ∧ h = mkS x S')) (hB : 3 ≤ dd)  (S : ST) (v2 : Int32) (r : Int32) (S' : ST) (hm : bfX4_plain_24_79 x rec_X4_test rec_X4_plain rec_X4_comparison rec_X4_inBrackets rec_X4_sum rec_X4_term rec_X4_part  S v2 = some (r, S')) : Ev mX4_plain (dd + 1) 0 0 79 [some (.ref 24), none, some (.int v2), none] [] (mkS x S) (fun v h => v = some (.int r) ∧ h = mkS x S') := by
    unfold bfX4_plain_24_79 at hm
    refine Ev.steps tokX4_plain 2 (P := True) (pc' := if v2 = 0 then 95 else 83) (lv' := [some (.ref 24), none, some (.int v2), none]) (st' := []) (h' := mkS x S) rfl trivial ?_
    refine Ev.ite (fun c1 => ?_) (fun c1 => ?_)
    · rw [if_pos c1] at hm
      refine Ev.fgt (lv' := [none, none, none, none]) trivial ?_
      exact bpX4_plain_24_95 x (dd := dd) rec_X4_test hrec_X4_test rec_X4_plain hrec_X4_plain rec_X4_comparison hrec_X4_comparison rec_X4_inBrackets hrec_X4_inBrackets rec_X4_sum hrec_X4_sum rec_X4_term hrec_X4_term rec_X4_part hrec_X4_part hB S _ _ hm
    · rw [if_neg c1] at hm
      refine Ev.steps tokX4_plain 4 (P := True) (pc' := 91) (lv' := [some (.ref 24), none, some (.int v2), none]) (st' := [.int 0, .int 273, .ref 25]) (h' := mkS x S) rfl trivial ?_
      cases h2 : gfX9_add_25 x S 273 0 with
      | none => rw [h2] at hm; cases hm
      | some q3 =>
        obtain ⟨r4, S5⟩ := q3
        rw [h2] at hm
        dsimp only at hm
        refine ev_callV (N := mX9_add) (d' := 1) (bc := 0) (bs := 0) (bc' := 0) (bs' := 0) (as := [.int 273, .int 0]) (rest := []) (a := 25) (ci := 9) (dcd tokX4_plain rfl) okX9_add inX9_add seX9_add lk4_140 rfl (by omega) (Nat.le_of_ble_eq_true rfl) rfl ⟨by decide, rfl⟩ (gpX9_add_25 x S 273 0 _ _ h2) (fun v h' hq hn => ?_)
        obtain ⟨rfl, rfl⟩ := hq
        refine Ev.steps tokX4_plain 1 (P := True) (pc' := 95) (lv' := [some (.ref 24), none, some (.int v2), none]) (st' := []) (h' := mkS x S5) rfl trivial ?_
        refine Ev.fgt (lv' := [none, none, none, none]) trivial ?_
        exact bpX4_plain_24_95 x (dd := dd) rec_X4_test hrec_X4_test rec_X4_plain hrec_X4_plain rec_X4_comparison hrec_X4_comparison rec_X4_inBrackets hrec_X4_inBrackets rec_X4_sum hrec_X4_sum rec_X4_term hrec_X4_term rec_X4_part hrec_X4_part hB S5 _ _ hm
set_option maxHeartbeats 4000000 in
set_option maxRecDepth 20000 in
theorem bpX4_plain_24_77 (x : XT) {dd : Nat} (rec_X4_test : ST → Int32 → Int32 → Option (Int32 × ST)) (hrec_X4_test : ∀ (S : ST) (z0 : Int32) (z1 : Int32) (r : Int32) (S' : ST), rec_X4_test S z0 z1 = some (r, S') → Ct mX4_test dd 0 0 [.ref 24, .int z0, .int z1] (mkS x S) (fun v h => v = some (.int r) ∧ h = mkS x S')) (rec_X4_plain : ST → Int32 → Option (Int32 × ST)) (hrec_X4_plain : ∀ (S : ST) (z0 : Int32) (r : Int32) (S' : ST), rec_X4_plain S z0 = some (r, S') → Ct mX4_plain dd 0 0 [.ref 24, .int z0] (mkS x S) (fun v h => v = some (.int r) ∧ h = mkS x S')) (rec_X4_comparison : ST → Int32 → Option (Int32 × ST)) (hrec_X4_comparison : ∀ (S : ST) (z0 : Int32) (r : Int32) (S' : ST), rec_X4_comparison S z0 = some (r, S') → Ct mX4_comparison dd 0 0 [.ref 24, .int z0] (mkS x S) (fun v h => v = some (.int r) ∧ h = mkS x S')) (rec_X4_inBrackets : ST → Int32 → Int32 → Option (Int32 × ST)) (hrec_X4_inBrackets : ∀ (S : ST) (z0 : Int32) (z1 : Int32) (r : Int32) (S' : ST), rec_X4_inBrackets S z0 z1 = some (r, S') → Ct mX4_inBrackets dd 0 0 [.ref 24, .int z0, .int z1] (mkS x S) (fun v h => v = some (.int r) ∧ h = mkS x S')) (rec_X4_sum : ST → Int32 → Option (Int32 × ST)) (hrec_X4_sum : ∀ (S : ST) (z0 : Int32) (r : Int32) (S' : ST), rec_X4_sum S z0 = some (r, S') → Ct mX4_sum dd 0 0 [.ref 24, .int z0] (mkS x S) (fun v h => v = some (.int r) ∧ h = mkS x S')) (rec_X4_term : ST → Int32 → Option (Int32 × ST)) (hrec_X4_term : ∀ (S : ST) (z0 : Int32) (r : Int32) (S' : ST), rec_X4_term S z0 = some (r, S') → Ct mX4_term dd 0 0 [.ref 24, .int z0] (mkS x S) (fun v h => v = some (.int r) ∧ h = mkS x S')) (rec_X4_part : ST → Int32 → Option (Int32 × ST)) (hrec_X4_part : ∀ (S : ST) (z0 : Int32) (r : Int32) (S' : ST), rec_X4_part S z0 = some (r, S') → Ct mX4_part dd 0 0 [.ref 24, .int z0] (mkS x S) (fun v h => v = some (.int r) ∧ h = mkS x S')) (hB : 3 ≤ dd)  (S : ST)  (r : Int32) (S' : ST) (hm : bfX4_plain_24_77 x rec_X4_test rec_X4_plain rec_X4_comparison rec_X4_inBrackets rec_X4_sum rec_X4_term rec_X4_part  S  = some (r, S')) : Ev mX4_plain (dd + 1) 0 0 77 [none, none, none, none] [] (mkS x S) (fun v h => v = some (.int r) ∧ h = mkS x S') := by
    unfold bfX4_plain_24_77 at hm
    refine Ev.steps tokX4_plain 1 (P := True) (pc' := 78) (lv' := [none, none, none, none]) (st' := [.int 0]) (h' := mkS x S) rfl trivial ?_
    cases hm
    exact Ev.retz tokX4_plain rfl rfl (Or.inl rfl) ⟨rfl, rfl⟩
set_option maxHeartbeats 4000000 in
set_option maxRecDepth 20000 in
theorem bpX4_plain_24_47 (x : XT) {dd : Nat} (rec_X4_test : ST → Int32 → Int32 → Option (Int32 × ST)) (hrec_X4_test : ∀ (S : ST) (z0 : Int32) (z1 : Int32) (r : Int32) (S' : ST), rec_X4_test S z0 z1 = some (r, S') → Ct mX4_test dd 0 0 [.ref 24, .int z0, .int z1] (mkS x S) (fun v h => v = some (.int r) ∧ h = mkS x S')) (rec_X4_plain : ST → Int32 → Option (Int32 × ST)) (hrec_X4_plain : ∀ (S : ST) (z0 : Int32) (r : Int32) (S' : ST), rec_X4_plain S z0 = some (r, S') → Ct mX4_plain dd 0 0 [.ref 24, .int z0] (mkS x S) (fun v h => v = some (.int r) ∧ h = mkS x S')) (rec_X4_comparison : ST → Int32 → Option (Int32 × ST)) (hrec_X4_comparison : ∀ (S : ST) (z0 : Int32) (r : Int32) (S' : ST), rec_X4_comparison S z0 = some (r, S') → Ct mX4_comparison dd 0 0 [.ref 24, .int z0] (mkS x S) (fun v h => v = some (.int r) ∧ h = mkS x S')) (rec_X4_inBrackets : ST → Int32 → Int32 → Option (Int32 × ST)) (hrec_X4_inBrackets : ∀ (S : ST) (z0 : Int32) (z1 : Int32) (r : Int32) (S' : ST), rec_X4_inBrackets S z0 z1 = some (r, S') → Ct mX4_inBrackets dd 0 0 [.ref 24, .int z0, .int z1] (mkS x S) (fun v h => v = some (.int r) ∧ h = mkS x S')) (rec_X4_sum : ST → Int32 → Option (Int32 × ST)) (hrec_X4_sum : ∀ (S : ST) (z0 : Int32) (r : Int32) (S' : ST), rec_X4_sum S z0 = some (r, S') → Ct mX4_sum dd 0 0 [.ref 24, .int z0] (mkS x S) (fun v h => v = some (.int r) ∧ h = mkS x S')) (rec_X4_term : ST → Int32 → Option (Int32 × ST)) (hrec_X4_term : ∀ (S : ST) (z0 : Int32) (r : Int32) (S' : ST), rec_X4_term S z0 = some (r, S') → Ct mX4_term dd 0 0 [.ref 24, .int z0] (mkS x S) (fun v h => v = some (.int r) ∧ h = mkS x S')) (rec_X4_part : ST → Int32 → Option (Int32 × ST)) (hrec_X4_part : ∀ (S : ST) (z0 : Int32) (r : Int32) (S' : ST), rec_X4_part S z0 = some (r, S') → Ct mX4_part dd 0 0 [.ref 24, .int z0] (mkS x S) (fun v h => v = some (.int r) ∧ h = mkS x S')) (hB : 3 ≤ dd)  (S : ST) (v1 : Int32) (v2 : Int32) (r : Int32) (S' : ST) (hm : bfX4_plain_24_47 x rec_X4_test rec_X4_plain rec_X4_comparison rec_X4_inBrackets rec_X4_sum rec_X4_term rec_X4_part  S v1 v2 = some (r, S')) : Ev mX4_plain (dd + 1) 0 0 47 [some (.ref 24), some (.int v1), some (.int v2), none] [] (mkS x S) (fun v h => v = some (.int r) ∧ h = mkS x S') := by
    unfold bfX4_plain_24_47 at hm
    refine Ev.steps tokX4_plain 1 (P := True) (pc' := 48) (lv' := [some (.ref 24), some (.int v1), some (.int v2), none]) (st' := [.ref 24]) (h' := mkS x S) rfl trivial ?_
    cases h1 : gfX4_here_24 x S with
    | none => rw [h1] at hm; cases hm
    | some q2 =>
      obtain ⟨r3, S4⟩ := q2
      rw [h1] at hm
      dsimp only at hm
      refine ev_callV (N := mX4_here) (d' := 1) (bc := 0) (bs := 0) (bc' := 0) (bs' := 0) (as := []) (rest := []) (a := 24) (ci := 4) (dcd tokX4_plain rfl) okX4_here inX4_here seX4_here lk4_58 rfl (by omega) (Nat.le_of_ble_eq_true rfl) rfl ⟨by decide, rfl⟩ (gpX4_here_24 x S _ _ h1) (fun v h' hq hn => ?_)
      obtain ⟨rfl, rfl⟩ := hq
      refine Ev.steps tokX4_plain 2 (P := True) (pc' := if ¬ r3 = 40 then 69 else 56) (lv' := [some (.ref 24), some (.int v1), some (.int v2), none]) (st' := []) (h' := mkS x S4) rfl trivial ?_
      refine Ev.ite (fun c5 => ?_) (fun c5 => ?_)
      · rw [if_pos c5] at hm
        refine Ev.steps tokX4_plain 2 (P := True) (pc' := 71) (lv' := [some (.ref 24), some (.int v1), some (.int v2), none]) (st' := [.int v1, .ref 24]) (h' := mkS x S4) rfl trivial ?_
        cases h6 : rec_X4_comparison S4 v1 with
        | none => rw [h6] at hm; cases hm
        | some q7 =>
          obtain ⟨r8, S9⟩ := q7
          rw [h6] at hm
          dsimp only at hm
          refine ev_callV (N := mX4_comparison) (d' := dd) (bc := 0) (bs := 0) (bc' := 0) (bs' := 0) (as := [.int v1]) (rest := []) (a := 24) (ci := 4) (dcd tokX4_plain rfl) okX4_comparison inX4_comparison seX4_comparison lk4_146 rfl (by omega) (Nat.le_of_ble_eq_true rfl) rfl ⟨by decide, rfl⟩ (hrec_X4_comparison S4 v1 _ _ h6) (fun v h' hq hn => ?_)
          obtain ⟨rfl, rfl⟩ := hq
          refine Ev.steps tokX4_plain 1 (P := True) (pc' := if ¬ r8 = 0 then 79 else 77) (lv' := [some (.ref 24), some (.int v1), some (.int v2), none]) (st' := []) (h' := mkS x S9) rfl trivial ?_
          refine Ev.ite (fun c10 => ?_) (fun c10 => ?_)
          · rw [if_pos c10] at hm
            refine Ev.fgt (lv' := [some (.ref 24), none, some (.int v2), none]) ⟨rfl, rfl, trivial⟩ ?_
            exact bpX4_plain_24_79 x (dd := dd) rec_X4_test hrec_X4_test rec_X4_plain hrec_X4_plain rec_X4_comparison hrec_X4_comparison rec_X4_inBrackets hrec_X4_inBrackets rec_X4_sum hrec_X4_sum rec_X4_term hrec_X4_term rec_X4_part hrec_X4_part hB S9 v2 _ _ hm
          · rw [if_neg c10] at hm
            refine Ev.fgt (lv' := [none, none, none, none]) trivial ?_
            exact bpX4_plain_24_77 x (dd := dd) rec_X4_test hrec_X4_test rec_X4_plain hrec_X4_plain rec_X4_comparison hrec_X4_comparison rec_X4_inBrackets hrec_X4_inBrackets rec_X4_sum hrec_X4_sum rec_X4_term hrec_X4_term rec_X4_part hrec_X4_part hB S9 _ _ hm
      · rw [if_neg c5] at hm
        refine Ev.steps tokX4_plain 3 (P := True) (pc' := 60) (lv' := [some (.ref 24), some (.int v1), some (.int v2), none]) (st' := [.int 41, .int v1, .ref 24]) (h' := mkS x S4) rfl trivial ?_
        cases h11 : rec_X4_inBrackets S4 v1 41 with
        | none => rw [h11] at hm; cases hm
        | some q12 =>
          obtain ⟨r13, S14⟩ := q12
          rw [h11] at hm
          dsimp only at hm
          refine ev_callV (N := mX4_inBrackets) (d' := dd) (bc := 0) (bs := 0) (bc' := 0) (bs' := 0) (as := [.int v1, .int 41]) (rest := []) (a := 24) (ci := 4) (dcd tokX4_plain rfl) okX4_inBrackets inX4_inBrackets seX4_inBrackets lk4_143 rfl (by omega) (Nat.le_of_ble_eq_true rfl) rfl ⟨by decide, rfl⟩ (hrec_X4_inBrackets S4 v1 41 _ _ h11) (fun v h' hq hn => ?_)
          obtain ⟨rfl, rfl⟩ := hq
          refine Ev.steps tokX4_plain 1 (P := True) (pc' := if r13 = 0 then 77 else 66) (lv' := [some (.ref 24), some (.int v1), some (.int v2), none]) (st' := []) (h' := mkS x S14) rfl trivial ?_
          refine Ev.ite (fun c15 => ?_) (fun c15 => ?_)
          · rw [if_pos c15] at hm
            refine Ev.fgt (lv' := [none, none, none, none]) trivial ?_
            exact bpX4_plain_24_77 x (dd := dd) rec_X4_test hrec_X4_test rec_X4_plain hrec_X4_plain rec_X4_comparison hrec_X4_comparison rec_X4_inBrackets hrec_X4_inBrackets rec_X4_sum hrec_X4_sum rec_X4_term hrec_X4_term rec_X4_part hrec_X4_part hB S14 _ _ hm
          · rw [if_neg c15] at hm
            refine Ev.steps tokX4_plain 1 (P := True) (pc' := 79) (lv' := [some (.ref 24), some (.int v1), some (.int v2), none]) (st' := []) (h' := mkS x S14) rfl trivial ?_
            refine Ev.fgt (lv' := [some (.ref 24), none, some (.int v2), none]) ⟨rfl, rfl, trivial⟩ ?_
            exact bpX4_plain_24_79 x (dd := dd) rec_X4_test hrec_X4_test rec_X4_plain hrec_X4_plain rec_X4_comparison hrec_X4_comparison rec_X4_inBrackets hrec_X4_inBrackets rec_X4_sum hrec_X4_sum rec_X4_term hrec_X4_term rec_X4_part hrec_X4_part hB S14 v2 _ _ hm
set_option maxHeartbeats 4000000 in
set_option maxRecDepth 20000 in
theorem bpX4_plain_24_30 (x : XT) {dd : Nat} (rec_X4_test : ST → Int32 → Int32 → Option (Int32 × ST)) (hrec_X4_test : ∀ (S : ST) (z0 : Int32) (z1 : Int32) (r : Int32) (S' : ST), rec_X4_test S z0 z1 = some (r, S') → Ct mX4_test dd 0 0 [.ref 24, .int z0, .int z1] (mkS x S) (fun v h => v = some (.int r) ∧ h = mkS x S')) (rec_X4_plain : ST → Int32 → Option (Int32 × ST)) (hrec_X4_plain : ∀ (S : ST) (z0 : Int32) (r : Int32) (S' : ST), rec_X4_plain S z0 = some (r, S') → Ct mX4_plain dd 0 0 [.ref 24, .int z0] (mkS x S) (fun v h => v = some (.int r) ∧ h = mkS x S')) (rec_X4_comparison : ST → Int32 → Option (Int32 × ST)) (hrec_X4_comparison : ∀ (S : ST) (z0 : Int32) (r : Int32) (S' : ST), rec_X4_comparison S z0 = some (r, S') → Ct mX4_comparison dd 0 0 [.ref 24, .int z0] (mkS x S) (fun v h => v = some (.int r) ∧ h = mkS x S')) (rec_X4_inBrackets : ST → Int32 → Int32 → Option (Int32 × ST)) (hrec_X4_inBrackets : ∀ (S : ST) (z0 : Int32) (z1 : Int32) (r : Int32) (S' : ST), rec_X4_inBrackets S z0 z1 = some (r, S') → Ct mX4_inBrackets dd 0 0 [.ref 24, .int z0, .int z1] (mkS x S) (fun v h => v = some (.int r) ∧ h = mkS x S')) (rec_X4_sum : ST → Int32 → Option (Int32 × ST)) (hrec_X4_sum : ∀ (S : ST) (z0 : Int32) (r : Int32) (S' : ST), rec_X4_sum S z0 = some (r, S') → Ct mX4_sum dd 0 0 [.ref 24, .int z0] (mkS x S) (fun v h => v = some (.int r) ∧ h = mkS x S')) (rec_X4_term : ST → Int32 → Option (Int32 × ST)) (hrec_X4_term : ∀ (S : ST) (z0 : Int32) (r : Int32) (S' : ST), rec_X4_term S z0 = some (r, S') → Ct mX4_term dd 0 0 [.ref 24, .int z0] (mkS x S) (fun v h => v = some (.int r) ∧ h = mkS x S')) (rec_X4_part : ST → Int32 → Option (Int32 × ST)) (hrec_X4_part : ∀ (S : ST) (z0 : Int32) (r : Int32) (S' : ST), rec_X4_part S z0 = some (r, S') → Ct mX4_part dd 0 0 [.ref 24, .int z0] (mkS x S) (fun v h => v = some (.int r) ∧ h = mkS x S')) (hB : 3 ≤ dd) (k4 : ST → Int32 → Int32 → Int32 → Option (Int32 × ST)) (hk4 : ∀ (S : ST) (v1 : Int32) (v2 : Int32) (v3 : Int32) (r : Int32) (S' : ST), k4 S v1 v2 v3 = some (r, S') → Ev mX4_plain (dd + 1) 0 0 4 [some (.ref 24), some (.int v1), some (.int v2), some (.int v3)] [] (mkS x S) (fun v h => v = some (.int r) ∧ h = mkS x S')) (S : ST) (v1 : Int32) (v3 : Int32) (t0 : Int32) (r : Int32) (S' : ST) (hm : bfX4_plain_24_30 x rec_X4_test rec_X4_plain rec_X4_comparison rec_X4_inBrackets rec_X4_sum rec_X4_term rec_X4_part k4 S v1 v3 t0 = some (r, S')) : Ev mX4_plain (dd + 1) 0 0 30 [some (.ref 24), some (.int v1), none, some (.int v3)] [.int t0] (mkS x S) (fun v h => v = some (.int r) ∧ h = mkS x S') := by
    unfold bfX4_plain_24_30 at hm
    refine Ev.steps tokX4_plain 9 (P := True) (pc' := 4) (lv' := [some (.ref 24), some (.int v1), some (.int t0), some (.int (v3 + 1))]) (st' := []) (h' := mkS x ((u2 S.1 24 6 ((S.1 24 6) + 1)), S.2.1, S.2.2.1, S.2.2.2)) rfl trivial ?_
    exact hk4 ((u2 S.1 24 6 ((S.1 24 6) + 1)), S.2.1, S.2.2.1, S.2.2.2) v1 t0 (v3 + 1) _ _ hm
set_option maxHeartbeats 4000000 in
set_option maxRecDepth 20000 in
theorem bpX4_plain_24_4 (x : XT) {dd : Nat} (rec_X4_test : ST → Int32 → Int32 → Option (Int32 × ST)) (hrec_X4_test : ∀ (S : ST) (z0 : Int32) (z1 : Int32) (r : Int32) (S' : ST), rec_X4_test S z0 z1 = some (r, S') → Ct mX4_test dd 0 0 [.ref 24, .int z0, .int z1] (mkS x S) (fun v h => v = some (.int r) ∧ h = mkS x S')) (rec_X4_plain : ST → Int32 → Option (Int32 × ST)) (hrec_X4_plain : ∀ (S : ST) (z0 : Int32) (r : Int32) (S' : ST), rec_X4_plain S z0 = some (r, S') → Ct mX4_plain dd 0 0 [.ref 24, .int z0] (mkS x S) (fun v h => v = some (.int r) ∧ h = mkS x S')) (rec_X4_comparison : ST → Int32 → Option (Int32 × ST)) (hrec_X4_comparison : ∀ (S : ST) (z0 : Int32) (r : Int32) (S' : ST), rec_X4_comparison S z0 = some (r, S') → Ct mX4_comparison dd 0 0 [.ref 24, .int z0] (mkS x S) (fun v h => v = some (.int r) ∧ h = mkS x S')) (rec_X4_inBrackets : ST → Int32 → Int32 → Option (Int32 × ST)) (hrec_X4_inBrackets : ∀ (S : ST) (z0 : Int32) (z1 : Int32) (r : Int32) (S' : ST), rec_X4_inBrackets S z0 z1 = some (r, S') → Ct mX4_inBrackets dd 0 0 [.ref 24, .int z0, .int z1] (mkS x S) (fun v h => v = some (.int r) ∧ h = mkS x S')) (rec_X4_sum : ST → Int32 → Option (Int32 × ST)) (hrec_X4_sum : ∀ (S : ST) (z0 : Int32) (r : Int32) (S' : ST), rec_X4_sum S z0 = some (r, S') → Ct mX4_sum dd 0 0 [.ref 24, .int z0] (mkS x S) (fun v h => v = some (.int r) ∧ h = mkS x S')) (rec_X4_term : ST → Int32 → Option (Int32 × ST)) (hrec_X4_term : ∀ (S : ST) (z0 : Int32) (r : Int32) (S' : ST), rec_X4_term S z0 = some (r, S') → Ct mX4_term dd 0 0 [.ref 24, .int z0] (mkS x S) (fun v h => v = some (.int r) ∧ h = mkS x S')) (rec_X4_part : ST → Int32 → Option (Int32 × ST)) (hrec_X4_part : ∀ (S : ST) (z0 : Int32) (r : Int32) (S' : ST), rec_X4_part S z0 = some (r, S') → Ct mX4_part dd 0 0 [.ref 24, .int z0] (mkS x S) (fun v h => v = some (.int r) ∧ h = mkS x S')) (hB : 3 ≤ dd) (k4 : ST → Int32 → Int32 → Int32 → Option (Int32 × ST)) (hk4 : ∀ (S : ST) (v1 : Int32) (v2 : Int32) (v3 : Int32) (r : Int32) (S' : ST), k4 S v1 v2 v3 = some (r, S') → Ev mX4_plain (dd + 1) 0 0 4 [some (.ref 24), some (.int v1), some (.int v2), some (.int v3)] [] (mkS x S) (fun v h => v = some (.int r) ∧ h = mkS x S')) (S : ST) (v1 : Int32) (v2 : Int32) (v3 : Int32) (r : Int32) (S' : ST) (hm : bfX4_plain_24_4 x rec_X4_test rec_X4_plain rec_X4_comparison rec_X4_inBrackets rec_X4_sum rec_X4_term rec_X4_part k4 S v1 v2 v3 = some (r, S')) : Ev mX4_plain (dd + 1) 0 0 4 [some (.ref 24), some (.int v1), some (.int v2), some (.int v3)] [] (mkS x S) (fun v h => v = some (.int r) ∧ h = mkS x S') := by
    unfold bfX4_plain_24_4 at hm
    refine Ev.steps tokX4_plain 3 (P := True) (pc' := if 400 < v3 then 47 else 11) (lv' := [some (.ref 24), some (.int v1), some (.int v2), some (.int v3)]) (st' := []) (h' := mkS x S) rfl trivial ?_
    refine Ev.ite (fun c1 => ?_) (fun c1 => ?_)
    · rw [if_pos c1] at hm
      refine Ev.fgt (lv' := [some (.ref 24), some (.int v1), some (.int v2), none]) ⟨rfl, rfl, rfl, trivial⟩ ?_
      exact bpX4_plain_24_47 x (dd := dd) rec_X4_test hrec_X4_test rec_X4_plain hrec_X4_plain rec_X4_comparison hrec_X4_comparison rec_X4_inBrackets hrec_X4_inBrackets rec_X4_sum hrec_X4_sum rec_X4_term hrec_X4_term rec_X4_part hrec_X4_part hB S v1 v2 _ _ hm
    · rw [if_neg c1] at hm
      refine Ev.steps tokX4_plain 1 (P := True) (pc' := 12) (lv' := [some (.ref 24), some (.int v1), some (.int v2), some (.int v3)]) (st' := [.ref 24]) (h' := mkS x S) rfl trivial ?_
      cases h2 : gfX4_here_24 x S with
      | none => rw [h2] at hm; cases hm
      | some q3 =>
        obtain ⟨r4, S5⟩ := q3
        rw [h2] at hm
        dsimp only at hm
        refine ev_callV (N := mX4_here) (d' := 1) (bc := 0) (bs := 0) (bc' := 0) (bs' := 0) (as := []) (rest := []) (a := 24) (ci := 4) (dcd tokX4_plain rfl) okX4_here inX4_here seX4_here lk4_58 rfl (by omega) (Nat.le_of_ble_eq_true rfl) rfl ⟨by decide, rfl⟩ (gpX4_here_24 x S _ _ h2) (fun v h' hq hn => ?_)
        obtain ⟨rfl, rfl⟩ := hq
        refine Ev.steps tokX4_plain 2 (P := True) (pc' := if ¬ r4 = 273 then 47 else 21) (lv' := [some (.ref 24), some (.int v1), some (.int v2), some (.int v3)]) (st' := []) (h' := mkS x S5) rfl trivial ?_
        refine Ev.ite (fun c6 => ?_) (fun c6 => ?_)
        · rw [if_pos c6] at hm
          refine Ev.fgt (lv' := [some (.ref 24), some (.int v1), some (.int v2), none]) ⟨rfl, rfl, rfl, trivial⟩ ?_
          exact bpX4_plain_24_47 x (dd := dd) rec_X4_test hrec_X4_test rec_X4_plain hrec_X4_plain rec_X4_comparison hrec_X4_comparison rec_X4_inBrackets hrec_X4_inBrackets rec_X4_sum hrec_X4_sum rec_X4_term hrec_X4_term rec_X4_part hrec_X4_part hB S5 v1 v2 _ _ hm
        · rw [if_neg c6] at hm
          refine Ev.steps tokX4_plain 2 (P := True) (pc' := if ¬ v2 = 0 then 29 else 25) (lv' := [some (.ref 24), some (.int v1), some (.int v2), some (.int v3)]) (st' := []) (h' := mkS x S5) rfl trivial ?_
          refine Ev.ite (fun c7 => ?_) (fun c7 => ?_)
          · rw [if_pos c7] at hm
            refine Ev.steps tokX4_plain 1 (P := True) (pc' := 30) (lv' := [some (.ref 24), some (.int v1), some (.int v2), some (.int v3)]) (st' := [.int 0]) (h' := mkS x S5) rfl trivial ?_
            refine Ev.fgt (lv' := [some (.ref 24), some (.int v1), none, some (.int v3)]) ⟨rfl, rfl, rfl, trivial⟩ ?_
            exact bpX4_plain_24_30 x (dd := dd) rec_X4_test hrec_X4_test rec_X4_plain hrec_X4_plain rec_X4_comparison hrec_X4_comparison rec_X4_inBrackets hrec_X4_inBrackets rec_X4_sum hrec_X4_sum rec_X4_term hrec_X4_term rec_X4_part hrec_X4_part hB k4 hk4 S5 v1 v3 0 _ _ hm
          · rw [if_neg c7] at hm
            refine Ev.steps tokX4_plain 2 (P := True) (pc' := 30) (lv' := [some (.ref 24), some (.int v1), some (.int v2), some (.int v3)]) (st' := [.int 1]) (h' := mkS x S5) rfl trivial ?_
            refine Ev.fgt (lv' := [some (.ref 24), some (.int v1), none, some (.int v3)]) ⟨rfl, rfl, rfl, trivial⟩ ?_
            exact bpX4_plain_24_30 x (dd := dd) rec_X4_test hrec_X4_test rec_X4_plain hrec_X4_plain rec_X4_comparison hrec_X4_comparison rec_X4_inBrackets hrec_X4_inBrackets rec_X4_sum hrec_X4_sum rec_X4_term hrec_X4_term rec_X4_part hrec_X4_part hB k4 hk4 S5 v1 v3 1 _ _ hm
theorem lpX4_plain_24_4 (x : XT) {dd : Nat} (rec_X4_test : ST → Int32 → Int32 → Option (Int32 × ST)) (hrec_X4_test : ∀ (S : ST) (z0 : Int32) (z1 : Int32) (r : Int32) (S' : ST), rec_X4_test S z0 z1 = some (r, S') → Ct mX4_test dd 0 0 [.ref 24, .int z0, .int z1] (mkS x S) (fun v h => v = some (.int r) ∧ h = mkS x S')) (rec_X4_plain : ST → Int32 → Option (Int32 × ST)) (hrec_X4_plain : ∀ (S : ST) (z0 : Int32) (r : Int32) (S' : ST), rec_X4_plain S z0 = some (r, S') → Ct mX4_plain dd 0 0 [.ref 24, .int z0] (mkS x S) (fun v h => v = some (.int r) ∧ h = mkS x S')) (rec_X4_comparison : ST → Int32 → Option (Int32 × ST)) (hrec_X4_comparison : ∀ (S : ST) (z0 : Int32) (r : Int32) (S' : ST), rec_X4_comparison S z0 = some (r, S') → Ct mX4_comparison dd 0 0 [.ref 24, .int z0] (mkS x S) (fun v h => v = some (.int r) ∧ h = mkS x S')) (rec_X4_inBrackets : ST → Int32 → Int32 → Option (Int32 × ST)) (hrec_X4_inBrackets : ∀ (S : ST) (z0 : Int32) (z1 : Int32) (r : Int32) (S' : ST), rec_X4_inBrackets S z0 z1 = some (r, S') → Ct mX4_inBrackets dd 0 0 [.ref 24, .int z0, .int z1] (mkS x S) (fun v h => v = some (.int r) ∧ h = mkS x S')) (rec_X4_sum : ST → Int32 → Option (Int32 × ST)) (hrec_X4_sum : ∀ (S : ST) (z0 : Int32) (r : Int32) (S' : ST), rec_X4_sum S z0 = some (r, S') → Ct mX4_sum dd 0 0 [.ref 24, .int z0] (mkS x S) (fun v h => v = some (.int r) ∧ h = mkS x S')) (rec_X4_term : ST → Int32 → Option (Int32 × ST)) (hrec_X4_term : ∀ (S : ST) (z0 : Int32) (r : Int32) (S' : ST), rec_X4_term S z0 = some (r, S') → Ct mX4_term dd 0 0 [.ref 24, .int z0] (mkS x S) (fun v h => v = some (.int r) ∧ h = mkS x S')) (rec_X4_part : ST → Int32 → Option (Int32 × ST)) (hrec_X4_part : ∀ (S : ST) (z0 : Int32) (r : Int32) (S' : ST), rec_X4_part S z0 = some (r, S') → Ct mX4_part dd 0 0 [.ref 24, .int z0] (mkS x S) (fun v h => v = some (.int r) ∧ h = mkS x S')) (hB : 3 ≤ dd)  : ∀ (n : Nat) (S : ST) (v1 : Int32) (v2 : Int32) (v3 : Int32) (r : Int32) (S' : ST), lfX4_plain_24_4 x rec_X4_test rec_X4_plain rec_X4_comparison rec_X4_inBrackets rec_X4_sum rec_X4_term rec_X4_part  n S v1 v2 v3 = some (r, S') → Ev mX4_plain (dd + 1) 0 0 4 [some (.ref 24), some (.int v1), some (.int v2), some (.int v3)] [] (mkS x S) (fun v h => v = some (.int r) ∧ h = mkS x S')
  | 0, _, _, _, _, _, _, hm => by cases hm
  | n + 1, S, v1, v2, v3, r, S', hm => bpX4_plain_24_4 x (dd := dd) rec_X4_test hrec_X4_test rec_X4_plain hrec_X4_plain rec_X4_comparison hrec_X4_comparison rec_X4_inBrackets hrec_X4_inBrackets rec_X4_sum hrec_X4_sum rec_X4_term hrec_X4_term rec_X4_part hrec_X4_part hB (lfX4_plain_24_4 x rec_X4_test rec_X4_plain rec_X4_comparison rec_X4_inBrackets rec_X4_sum rec_X4_term rec_X4_part  n) (lpX4_plain_24_4 x (dd := dd) rec_X4_test hrec_X4_test rec_X4_plain hrec_X4_plain rec_X4_comparison hrec_X4_comparison rec_X4_inBrackets hrec_X4_inBrackets rec_X4_sum hrec_X4_sum rec_X4_term hrec_X4_term rec_X4_part hrec_X4_part hB  n) S v1 v2 v3 r S' hm
set_option maxHeartbeats 4000000 in
set_option maxRecDepth 20000 in
theorem bpX4_plain_24_0 (x : XT) {dd : Nat} (rec_X4_test : ST → Int32 → Int32 → Option (Int32 × ST)) (hrec_X4_test : ∀ (S : ST) (z0 : Int32) (z1 : Int32) (r : Int32) (S' : ST), rec_X4_test S z0 z1 = some (r, S') → Ct mX4_test dd 0 0 [.ref 24, .int z0, .int z1] (mkS x S) (fun v h => v = some (.int r) ∧ h = mkS x S')) (rec_X4_plain : ST → Int32 → Option (Int32 × ST)) (hrec_X4_plain : ∀ (S : ST) (z0 : Int32) (r : Int32) (S' : ST), rec_X4_plain S z0 = some (r, S') → Ct mX4_plain dd 0 0 [.ref 24, .int z0] (mkS x S) (fun v h => v = some (.int r) ∧ h = mkS x S')) (rec_X4_comparison : ST → Int32 → Option (Int32 × ST)) (hrec_X4_comparison : ∀ (S : ST) (z0 : Int32) (r : Int32) (S' : ST), rec_X4_comparison S z0 = some (r, S') → Ct mX4_comparison dd 0 0 [.ref 24, .int z0] (mkS x S) (fun v h => v = some (.int r) ∧ h = mkS x S')) (rec_X4_inBrackets : ST → Int32 → Int32 → Option (Int32 × ST)) (hrec_X4_inBrackets : ∀ (S : ST) (z0 : Int32) (z1 : Int32) (r : Int32) (S' : ST), rec_X4_inBrackets S z0 z1 = some (r, S') → Ct mX4_inBrackets dd 0 0 [.ref 24, .int z0, .int z1] (mkS x S) (fun v h => v = some (.int r) ∧ h = mkS x S')) (rec_X4_sum : ST → Int32 → Option (Int32 × ST)) (hrec_X4_sum : ∀ (S : ST) (z0 : Int32) (r : Int32) (S' : ST), rec_X4_sum S z0 = some (r, S') → Ct mX4_sum dd 0 0 [.ref 24, .int z0] (mkS x S) (fun v h => v = some (.int r) ∧ h = mkS x S')) (rec_X4_term : ST → Int32 → Option (Int32 × ST)) (hrec_X4_term : ∀ (S : ST) (z0 : Int32) (r : Int32) (S' : ST), rec_X4_term S z0 = some (r, S') → Ct mX4_term dd 0 0 [.ref 24, .int z0] (mkS x S) (fun v h => v = some (.int r) ∧ h = mkS x S')) (rec_X4_part : ST → Int32 → Option (Int32 × ST)) (hrec_X4_part : ∀ (S : ST) (z0 : Int32) (r : Int32) (S' : ST), rec_X4_part S z0 = some (r, S') → Ct mX4_part dd 0 0 [.ref 24, .int z0] (mkS x S) (fun v h => v = some (.int r) ∧ h = mkS x S')) (hB : 3 ≤ dd)  (S : ST) (p1 : Int32) (r : Int32) (S' : ST) (hm : bfX4_plain_24_0 x rec_X4_test rec_X4_plain rec_X4_comparison rec_X4_inBrackets rec_X4_sum rec_X4_term rec_X4_part  S p1 = some (r, S')) : Ev mX4_plain (dd + 1) 0 0 0 [some (.ref 24), some (.int p1), none, none] [] (mkS x S) (fun v h => v = some (.int r) ∧ h = mkS x S') := by
    unfold bfX4_plain_24_0 at hm
    refine Ev.steps tokX4_plain 4 (P := True) (pc' := 4) (lv' := [some (.ref 24), some (.int p1), some (.int 0), some (.int 0)]) (st' := []) (h' := mkS x S) rfl trivial ?_
    exact lpX4_plain_24_4 x (dd := dd) rec_X4_test hrec_X4_test rec_X4_plain hrec_X4_plain rec_X4_comparison hrec_X4_comparison rec_X4_inBrackets hrec_X4_inBrackets rec_X4_sum hrec_X4_sum rec_X4_term hrec_X4_term rec_X4_part hrec_X4_part hB  20000 S p1 0 0 _ _ hm
theorem grpX4_plain_24 (x : XT) {dd : Nat} (rec_X4_test : ST → Int32 → Int32 → Option (Int32 × ST)) (hrec_X4_test : ∀ (S : ST) (z0 : Int32) (z1 : Int32) (r : Int32) (S' : ST), rec_X4_test S z0 z1 = some (r, S') → Ct mX4_test dd 0 0 [.ref 24, .int z0, .int z1] (mkS x S) (fun v h => v = some (.int r) ∧ h = mkS x S')) (rec_X4_plain : ST → Int32 → Option (Int32 × ST)) (hrec_X4_plain : ∀ (S : ST) (z0 : Int32) (r : Int32) (S' : ST), rec_X4_plain S z0 = some (r, S') → Ct mX4_plain dd 0 0 [.ref 24, .int z0] (mkS x S) (fun v h => v = some (.int r) ∧ h = mkS x S')) (rec_X4_comparison : ST → Int32 → Option (Int32 × ST)) (hrec_X4_comparison : ∀ (S : ST) (z0 : Int32) (r : Int32) (S' : ST), rec_X4_comparison S z0 = some (r, S') → Ct mX4_comparison dd 0 0 [.ref 24, .int z0] (mkS x S) (fun v h => v = some (.int r) ∧ h = mkS x S')) (rec_X4_inBrackets : ST → Int32 → Int32 → Option (Int32 × ST)) (hrec_X4_inBrackets : ∀ (S : ST) (z0 : Int32) (z1 : Int32) (r : Int32) (S' : ST), rec_X4_inBrackets S z0 z1 = some (r, S') → Ct mX4_inBrackets dd 0 0 [.ref 24, .int z0, .int z1] (mkS x S) (fun v h => v = some (.int r) ∧ h = mkS x S')) (rec_X4_sum : ST → Int32 → Option (Int32 × ST)) (hrec_X4_sum : ∀ (S : ST) (z0 : Int32) (r : Int32) (S' : ST), rec_X4_sum S z0 = some (r, S') → Ct mX4_sum dd 0 0 [.ref 24, .int z0] (mkS x S) (fun v h => v = some (.int r) ∧ h = mkS x S')) (rec_X4_term : ST → Int32 → Option (Int32 × ST)) (hrec_X4_term : ∀ (S : ST) (z0 : Int32) (r : Int32) (S' : ST), rec_X4_term S z0 = some (r, S') → Ct mX4_term dd 0 0 [.ref 24, .int z0] (mkS x S) (fun v h => v = some (.int r) ∧ h = mkS x S')) (rec_X4_part : ST → Int32 → Option (Int32 × ST)) (hrec_X4_part : ∀ (S : ST) (z0 : Int32) (r : Int32) (S' : ST), rec_X4_part S z0 = some (r, S') → Ct mX4_part dd 0 0 [.ref 24, .int z0] (mkS x S) (fun v h => v = some (.int r) ∧ h = mkS x S')) (hB : 3 ≤ dd) (S : ST) (p1 : Int32) (r : Int32) (S' : ST) (hm : grfX4_plain_24 x rec_X4_test rec_X4_plain rec_X4_comparison rec_X4_inBrackets rec_X4_sum rec_X4_term rec_X4_part S p1 = some (r, S')) : Ct mX4_plain (dd + 1) 0 0 [.ref 24, .int p1] (mkS x S) (fun v h => v = some (.int r) ∧ h = mkS x S') :=
  Ct.of (lv := [some (.ref 24), some (.int p1), none, none]) rfl rfl rfl (show (_ : Nat) ≤ _ from Nat.le_of_ble_eq_true rfl) (fun G => rfl) (bpX4_plain_24_0 x (dd := dd) rec_X4_test hrec_X4_test rec_X4_plain hrec_X4_plain rec_X4_comparison hrec_X4_comparison rec_X4_inBrackets hrec_X4_inBrackets rec_X4_sum hrec_X4_sum rec_X4_term hrec_X4_term rec_X4_part hrec_X4_part hB S p1 r S' hm)
set_option maxHeartbeats 4000000 in
set_option maxRecDepth 20000 in
theorem bpX4_comparison_24_38 (x : XT) {dd : Nat} (rec_X4_test : ST → Int32 → Int32 → Option (Int32 × ST)) (hrec_X4_test : ∀ (S : ST) (z0 : Int32) (z1 : Int32) (r : Int32) (S' : ST), rec_X4_test S z0 z1 = some (r, S') → Ct mX4_test dd 0 0 [.ref 24, .int z0, .int z1] (mkS x S) (fun v h => v = some (.int r) ∧ h = mkS x S')) (rec_X4_plain : ST → Int32 → Option (Int32 × ST)) (hrec_X4_plain : ∀ (S : ST) (z0 : Int32) (r : Int32) (S' : ST), rec_X4_plain S z0 = some (r, S') → Ct mX4_plain dd 0 0 [.ref 24, .int z0] (mkS x S) (fun v h => v = some (.int r) ∧ h = mkS x S')) (rec_X4_comparison : ST → Int32 → Option (Int32 × ST)) (hrec_X4_comparison : ∀ (S : ST) (z0 : Int32) (r : Int32) (S' : ST), rec_X4_comparison S z0 = some (r, S') → Ct mX4_comparison dd 0 0 [.ref 24, .int z0] (mkS x S) (fun v h => v = some (.int r) ∧ h = mkS x S')) (rec_X4_inBrackets : ST → Int32 → Int32 → Option (Int32 × ST)) (hrec_X4_inBrackets : ∀ (S : ST) (z0 : Int32) (z1 : Int32) (r : Int32) (S' : ST), rec_X4_inBrackets S z0 z1 = some (r, S') → Ct mX4_inBrackets dd 0 0 [.ref 24, .int z0, .int z1] (mkS x S) (fun v h => v = some (.int r) ∧ h = mkS x S')) (rec_X4_sum : ST → Int32 → Option (Int32 × ST)) (hrec_X4_sum : ∀ (S : ST) (z0 : Int32) (r : Int32) (S' : ST), rec_X4_sum S z0 = some (r, S') → Ct mX4_sum dd 0 0 [.ref 24, .int z0] (mkS x S) (fun v h => v = some (.int r) ∧ h = mkS x S')) (rec_X4_term : ST → Int32 → Option (Int32 × ST)) (hrec_X4_term : ∀ (S : ST) (z0 : Int32) (r : Int32) (S' : ST), rec_X4_term S z0 = some (r, S') → Ct mX4_term dd 0 0 [.ref 24, .int z0] (mkS x S) (fun v h => v = some (.int r) ∧ h = mkS x S')) (rec_X4_part : ST → Int32 → Option (Int32 × ST)) (hrec_X4_part : ∀ (S : ST) (z0 : Int32) (r : Int32) (S' : ST), rec_X4_part S z0 = some (r, S') → Ct mX4_part dd 0 0 [.ref 24, .int z0] (mkS x S) (fun v h => v = some (.int r) ∧ h = mkS x S')) (hB : 3 ≤ dd)  (S : ST) (v1 : Int32) (v2 : Int32) (r : Int32) (S' : ST) (hm : bfX4_comparison_24_38 x rec_X4_test rec_X4_plain rec_X4_comparison rec_X4_inBrackets rec_X4_sum rec_X4_term rec_X4_part  S v1 v2 = some (r, S')) : Ev mX4_comparison (dd + 1) 0 0 38 [some (.ref 24), some (.int v1), some (.int v2)] [] (mkS x S) (fun v h => v = some (.int r) ∧ h = mkS x S') := by
    unfold bfX4_comparison_24_38 at hm
    refine Ev.steps tokX4_comparison 8 (P := True) (pc' := 50) (lv' := [some (.ref 24), some (.int v1), some (.int v2)]) (st' := [.int v1, .ref 24]) (h' := mkS x ((u2 S.1 24 6 ((S.1 24 6) + 1)), S.2.1, S.2.2.1, S.2.2.2)) rfl trivial ?_
    cases h1 : rec_X4_sum ((u2 S.1 24 6 ((S.1 24 6) + 1)), S.2.1, S.2.2.1, S.2.2.2) v1 with
    | none => rw [h1] at hm; cases hm
    | some q2 =>
      obtain ⟨r3, S4⟩ := q2
      rw [h1] at hm
      dsimp only at hm
      refine ev_callV (N := mX4_sum) (d' := dd) (bc := 0) (bs := 0) (bc' := 0) (bs' := 0) (as := [.int v1]) (rest := []) (a := 24) (ci := 4) (dcd tokX4_comparison rfl) okX4_sum inX4_sum seX4_sum lk4_120 rfl (by omega) (Nat.le_of_ble_eq_true rfl) rfl ⟨by decide, rfl⟩ (hrec_X4_sum ((u2 S.1 24 6 ((S.1 24 6) + 1)), S.2.1, S.2.2.1, S.2.2.2) v1 _ _ h1) (fun v h' hq hn => ?_)
      obtain ⟨rfl, rfl⟩ := hq
      refine Ev.steps tokX4_comparison 1 (P := True) (pc' := if ¬ r3 = 0 then 58 else 56) (lv' := [some (.ref 24), some (.int v1), some (.int v2)]) (st' := []) (h' := mkS x S4) rfl trivial ?_
      refine Ev.ite (fun c5 => ?_) (fun c5 => ?_)
      · rw [if_pos c5] at hm
        refine Ev.steps tokX4_comparison 4 (P := True) (pc' := 64) (lv' := [some (.ref 24), some (.int v1), some (.int v2)]) (st' := [.int 0, .int v2, .ref 25]) (h' := mkS x S4) rfl trivial ?_
        cases h6 : gfX9_add_25 x S4 v2 0 with
        | none => rw [h6] at hm; cases hm
        | some q7 =>
          obtain ⟨r8, S9⟩ := q7
          rw [h6] at hm
          dsimp only at hm
          refine ev_callV (N := mX9_add) (d' := 1) (bc := 0) (bs := 0) (bc' := 0) (bs' := 0) (as := [.int v2, .int 0]) (rest := []) (a := 25) (ci := 9) (dcd tokX4_comparison rfl) okX9_add inX9_add seX9_add lk4_140 rfl (by omega) (Nat.le_of_ble_eq_true rfl) rfl ⟨by decide, rfl⟩ (gpX9_add_25 x S4 v2 0 _ _ h6) (fun v h' hq hn => ?_)
          obtain ⟨rfl, rfl⟩ := hq
          refine Ev.steps tokX4_comparison 2 (P := True) (pc' := 69) (lv' := [some (.ref 24), some (.int v1), some (.int v2)]) (st' := [.int 1]) (h' := mkS x S9) rfl trivial ?_
          cases hm
          exact Ev.retz tokX4_comparison rfl rfl (Or.inr rfl) ⟨rfl, rfl⟩
      · rw [if_neg c5] at hm
        refine Ev.steps tokX4_comparison 1 (P := True) (pc' := 57) (lv' := [some (.ref 24), some (.int v1), some (.int v2)]) (st' := [.int 0]) (h' := mkS x S4) rfl trivial ?_
        cases hm
        exact Ev.retz tokX4_comparison rfl rfl (Or.inl rfl) ⟨rfl, rfl⟩
set_option maxHeartbeats 4000000 in
set_option maxRecDepth 20000 in
theorem bpX4_comparison_24_0 (x : XT) {dd : Nat} (rec_X4_test : ST → Int32 → Int32 → Option (Int32 × ST)) (hrec_X4_test : ∀ (S : ST) (z0 : Int32) (z1 : Int32) (r : Int32) (S' : ST), rec_X4_test S z0 z1 = some (r, S') → Ct mX4_test dd 0 0 [.ref 24, .int z0, .int z1] (mkS x S) (fun v h => v = some (.int r) ∧ h = mkS x S')) (rec_X4_plain : ST → Int32 → Option (Int32 × ST)) (hrec_X4_plain : ∀ (S : ST) (z0 : Int32) (r : Int32) (S' : ST), rec_X4_plain S z0 = some (r, S') → Ct mX4_plain dd 0 0 [.ref 24, .int z0] (mkS x S) (fun v h => v = some (.int r) ∧ h = mkS x S')) (rec_X4_comparison : ST → Int32 → Option (Int32 × ST)) (hrec_X4_comparison : ∀ (S : ST) (z0 : Int32) (r : Int32) (S' : ST), rec_X4_comparison S z0 = some (r, S') → Ct mX4_comparison dd 0 0 [.ref 24, .int z0] (mkS x S) (fun v h => v = some (.int r) ∧ h = mkS x S')) (rec_X4_inBrackets : ST → Int32 → Int32 → Option (Int32 × ST)) (hrec_X4_inBrackets : ∀ (S : ST) (z0 : Int32) (z1 : Int32) (r : Int32) (S' : ST), rec_X4_inBrackets S z0 z1 = some (r, S') → Ct mX4_inBrackets dd 0 0 [.ref 24, .int z0, .int z1] (mkS x S) (fun v h => v = some (.int r) ∧ h = mkS x S')) (rec_X4_sum : ST → Int32 → Option (Int32 × ST)) (hrec_X4_sum : ∀ (S : ST) (z0 : Int32) (r : Int32) (S' : ST), rec_X4_sum S z0 = some (r, S') → Ct mX4_sum dd 0 0 [.ref 24, .int z0] (mkS x S) (fun v h => v = some (.int r) ∧ h = mkS x S')) (rec_X4_term : ST → Int32 → Option (Int32 × ST)) (hrec_X4_term : ∀ (S : ST) (z0 : Int32) (r : Int32) (S' : ST), rec_X4_term S z0 = some (r, S') → Ct mX4_term dd 0 0 [.ref 24, .int z0] (mkS x S) (fun v h => v = some (.int r) ∧ h = mkS x S')) (rec_X4_part : ST → Int32 → Option (Int32 × ST)) (hrec_X4_part : ∀ (S : ST) (z0 : Int32) (r : Int32) (S' : ST), rec_X4_part S z0 = some (r, S') → Ct mX4_part dd 0 0 [.ref 24, .int z0] (mkS x S) (fun v h => v = some (.int r) ∧ h = mkS x S')) (hB : 3 ≤ dd)  (S : ST) (p1 : Int32) (r : Int32) (S' : ST) (hm : bfX4_comparison_24_0 x rec_X4_test rec_X4_plain rec_X4_comparison rec_X4_inBrackets rec_X4_sum rec_X4_term rec_X4_part  S p1 = some (r, S')) : Ev mX4_comparison (dd + 1) 0 0 0 [some (.ref 24), some (.int p1), none] [] (mkS x S) (fun v h => v = some (.int r) ∧ h = mkS x S') := by
    unfold bfX4_comparison_24_0 at hm
    refine Ev.steps tokX4_comparison 2 (P := True) (pc' := 2) (lv' := [some (.ref 24), some (.int p1), none]) (st' := [.int p1, .ref 24]) (h' := mkS x S) rfl trivial ?_
    cases h1 : rec_X4_sum S p1 with
    | none => rw [h1] at hm; cases hm
    | some q2 =>
      obtain ⟨r3, S4⟩ := q2
      rw [h1] at hm
      dsimp only at hm
      refine ev_callV (N := mX4_sum) (d' := dd) (bc := 0) (bs := 0) (bc' := 0) (bs' := 0) (as := [.int p1]) (rest := []) (a := 24) (ci := 4) (dcd tokX4_comparison rfl) okX4_sum inX4_sum seX4_sum lk4_120 rfl (by omega) (Nat.le_of_ble_eq_true rfl) rfl ⟨by decide, rfl⟩ (hrec_X4_sum S p1 _ _ h1) (fun v h' hq hn => ?_)
      obtain ⟨rfl, rfl⟩ := hq
      refine Ev.steps tokX4_comparison 1 (P := True) (pc' := if ¬ r3 = 0 then 10 else 8) (lv' := [some (.ref 24), some (.int p1), none]) (st' := []) (h' := mkS x S4) rfl trivial ?_
      refine Ev.ite (fun c5 => ?_) (fun c5 => ?_)
      · rw [if_pos c5] at hm
        refine Ev.steps tokX4_comparison 1 (P := True) (pc' := 11) (lv' := [some (.ref 24), some (.int p1), none]) (st' := [.ref 24]) (h' := mkS x S4) rfl trivial ?_
        cases h6 : gfX4_here_24 x S4 with
        | none => rw [h6] at hm; cases hm
        | some q7 =>
          obtain ⟨r8, S9⟩ := q7
          rw [h6] at hm
          dsimp only at hm
          refine ev_callV (N := mX4_here) (d' := 1) (bc := 0) (bs := 0) (bc' := 0) (bs' := 0) (as := []) (rest := []) (a := 24) (ci := 4) (dcd tokX4_comparison rfl) okX4_here inX4_here seX4_here lk4_58 rfl (by omega) (Nat.le_of_ble_eq_true rfl) rfl ⟨by decide, rfl⟩ (gpX4_here_24 x S4 _ _ h6) (fun v h' hq hn => ?_)
          obtain ⟨rfl, rfl⟩ := hq
          refine Ev.steps tokX4_comparison 4 (P := True) (pc' := if r8 = 60 then 38 else 21) (lv' := [some (.ref 24), some (.int p1), some (.int r8)]) (st' := []) (h' := mkS x S9) rfl trivial ?_
          refine Ev.ite (fun c10 => ?_) (fun c10 => ?_)
          · rw [if_pos c10] at hm
            exact bpX4_comparison_24_38 x (dd := dd) rec_X4_test hrec_X4_test rec_X4_plain hrec_X4_plain rec_X4_comparison hrec_X4_comparison rec_X4_inBrackets hrec_X4_inBrackets rec_X4_sum hrec_X4_sum rec_X4_term hrec_X4_term rec_X4_part hrec_X4_part hB S9 p1 r8 _ _ hm
          · rw [if_neg c10] at hm
            refine Ev.steps tokX4_comparison 3 (P := True) (pc' := if r8 = 62 then 38 else 27) (lv' := [some (.ref 24), some (.int p1), some (.int r8)]) (st' := []) (h' := mkS x S9) rfl trivial ?_
            refine Ev.ite (fun c11 => ?_) (fun c11 => ?_)
            · rw [if_pos c11] at hm
              exact bpX4_comparison_24_38 x (dd := dd) rec_X4_test hrec_X4_test rec_X4_plain hrec_X4_plain rec_X4_comparison hrec_X4_comparison rec_X4_inBrackets hrec_X4_inBrackets rec_X4_sum hrec_X4_sum rec_X4_term hrec_X4_term rec_X4_part hrec_X4_part hB S9 p1 r8 _ _ hm
            · rw [if_neg c11] at hm
              refine Ev.steps tokX4_comparison 3 (P := True) (pc' := if r8 = 61 then 38 else 33) (lv' := [some (.ref 24), some (.int p1), some (.int r8)]) (st' := []) (h' := mkS x S9) rfl trivial ?_
              refine Ev.ite (fun c12 => ?_) (fun c12 => ?_)
              · rw [if_pos c12] at hm
                exact bpX4_comparison_24_38 x (dd := dd) rec_X4_test hrec_X4_test rec_X4_plain hrec_X4_plain rec_X4_comparison hrec_X4_comparison rec_X4_inBrackets hrec_X4_inBrackets rec_X4_sum hrec_X4_sum rec_X4_term hrec_X4_term rec_X4_part hrec_X4_part hB S9 p1 r8 _ _ hm
              · rw [if_neg c12] at hm
                refine Ev.steps tokX4_comparison 1 (P := True) (pc' := 34) (lv' := [some (.ref 24), some (.int p1), some (.int r8)]) (st' := [.ref 24]) (h' := mkS x S9) rfl trivial ?_
                cases h13 : gfX4_faulty_24 x S9 with
                | none => rw [h13] at hm; cases hm
                | some q14 =>
                  obtain ⟨r15, S16⟩ := q14
                  rw [h13] at hm
                  dsimp only at hm
                  refine ev_callV (N := mX4_faulty) (d' := 1) (bc := 0) (bs := 0) (bc' := 0) (bs' := 0) (as := []) (rest := []) (a := 24) (ci := 4) (dcd tokX4_comparison rfl) okX4_faulty inX4_faulty seX4_faulty lk4_62 rfl (by omega) (Nat.le_of_ble_eq_true rfl) rfl ⟨by decide, rfl⟩ (gpX4_faulty_24 x S9 _ _ h13) (fun v h' hq hn => ?_)
                  obtain ⟨rfl, rfl⟩ := hq
                  obtain ⟨o17, hm⟩ := oblk hm
                  cases hm
                  exact Ev.retz tokX4_comparison rfl rfl (bbz_ok o17) ⟨rfl, rfl⟩
      · rw [if_neg c5] at hm
        refine Ev.steps tokX4_comparison 1 (P := True) (pc' := 9) (lv' := [some (.ref 24), some (.int p1), none]) (st' := [.int 0]) (h' := mkS x S4) rfl trivial ?_
        cases hm
        exact Ev.retz tokX4_comparison rfl rfl (Or.inl rfl) ⟨rfl, rfl⟩
theorem grpX4_comparison_24 (x : XT) {dd : Nat} (rec_X4_test : ST → Int32 → Int32 → Option (Int32 × ST)) (hrec_X4_test : ∀ (S : ST) (z0 : Int32) (z1 : Int32) (r : Int32) (S' : ST), rec_X4_test S z0 z1 = some (r, S') → Ct mX4_test dd 0 0 [.ref 24, .int z0, .int z1] (mkS x S) (fun v h => v = some (.int r) ∧ h = mkS x S')) (rec_X4_plain : ST → Int32 → Option (Int32 × ST)) (hrec_X4_plain : ∀ (S : ST) (z0 : Int32) (r : Int32) (S' : ST), rec_X4_plain S z0 = some (r, S') → Ct mX4_plain dd 0 0 [.ref 24, .int z0] (mkS x S) (fun v h => v = some (.int r) ∧ h = mkS x S')) (rec_X4_comparison : ST → Int32 → Option (Int32 × ST)) (hrec_X4_comparison : ∀ (S : ST) (z0 : Int32) (r : Int32) (S' : ST), rec_X4_comparison S z0 = some (r, S') → Ct mX4_comparison dd 0 0 [.ref 24, .int z0] (mkS x S) (fun v h => v = some (.int r) ∧ h = mkS x S')) (rec_X4_inBrackets : ST → Int32 → Int32 → Option (Int32 × ST)) (hrec_X4_inBrackets : ∀ (S : ST) (z0 : Int32) (z1 : Int32) (r : Int32) (S' : ST), rec_X4_inBrackets S z0 z1 = some (r, S') → Ct mX4_inBrackets dd 0 0 [.ref 24, .int z0, .int z1] (mkS x S) (fun v h => v = some (.int r) ∧ h = mkS x S')) (rec_X4_sum : ST → Int32 → Option (Int32 × ST)) (hrec_X4_sum : ∀ (S : ST) (z0 : Int32) (r : Int32) (S' : ST), rec_X4_sum S z0 = some (r, S') → Ct mX4_sum dd 0 0 [.ref 24, .int z0] (mkS x S) (fun v h => v = some (.int r) ∧ h = mkS x S')) (rec_X4_term : ST → Int32 → Option (Int32 × ST)) (hrec_X4_term : ∀ (S : ST) (z0 : Int32) (r : Int32) (S' : ST), rec_X4_term S z0 = some (r, S') → Ct mX4_term dd 0 0 [.ref 24, .int z0] (mkS x S) (fun v h => v = some (.int r) ∧ h = mkS x S')) (rec_X4_part : ST → Int32 → Option (Int32 × ST)) (hrec_X4_part : ∀ (S : ST) (z0 : Int32) (r : Int32) (S' : ST), rec_X4_part S z0 = some (r, S') → Ct mX4_part dd 0 0 [.ref 24, .int z0] (mkS x S) (fun v h => v = some (.int r) ∧ h = mkS x S')) (hB : 3 ≤ dd) (S : ST) (p1 : Int32) (r : Int32) (S' : ST) (hm : grfX4_comparison_24 x rec_X4_test rec_X4_plain rec_X4_comparison rec_X4_inBrackets rec_X4_sum rec_X4_term rec_X4_part S p1 = some (r, S')) : Ct mX4_comparison (dd + 1) 0 0 [.ref 24, .int p1] (mkS x S) (fun v h => v = some (.int r) ∧ h = mkS x S') :=
  Ct.of (lv := [some (.ref 24), some (.int p1), none]) rfl rfl rfl (show (_ : Nat) ≤ _ from Nat.le_of_ble_eq_true rfl) (fun G => rfl) (bpX4_comparison_24_0 x (dd := dd) rec_X4_test hrec_X4_test rec_X4_plain hrec_X4_plain rec_X4_comparison hrec_X4_comparison rec_X4_inBrackets hrec_X4_inBrackets rec_X4_sum hrec_X4_sum rec_X4_term hrec_X4_term rec_X4_part hrec_X4_part hB S p1 r S' hm)
set_option maxHeartbeats 4000000 in
set_option maxRecDepth 20000 in
theorem bpX4_inBrackets_24_66 (x : XT) {dd : Nat} (rec_X4_test : ST → Int32 → Int32 → Option (Int32 × ST)) (hrec_X4_test : ∀ (S : ST) (z0 : Int32) (z1 : Int32) (r : Int32) (S' : ST), rec_X4_test S z0 z1 = some (r, S') → Ct mX4_test dd 0 0 [.ref 24, .int z0, .int z1] (mkS x S) (fun v h => v = some (.int r) ∧ h = mkS x S')) (rec_X4_plain : ST → Int32 → Option (Int32 × ST)) (hrec_X4_plain : ∀ (S : ST) (z0 : Int32) (r : Int32) (S' : ST), rec_X4_plain S z0 = some (r, S') → Ct mX4_plain dd 0 0 [.ref 24, .int z0] (mkS x S) (fun v h => v = some (.int r) ∧ h = mkS x S')) (rec_X4_comparison : ST → Int32 → Option (Int32 × ST)) (hrec_X4_comparison : ∀ (S : ST) (z0 : Int32) (r : Int32) (S' : ST), rec_X4_comparison S z0 = some (r, S') → Ct mX4_comparison dd 0 0 [.ref 24, .int z0] (mkS x S) (fun v h => v = some (.int r) ∧ h = mkS x S')) (rec_X4_inBrackets : ST → Int32 → Int32 → Option (Int32 × ST)) (hrec_X4_inBrackets : ∀ (S : ST) (z0 : Int32) (z1 : Int32) (r : Int32) (S' : ST), rec_X4_inBrackets S z0 z1 = some (r, S') → Ct mX4_inBrackets dd 0 0 [.ref 24, .int z0, .int z1] (mkS x S) (fun v h => v = some (.int r) ∧ h = mkS x S')) (rec_X4_sum : ST → Int32 → Option (Int32 × ST)) (hrec_X4_sum : ∀ (S : ST) (z0 : Int32) (r : Int32) (S' : ST), rec_X4_sum S z0 = some (r, S') → Ct mX4_sum dd 0 0 [.ref 24, .int z0] (mkS x S) (fun v h => v = some (.int r) ∧ h = mkS x S')) (rec_X4_term : ST → Int32 → Option (Int32 × ST)) (hrec_X4_term : ∀ (S : ST) (z0 : Int32) (r : Int32) (S' : ST), rec_X4_term S z0 = some (r, S') → Ct mX4_term dd 0 0 [.ref 24, .int z0] (mkS x S) (fun v h => v = some (.int r) ∧ h = mkS x S')) (rec_X4_part : ST → Int32 → Option (Int32 × ST)) (hrec_X4_part : ∀ (S : ST) (z0 : Int32) (r : Int32) (S' : ST), rec_X4_part S z0 = some (r, S') → Ct mX4_part dd 0 0 [.ref 24, .int z0] (mkS x S) (fun v h => v = some (.int r) ∧ h = mkS x S')) (hB : 3 ≤ dd)  (S : ST) (t0 : Int32) (r : Int32) (S' : ST) (hm : bfX4_inBrackets_24_66 x rec_X4_test rec_X4_plain rec_X4_comparison rec_X4_inBrackets rec_X4_sum rec_X4_term rec_X4_part  S t0 = some (r, S')) : Ev mX4_inBrackets (dd + 1) 0 0 66 [none, none, none] [.int t0] (mkS x S) (fun v h => v = some (.int r) ∧ h = mkS x S') := by
    unfold bfX4_inBrackets_24_66 at hm
    obtain ⟨o1, hm⟩ := oblk hm
    cases hm
    exact Ev.retz tokX4_inBrackets rfl rfl (bbz_ok o1) ⟨rfl, rfl⟩
set_option maxHeartbeats 4000000 in
set_option maxRecDepth 20000 in
theorem bpX4_inBrackets_24_65 (x : XT) {dd : Nat} (rec_X4_test : ST → Int32 → Int32 → Option (Int32 × ST)) (hrec_X4_test : ∀ (S : ST) (z0 : Int32) (z1 : Int32) (r : Int32) (S' : ST), rec_X4_test S z0 z1 = some (r, S') → Ct mX4_test dd 0 0 [.ref 24, .int z0, .int z1] (mkS x S) (fun v h => v = some (.int r) ∧ h = mkS x S')) (rec_X4_plain : ST → Int32 → Option (Int32 × ST)) (hrec_X4_plain : ∀ (S : ST) (z0 : Int32) (r : Int32) (S' : ST), rec_X4_plain S z0 = some (r, S') → Ct mX4_plain dd 0 0 [.ref 24, .int z0] (mkS x S) (fun v h => v = some (.int r) ∧ h = mkS x S')) (rec_X4_comparison : ST → Int32 → Option (Int32 × ST)) (hrec_X4_comparison : ∀ (S : ST) (z0 : Int32) (r : Int32) (S' : ST), rec_X4_comparison S z0 = some (r, S') → Ct mX4_comparison dd 0 0 [.ref 24, .int z0] (mkS x S) (fun v h => v = some (.int r) ∧ h = mkS x S')) (rec_X4_inBrackets : ST → Int32 → Int32 → Option (Int32 × ST)) (hrec_X4_inBrackets : ∀ (S : ST) (z0 : Int32) (z1 : Int32) (r : Int32) (S' : ST), rec_X4_inBrackets S z0 z1 = some (r, S') → Ct mX4_inBrackets dd 0 0 [.ref 24, .int z0, .int z1] (mkS x S) (fun v h => v = some (.int r) ∧ h = mkS x S')) (rec_X4_sum : ST → Int32 → Option (Int32 × ST)) (hrec_X4_sum : ∀ (S : ST) (z0 : Int32) (r : Int32) (S' : ST), rec_X4_sum S z0 = some (r, S') → Ct mX4_sum dd 0 0 [.ref 24, .int z0] (mkS x S) (fun v h => v = some (.int r) ∧ h = mkS x S')) (rec_X4_term : ST → Int32 → Option (Int32 × ST)) (hrec_X4_term : ∀ (S : ST) (z0 : Int32) (r : Int32) (S' : ST), rec_X4_term S z0 = some (r, S') → Ct mX4_term dd 0 0 [.ref 24, .int z0] (mkS x S) (fun v h => v = some (.int r) ∧ h = mkS x S')) (rec_X4_part : ST → Int32 → Option (Int32 × ST)) (hrec_X4_part : ∀ (S : ST) (z0 : Int32) (r : Int32) (S' : ST), rec_X4_part S z0 = some (r, S') → Ct mX4_part dd 0 0 [.ref 24, .int z0] (mkS x S) (fun v h => v = some (.int r) ∧ h = mkS x S')) (hB : 3 ≤ dd)  (S : ST)  (r : Int32) (S' : ST) (hm : bfX4_inBrackets_24_65 x rec_X4_test rec_X4_plain rec_X4_comparison rec_X4_inBrackets rec_X4_sum rec_X4_term rec_X4_part  S  = some (r, S')) : Ev mX4_inBrackets (dd + 1) 0 0 65 [none, none, none] [] (mkS x S) (fun v h => v = some (.int r) ∧ h = mkS x S') := by
    unfold bfX4_inBrackets_24_65 at hm
    refine Ev.steps tokX4_inBrackets 1 (P := True) (pc' := 66) (lv' := [none, none, none]) (st' := [.int 0]) (h' := mkS x S) rfl trivial ?_
    exact bpX4_inBrackets_24_66 x (dd := dd) rec_X4_test hrec_X4_test rec_X4_plain hrec_X4_plain rec_X4_comparison hrec_X4_comparison rec_X4_inBrackets hrec_X4_inBrackets rec_X4_sum hrec_X4_sum rec_X4_term hrec_X4_term rec_X4_part hrec_X4_part hB S 0 _ _ hm
set_option maxHeartbeats 4000000 in
set_option maxRecDepth 20000 in
theorem bpX4_inBrackets_24_53 (x : XT) {dd : Nat} (rec_X4_test : ST → Int32 → Int32 → Option (Int32 × ST)) (hrec_X4_test : ∀ (S : ST) (z0 : Int32) (z1 : Int32) (r : Int32) (S' : ST), rec_X4_test S z0 z1 = some (r, S') → Ct mX4_test dd 0 0 [.ref 24, .int z0, .int z1] (mkS x S) (fun v h => v = some (.int r) ∧ h = mkS x S')) (rec_X4_plain : ST → Int32 → Option (Int32 × ST)) (hrec_X4_plain : ∀ (S : ST) (z0 : Int32) (r : Int32) (S' : ST), rec_X4_plain S z0 = some (r, S') → Ct mX4_plain dd 0 0 [.ref 24, .int z0] (mkS x S) (fun v h => v = some (.int r) ∧ h = mkS x S')) (rec_X4_comparison : ST → Int32 → Option (Int32 × ST)) (hrec_X4_comparison : ∀ (S : ST) (z0 : Int32) (r : Int32) (S' : ST), rec_X4_comparison S z0 = some (r, S') → Ct mX4_comparison dd 0 0 [.ref 24, .int z0] (mkS x S) (fun v h => v = some (.int r) ∧ h = mkS x S')) (rec_X4_inBrackets : ST → Int32 → Int32 → Option (Int32 × ST)) (hrec_X4_inBrackets : ∀ (S : ST) (z0 : Int32) (z1 : Int32) (r : Int32) (S' : ST), rec_X4_inBrackets S z0 z1 = some (r, S') → Ct mX4_inBrackets dd 0 0 [.ref 24, .int z0, .int z1] (mkS x S) (fun v h => v = some (.int r) ∧ h = mkS x S')) (rec_X4_sum : ST → Int32 → Option (Int32 × ST)) (hrec_X4_sum : ∀ (S : ST) (z0 : Int32) (r : Int32) (S' : ST), rec_X4_sum S z0 = some (r, S') → Ct mX4_sum dd 0 0 [.ref 24, .int z0] (mkS x S) (fun v h => v = some (.int r) ∧ h = mkS x S')) (rec_X4_term : ST → Int32 → Option (Int32 × ST)) (hrec_X4_term : ∀ (S : ST) (z0 : Int32) (r : Int32) (S' : ST), rec_X4_term S z0 = some (r, S') → Ct mX4_term dd 0 0 [.ref 24, .int z0] (mkS x S) (fun v h => v = some (.int r) ∧ h = mkS x S')) (rec_X4_part : ST → Int32 → Option (Int32 × ST)) (hrec_X4_part : ∀ (S : ST) (z0 : Int32) (r : Int32) (S' : ST), rec_X4_part S z0 = some (r, S') → Ct mX4_part dd 0 0 [.ref 24, .int z0] (mkS x S) (fun v h => v = some (.int r) ∧ h = mkS x S')) (hB : 3 ≤ dd)  (S : ST) (v2 : Int32) (r : Int32) (S' : ST) (hm : bfX4_inBrackets_24_53 x rec_X4_test rec_X4_plain rec_X4_comparison rec_X4_inBrackets rec_X4_sum rec_X4_term rec_X4_part  S v2 = some (r, S')) : Ev mX4_inBrackets (dd + 1) 0 0 53 [some (.ref 24), none, some (.int v2)] [] (mkS x S) (fun v h => v = some (.int r) ∧ h = mkS x S') := by
    unfold bfX4_inBrackets_24_53 at hm
    refine Ev.steps tokX4_inBrackets 2 (P := True) (pc' := 55) (lv' := [some (.ref 24), none, some (.int v2)]) (st' := [.int v2, .ref 24]) (h' := mkS x S) rfl trivial ?_
    cases h1 : gfX4_take_24 x S v2 with
    | none => rw [h1] at hm; cases hm
    | some q2 =>
      obtain ⟨r3, S4⟩ := q2
      rw [h1] at hm
      dsimp only at hm
      refine ev_callV (N := mX4_take) (d' := 2) (bc := 0) (bs := 0) (bc' := 0) (bs' := 0) (as := [.int v2]) (rest := []) (a := 24) (ci := 4) (dcd tokX4_inBrackets rfl) okX4_take inX4_take seX4_take lk4_124 rfl (by omega) (Nat.le_of_ble_eq_true rfl) rfl ⟨by decide, rfl⟩ (gpX4_take_24 x S v2 _ _ h1) (fun v h' hq hn => ?_)
      obtain ⟨rfl, rfl⟩ := hq
      refine Ev.steps tokX4_inBrackets 1 (P := True) (pc' := if r3 = 0 then 65 else 61) (lv' := [some (.ref 24), none, some (.int v2)]) (st' := []) (h' := mkS x S4) rfl trivial ?_
      refine Ev.ite (fun c5 => ?_) (fun c5 => ?_)
      · rw [if_pos c5] at hm
        refine Ev.fgt (lv' := [none, none, none]) trivial ?_
        exact bpX4_inBrackets_24_65 x (dd := dd) rec_X4_test hrec_X4_test rec_X4_plain hrec_X4_plain rec_X4_comparison hrec_X4_comparison rec_X4_inBrackets hrec_X4_inBrackets rec_X4_sum hrec_X4_sum rec_X4_term hrec_X4_term rec_X4_part hrec_X4_part hB S4 _ _ hm
      · rw [if_neg c5] at hm
        refine Ev.steps tokX4_inBrackets 2 (P := True) (pc' := 66) (lv' := [some (.ref 24), none, some (.int v2)]) (st' := [.int 1]) (h' := mkS x S4) rfl trivial ?_
        refine Ev.fgt (lv' := [none, none, none]) trivial ?_
        exact bpX4_inBrackets_24_66 x (dd := dd) rec_X4_test hrec_X4_test rec_X4_plain hrec_X4_plain rec_X4_comparison hrec_X4_comparison rec_X4_inBrackets hrec_X4_inBrackets rec_X4_sum hrec_X4_sum rec_X4_term hrec_X4_term rec_X4_part hrec_X4_part hB S4 1 _ _ hm
set_option maxHeartbeats 4000000 in
set_option maxRecDepth 20000 in
theorem bpX4_inBrackets_24_0 (x : XT) {dd : Nat} (rec_X4_test : ST → Int32 → Int32 → Option (Int32 × ST)) (hrec_X4_test : ∀ (S : ST) (z0 : Int32) (z1 : Int32) (r : Int32) (S' : ST), rec_X4_test S z0 z1 = some (r, S') → Ct mX4_test dd 0 0 [.ref 24, .int z0, .int z1] (mkS x S) (fun v h => v = some (.int r) ∧ h = mkS x S')) (rec_X4_plain : ST → Int32 → Option (Int32 × ST)) (hrec_X4_plain : ∀ (S : ST) (z0 : Int32) (r : Int32) (S' : ST), rec_X4_plain S z0 = some (r, S') → Ct mX4_plain dd 0 0 [.ref 24, .int z0] (mkS x S) (fun v h => v = some (.int r) ∧ h = mkS x S')) (rec_X4_comparison : ST → Int32 → Option (Int32 × ST)) (hrec_X4_comparison : ∀ (S : ST) (z0 : Int32) (r : Int32) (S' : ST), rec_X4_comparison S z0 = some (r, S') → Ct mX4_comparison dd 0 0 [.ref 24, .int z0] (mkS x S) (fun v h => v = some (.int r) ∧ h = mkS x S')) (rec_X4_inBrackets : ST → Int32 → Int32 → Option (Int32 × ST)) (hrec_X4_inBrackets : ∀ (S : ST) (z0 : Int32) (z1 : Int32) (r : Int32) (S' : ST), rec_X4_inBrackets S z0 z1 = some (r, S') → Ct mX4_inBrackets dd 0 0 [.ref 24, .int z0, .int z1] (mkS x S) (fun v h => v = some (.int r) ∧ h = mkS x S')) (rec_X4_sum : ST → Int32 → Option (Int32 × ST)) (hrec_X4_sum : ∀ (S : ST) (z0 : Int32) (r : Int32) (S' : ST), rec_X4_sum S z0 = some (r, S') → Ct mX4_sum dd 0 0 [.ref 24, .int z0] (mkS x S) (fun v h => v = some (.int r) ∧ h = mkS x S')) (rec_X4_term : ST → Int32 → Option (Int32 × ST)) (hrec_X4_term : ∀ (S : ST) (z0 : Int32) (r : Int32) (S' : ST), rec_X4_term S z0 = some (r, S') → Ct mX4_term dd 0 0 [.ref 24, .int z0] (mkS x S) (fun v h => v = some (.int r) ∧ h = mkS x S')) (rec_X4_part : ST → Int32 → Option (Int32 × ST)) (hrec_X4_part : ∀ (S : ST) (z0 : Int32) (r : Int32) (S' : ST), rec_X4_part S z0 = some (r, S') → Ct mX4_part dd 0 0 [.ref 24, .int z0] (mkS x S) (fun v h => v = some (.int r) ∧ h = mkS x S')) (hB : 3 ≤ dd)  (S : ST) (p1 : Int32) (p2 : Int32) (r : Int32) (S' : ST) (hm : bfX4_inBrackets_24_0 x rec_X4_test rec_X4_plain rec_X4_comparison rec_X4_inBrackets rec_X4_sum rec_X4_term rec_X4_part  S p1 p2 = some (r, S')) : Ev mX4_inBrackets (dd + 1) 0 0 0 [some (.ref 24), some (.int p1), some (.int p2)] [] (mkS x S) (fun v h => v = some (.int r) ∧ h = mkS x S') := by
    unfold bfX4_inBrackets_24_0 at hm
    refine Ev.steps tokX4_inBrackets 3 (P := True) (pc' := if p1 < 8 then 11 else 6) (lv' := [some (.ref 24), some (.int p1), some (.int p2)]) (st' := []) (h' := mkS x S) rfl trivial ?_
    refine Ev.ite (fun c1 => ?_) (fun c1 => ?_)
    · rw [if_pos c1] at hm
      refine Ev.steps tokX4_inBrackets 9 (P := True) (pc' := if ¬ p2 = 41 then 43 else 27) (lv' := [some (.ref 24), some (.int p1), some (.int p2)]) (st' := []) (h' := mkS x ((u2 S.1 24 6 ((S.1 24 6) + 1)), S.2.1, S.2.2.1, S.2.2.2)) rfl trivial ?_
      refine Ev.ite (fun c2 => ?_) (fun c2 => ?_)
      · rw [if_pos c2] at hm
        refine Ev.steps tokX4_inBrackets 4 (P := True) (pc' := 47) (lv' := [some (.ref 24), some (.int p1), some (.int p2)]) (st' := [.int (p1 + 1), .ref 24]) (h' := mkS x ((u2 S.1 24 6 ((S.1 24 6) + 1)), S.2.1, S.2.2.1, S.2.2.2)) rfl trivial ?_
        cases h3 : rec_X4_sum ((u2 S.1 24 6 ((S.1 24 6) + 1)), S.2.1, S.2.2.1, S.2.2.2) (p1 + 1) with
        | none => rw [h3] at hm; cases hm
        | some q4 =>
          obtain ⟨r5, S6⟩ := q4
          rw [h3] at hm
          dsimp only at hm
          refine ev_callV (N := mX4_sum) (d' := dd) (bc := 0) (bs := 0) (bc' := 0) (bs' := 0) (as := [.int (p1 + 1)]) (rest := []) (a := 24) (ci := 4) (dcd tokX4_inBrackets rfl) okX4_sum inX4_sum seX4_sum lk4_120 rfl (by omega) (Nat.le_of_ble_eq_true rfl) rfl ⟨by decide, rfl⟩ (hrec_X4_sum ((u2 S.1 24 6 ((S.1 24 6) + 1)), S.2.1, S.2.2.1, S.2.2.2) (p1 + 1) _ _ h3) (fun v h' hq hn => ?_)
          obtain ⟨rfl, rfl⟩ := hq
          refine Ev.steps tokX4_inBrackets 1 (P := True) (pc' := if r5 = 0 then 65 else 53) (lv' := [some (.ref 24), some (.int p1), some (.int p2)]) (st' := []) (h' := mkS x S6) rfl trivial ?_
          refine Ev.ite (fun c7 => ?_) (fun c7 => ?_)
          · rw [if_pos c7] at hm
            refine Ev.fgt (lv' := [none, none, none]) trivial ?_
            exact bpX4_inBrackets_24_65 x (dd := dd) rec_X4_test hrec_X4_test rec_X4_plain hrec_X4_plain rec_X4_comparison hrec_X4_comparison rec_X4_inBrackets hrec_X4_inBrackets rec_X4_sum hrec_X4_sum rec_X4_term hrec_X4_term rec_X4_part hrec_X4_part hB S6 _ _ hm
          · rw [if_neg c7] at hm
            refine Ev.fgt (lv' := [some (.ref 24), none, some (.int p2)]) ⟨rfl, rfl, trivial⟩ ?_
            exact bpX4_inBrackets_24_53 x (dd := dd) rec_X4_test hrec_X4_test rec_X4_plain hrec_X4_plain rec_X4_comparison hrec_X4_comparison rec_X4_inBrackets hrec_X4_inBrackets rec_X4_sum hrec_X4_sum rec_X4_term hrec_X4_term rec_X4_part hrec_X4_part hB S6 p2 _ _ hm
      · rw [if_neg c2] at hm
        refine Ev.steps tokX4_inBrackets 5 (P := True) (pc' := 34) (lv' := [some (.ref 24), some (.int p1), some (.int p2)]) (st' := [.int 271, .int (p1 + 1), .ref 24]) (h' := mkS x ((u2 S.1 24 6 ((S.1 24 6) + 1)), S.2.1, S.2.2.1, S.2.2.2)) rfl trivial ?_
        cases h8 : rec_X4_test ((u2 S.1 24 6 ((S.1 24 6) + 1)), S.2.1, S.2.2.1, S.2.2.2) (p1 + 1) 271 with
        | none => rw [h8] at hm; cases hm
        | some q9 =>
          obtain ⟨r10, S11⟩ := q9
          rw [h8] at hm
          dsimp only at hm
          refine ev_callV (N := mX4_test) (d' := dd) (bc := 0) (bs := 0) (bc' := 0) (bs' := 0) (as := [.int (p1 + 1), .int 271]) (rest := []) (a := 24) (ci := 4) (dcd tokX4_inBrackets rfl) okX4_test inX4_test seX4_test lk4_129 rfl (by omega) (Nat.le_of_ble_eq_true rfl) rfl ⟨by decide, rfl⟩ (hrec_X4_test ((u2 S.1 24 6 ((S.1 24 6) + 1)), S.2.1, S.2.2.1, S.2.2.2) (p1 + 1) 271 _ _ h8) (fun v h' hq hn => ?_)
          obtain ⟨rfl, rfl⟩ := hq
          refine Ev.steps tokX4_inBrackets 1 (P := True) (pc' := if r10 = 0 then 65 else 40) (lv' := [some (.ref 24), some (.int p1), some (.int p2)]) (st' := []) (h' := mkS x S11) rfl trivial ?_
          refine Ev.ite (fun c12 => ?_) (fun c12 => ?_)
          · rw [if_pos c12] at hm
            refine Ev.fgt (lv' := [none, none, none]) trivial ?_
            exact bpX4_inBrackets_24_65 x (dd := dd) rec_X4_test hrec_X4_test rec_X4_plain hrec_X4_plain rec_X4_comparison hrec_X4_comparison rec_X4_inBrackets hrec_X4_inBrackets rec_X4_sum hrec_X4_sum rec_X4_term hrec_X4_term rec_X4_part hrec_X4_part hB S11 _ _ hm
          · rw [if_neg c12] at hm
            refine Ev.steps tokX4_inBrackets 1 (P := True) (pc' := 53) (lv' := [some (.ref 24), some (.int p1), some (.int p2)]) (st' := []) (h' := mkS x S11) rfl trivial ?_
            refine Ev.fgt (lv' := [some (.ref 24), none, some (.int p2)]) ⟨rfl, rfl, trivial⟩ ?_
            exact bpX4_inBrackets_24_53 x (dd := dd) rec_X4_test hrec_X4_test rec_X4_plain hrec_X4_plain rec_X4_comparison hrec_X4_comparison rec_X4_inBrackets hrec_X4_inBrackets rec_X4_sum hrec_X4_sum rec_X4_term hrec_X4_term rec_X4_part hrec_X4_part hB S11 p2 _ _ hm
    · rw [if_neg c1] at hm
      refine Ev.steps tokX4_inBrackets 1 (P := True) (pc' := 7) (lv' := [some (.ref 24), some (.int p1), some (.int p2)]) (st' := [.ref 24]) (h' := mkS x S) rfl trivial ?_
      cases h13 : gfX4_faulty_24 x S with
      | none => rw [h13] at hm; cases hm
      | some q14 =>
        obtain ⟨r15, S16⟩ := q14
        rw [h13] at hm
        dsimp only at hm
        refine ev_callV (N := mX4_faulty) (d' := 1) (bc := 0) (bs := 0) (bc' := 0) (bs' := 0) (as := []) (rest := []) (a := 24) (ci := 4) (dcd tokX4_inBrackets rfl) okX4_faulty inX4_faulty seX4_faulty lk4_62 rfl (by omega) (Nat.le_of_ble_eq_true rfl) rfl ⟨by decide, rfl⟩ (gpX4_faulty_24 x S _ _ h13) (fun v h' hq hn => ?_)
        obtain ⟨rfl, rfl⟩ := hq
        obtain ⟨o17, hm⟩ := oblk hm
        cases hm
        exact Ev.retz tokX4_inBrackets rfl rfl (bbz_ok o17) ⟨rfl, rfl⟩
theorem grpX4_inBrackets_24 (x : XT) {dd : Nat} (rec_X4_test : ST → Int32 → Int32 → Option (Int32 × ST)) (hrec_X4_test : ∀ (S : ST) (z0 : Int32) (z1 : Int32) (r : Int32) (S' : ST), rec_X4_test S z0 z1 = some (r, S') → Ct mX4_test dd 0 0 [.ref 24, .int z0, .int z1] (mkS x S) (fun v h => v = some (.int r) ∧ h = mkS x S')) (rec_X4_plain : ST → Int32 → Option (Int32 × ST)) (hrec_X4_plain : ∀ (S : ST) (z0 : Int32) (r : Int32) (S' : ST), rec_X4_plain S z0 = some (r, S') → Ct mX4_plain dd 0 0 [.ref 24, .int z0] (mkS x S) (fun v h => v = some (.int r) ∧ h = mkS x S')) (rec_X4_comparison : ST → Int32 → Option (Int32 × ST)) (hrec_X4_comparison : ∀ (S : ST) (z0 : Int32) (r : Int32) (S' : ST), rec_X4_comparison S z0 = some (r, S') → Ct mX4_comparison dd 0 0 [.ref 24, .int z0] (mkS x S) (fun v h => v = some (.int r) ∧ h = mkS x S')) (rec_X4_inBrackets : ST → Int32 → Int32 → Option (Int32 × ST)) (hrec_X4_inBrackets : ∀ (S : ST) (z0 : Int32) (z1 : Int32) (r : Int32) (S' : ST), rec_X4_inBrackets S z0 z1 = some (r, S') → Ct mX4_inBrackets dd 0 0 [.ref 24, .int z0, .int z1] (mkS x S) (fun v h => v = some (.int r) ∧ h = mkS x S')) (rec_X4_sum : ST → Int32 → Option (Int32 × ST)) (hrec_X4_sum : ∀ (S : ST) (z0 : Int32) (r : Int32) (S' : ST), rec_X4_sum S z0 = some (r, S') → Ct mX4_sum dd 0 0 [.ref 24, .int z0] (mkS x S) (fun v h => v = some (.int r) ∧ h = mkS x S')) (rec_X4_term : ST → Int32 → Option (Int32 × ST)) (hrec_X4_term : ∀ (S : ST) (z0 : Int32) (r : Int32) (S' : ST), rec_X4_term S z0 = some (r, S') → Ct mX4_term dd 0 0 [.ref 24, .int z0] (mkS x S) (fun v h => v = some (.int r) ∧ h = mkS x S')) (rec_X4_part : ST → Int32 → Option (Int32 × ST)) (hrec_X4_part : ∀ (S : ST) (z0 : Int32) (r : Int32) (S' : ST), rec_X4_part S z0 = some (r, S') → Ct mX4_part dd 0 0 [.ref 24, .int z0] (mkS x S) (fun v h => v = some (.int r) ∧ h = mkS x S')) (hB : 3 ≤ dd) (S : ST) (p1 : Int32) (p2 : Int32) (r : Int32) (S' : ST) (hm : grfX4_inBrackets_24 x rec_X4_test rec_X4_plain rec_X4_comparison rec_X4_inBrackets rec_X4_sum rec_X4_term rec_X4_part S p1 p2 = some (r, S')) : Ct mX4_inBrackets (dd + 1) 0 0 [.ref 24, .int p1, .int p2] (mkS x S) (fun v h => v = some (.int r) ∧ h = mkS x S') :=
  Ct.of (lv := [some (.ref 24), some (.int p1), some (.int p2)]) rfl rfl rfl (show (_ : Nat) ≤ _ from Nat.le_of_ble_eq_true rfl) (fun G => rfl) (bpX4_inBrackets_24_0 x (dd := dd) rec_X4_test hrec_X4_test rec_X4_plain hrec_X4_plain rec_X4_comparison hrec_X4_comparison rec_X4_inBrackets hrec_X4_inBrackets rec_X4_sum hrec_X4_sum rec_X4_term hrec_X4_term rec_X4_part hrec_X4_part hB S p1 p2 r S' hm)
set_option maxHeartbeats 4000000 in
set_option maxRecDepth 20000 in
theorem bpX4_sum_24_76 (x : XT) {dd : Nat} (rec_X4_test : ST → Int32 → Int32 → Option (Int32 × ST)) (hrec_X4_test : ∀ (S : ST) (z0 : Int32) (z1 : Int32) (r : Int32) (S' : ST), rec_X4_test S z0 z1 = some (r, S') → Ct mX4_test dd 0 0 [.ref 24, .int z0, .int z1] (mkS x S) (fun v h => v = some (.int r) ∧ h = mkS x S')) (rec_X4_plain : ST → Int32 → Option (Int32 × ST)) (hrec_X4_plain : ∀ (S : ST) (z0 : Int32) (r : Int32) (S' : ST), rec_X4_plain S z0 = some (r, S') → Ct mX4_plain dd 0 0 [.ref 24, .int z0] (mkS x S) (fun v h => v = some (.int r) ∧ h = mkS x S')) (rec_X4_comparison : ST → Int32 → Option (Int32 × ST)) (hrec_X4_comparison : ∀ (S : ST) (z0 : Int32) (r : Int32) (S' : ST), rec_X4_comparison S z0 = some (r, S') → Ct mX4_comparison dd 0 0 [.ref 24, .int z0] (mkS x S) (fun v h => v = some (.int r) ∧ h = mkS x S')) (rec_X4_inBrackets : ST → Int32 → Int32 → Option (Int32 × ST)) (hrec_X4_inBrackets : ∀ (S : ST) (z0 : Int32) (z1 : Int32) (r : Int32) (S' : ST), rec_X4_inBrackets S z0 z1 = some (r, S') → Ct mX4_inBrackets dd 0 0 [.ref 24, .int z0, .int z1] (mkS x S) (fun v h => v = some (.int r) ∧ h = mkS x S')) (rec_X4_sum : ST → Int32 → Option (Int32 × ST)) (hrec_X4_sum : ∀ (S : ST) (z0 : Int32) (r : Int32) (S' : ST), rec_X4_sum S z0 = some (r, S') → Ct mX4_sum dd 0 0 [.ref 24, .int z0] (mkS x S) (fun v h => v = some (.int r) ∧ h = mkS x S')) (rec_X4_term : ST → Int32 → Option (Int32 × ST)) (hrec_X4_term : ∀ (S : ST) (z0 : Int32) (r : Int32) (S' : ST), rec_X4_term S z0 = some (r, S') → Ct mX4_term dd 0 0 [.ref 24, .int z0] (mkS x S) (fun v h => v = some (.int r) ∧ h = mkS x S')) (rec_X4_part : ST → Int32 → Option (Int32 × ST)) (hrec_X4_part : ∀ (S : ST) (z0 : Int32) (r : Int32) (S' : ST), rec_X4_part S z0 = some (r, S') → Ct mX4_part dd 0 0 [.ref 24, .int z0] (mkS x S) (fun v h => v = some (.int r) ∧ h = mkS x S')) (hB : 3 ≤ dd)  (S : ST) (v2 : Int32) (r : Int32) (S' : ST) (hm : bfX4_sum_24_76 x rec_X4_test rec_X4_plain rec_X4_comparison rec_X4_inBrackets rec_X4_sum rec_X4_term rec_X4_part  S v2 = some (r, S')) : Ev mX4_sum (dd + 1) 0 0 76 [none, none, some (.int v2), none, none] [] (mkS x S) (fun v h => v = some (.int r) ∧ h = mkS x S') := by
    unfold bfX4_sum_24_76 at hm
    refine Ev.steps tokX4_sum 1 (P := True) (pc' := 77) (lv' := [none, none, some (.int v2), none, none]) (st' := [.int v2]) (h' := mkS x S) rfl trivial ?_
    obtain ⟨o1, hm⟩ := oblk hm
    cases hm
    exact Ev.retz tokX4_sum rfl rfl (bbz_ok o1) ⟨rfl, rfl⟩
set_option maxHeartbeats 4000000 in
set_option maxRecDepth 20000 in
theorem bpX4_sum_24_37 (x : XT) {dd : Nat} (rec_X4_test : ST → Int32 → Int32 → Option (Int32 × ST)) (hrec_X4_test : ∀ (S : ST) (z0 : Int32) (z1 : Int32) (r : Int32) (S' : ST), rec_X4_test S z0 z1 = some (r, S') → Ct mX4_test dd 0 0 [.ref 24, .int z0, .int z1] (mkS x S) (fun v h => v = some (.int r) ∧ h = mkS x S')) (rec_X4_plain : ST → Int32 → Option (Int32 × ST)) (hrec_X4_plain : ∀ (S : ST) (z0 : Int32) (r : Int32) (S' : ST), rec_X4_plain S z0 = some (r, S') → Ct mX4_plain dd 0 0 [.ref 24, .int z0] (mkS x S) (fun v h => v = some (.int r) ∧ h = mkS x S')) (rec_X4_comparison : ST → Int32 → Option (Int32 × ST)) (hrec_X4_comparison : ∀ (S : ST) (z0 : Int32) (r : Int32) (S' : ST), rec_X4_comparison S z0 = some (r, S') → Ct mX4_comparison dd 0 0 [.ref 24, .int z0] (mkS x S) (fun v h => v = some (.int r) ∧ h = mkS x S')) (rec_X4_inBrackets : ST → Int32 → Int32 → Option (Int32 × ST)) (hrec_X4_inBrackets : ∀ (S : ST) (z0 : Int32) (z1 : Int32) (r : Int32) (S' : ST), rec_X4_inBrackets S z0 z1 = some (r, S') → Ct mX4_inBrackets dd 0 0 [.ref 24, .int z0, .int z1] (mkS x S) (fun v h => v = some (.int r) ∧ h = mkS x S')) (rec_X4_sum : ST → Int32 → Option (Int32 × ST)) (hrec_X4_sum : ∀ (S : ST) (z0 : Int32) (r : Int32) (S' : ST), rec_X4_sum S z0 = some (r, S') → Ct mX4_sum dd 0 0 [.ref 24, .int z0] (mkS x S) (fun v h => v = some (.int r) ∧ h = mkS x S')) (rec_X4_term : ST → Int32 → Option (Int32 × ST)) (hrec_X4_term : ∀ (S : ST) (z0 : Int32) (r : Int32) (S' : ST), rec_X4_term S z0 = some (r, S') → Ct mX4_term dd 0 0 [.ref 24, .int z0] (mkS x S) (fun v h => v = some (.int r) ∧ h = mkS x S')) (rec_X4_part : ST → Int32 → Option (Int32 × ST)) (hrec_X4_part : ∀ (S : ST) (z0 : Int32) (r : Int32) (S' : ST), rec_X4_part S z0 = some (r, S') → Ct mX4_part dd 0 0 [.ref 24, .int z0] (mkS x S) (fun v h => v = some (.int r) ∧ h = mkS x S')) (hB : 3 ≤ dd) (k8 : ST → Int32 → Int32 → Int32 → Option (Int32 × ST)) (hk8 : ∀ (S : ST) (v1 : Int32) (v2 : Int32) (v3 : Int32) (r : Int32) (S' : ST), k8 S v1 v2 v3 = some (r, S') → Ev mX4_sum (dd + 1) 0 0 8 [some (.ref 24), some (.int v1), some (.int v2), some (.int v3), none] [] (mkS x S) (fun v h => v = some (.int r) ∧ h = mkS x S')) (S : ST) (v1 : Int32) (v3 : Int32) (r : Int32) (S' : ST) (hm : bfX4_sum_24_37 x rec_X4_test rec_X4_plain rec_X4_comparison rec_X4_inBrackets rec_X4_sum rec_X4_term rec_X4_part k8 S v1 v3 = some (r, S')) : Ev mX4_sum (dd + 1) 0 0 37 [some (.ref 24), some (.int v1), none, some (.int v3), none] [] (mkS x S) (fun v h => v = some (.int r) ∧ h = mkS x S') := by
    unfold bfX4_sum_24_37 at hm
    refine Ev.steps tokX4_sum 1 (P := True) (pc' := 38) (lv' := [some (.ref 24), some (.int v1), none, some (.int v3), none]) (st' := [.ref 24]) (h' := mkS x S) rfl trivial ?_
    cases h1 : gfX4_here_24 x S with
    | none => rw [h1] at hm; cases hm
    | some q2 =>
      obtain ⟨r3, S4⟩ := q2
      rw [h1] at hm
      dsimp only at hm
      refine ev_callV (N := mX4_here) (d' := 1) (bc := 0) (bs := 0) (bc' := 0) (bs' := 0) (as := []) (rest := []) (a := 24) (ci := 4) (dcd tokX4_sum rfl) okX4_here inX4_here seX4_here lk4_58 rfl (by omega) (Nat.le_of_ble_eq_true rfl) rfl ⟨by decide, rfl⟩ (gpX4_here_24 x S _ _ h1) (fun v h' hq hn => ?_)
      obtain ⟨rfl, rfl⟩ := hq
      refine Ev.steps tokX4_sum 9 (P := True) (pc' := 55) (lv' := [some (.ref 24), some (.int v1), none, some (.int v3), some (.int r3)]) (st' := [.int v1, .ref 24]) (h' := mkS x ((u2 S4.1 24 6 ((S4.1 24 6) + 1)), S4.2.1, S4.2.2.1, S4.2.2.2)) rfl trivial ?_
      cases h5 : rec_X4_term ((u2 S4.1 24 6 ((S4.1 24 6) + 1)), S4.2.1, S4.2.2.1, S4.2.2.2) v1 with
      | none => rw [h5] at hm; cases hm
      | some q6 =>
        obtain ⟨r7, S8⟩ := q6
        rw [h5] at hm
        dsimp only at hm
        refine ev_callV (N := mX4_term) (d' := dd) (bc := 0) (bs := 0) (bc' := 0) (bs' := 0) (as := [.int v1]) (rest := []) (a := 24) (ci := 4) (dcd tokX4_sum rfl) okX4_term inX4_term seX4_term lk4_149 rfl (by omega) (Nat.le_of_ble_eq_true rfl) rfl ⟨by decide, rfl⟩ (hrec_X4_term ((u2 S4.1 24 6 ((S4.1 24 6) + 1)), S4.2.1, S4.2.2.1, S4.2.2.2) v1 _ _ h5) (fun v h' hq hn => ?_)
        obtain ⟨rfl, rfl⟩ := hq
        refine Ev.steps tokX4_sum 5 (P := True) (pc' := 66) (lv' := [some (.ref 24), some (.int v1), some (.int r7), some (.int v3), some (.int r3)]) (st' := [.int 0, .int r3, .ref 25]) (h' := mkS x S8) rfl trivial ?_
        cases h9 : gfX9_add_25 x S8 r3 0 with
        | none => rw [h9] at hm; cases hm
        | some q10 =>
          obtain ⟨r11, S12⟩ := q10
          rw [h9] at hm
          dsimp only at hm
          refine ev_callV (N := mX9_add) (d' := 1) (bc := 0) (bs := 0) (bc' := 0) (bs' := 0) (as := [.int r3, .int 0]) (rest := []) (a := 25) (ci := 9) (dcd tokX4_sum rfl) okX9_add inX9_add seX9_add lk4_140 rfl (by omega) (Nat.le_of_ble_eq_true rfl) rfl ⟨by decide, rfl⟩ (gpX9_add_25 x S8 r3 0 _ _ h9) (fun v h' hq hn => ?_)
          obtain ⟨rfl, rfl⟩ := hq
          refine Ev.steps tokX4_sum 3 (P := True) (pc' := 8) (lv' := [some (.ref 24), some (.int v1), some (.int r7), some (.int (v3 + 1)), some (.int r3)]) (st' := []) (h' := mkS x S12) rfl trivial ?_
          refine Ev.fgt (lv' := [some (.ref 24), some (.int v1), some (.int r7), some (.int (v3 + 1)), none]) ⟨rfl, rfl, rfl, rfl, trivial⟩ ?_
          exact hk8 S12 v1 r7 (v3 + 1) _ _ hm
set_option maxHeartbeats 4000000 in
set_option maxRecDepth 20000 in
theorem bpX4_sum_24_8 (x : XT) {dd : Nat} (rec_X4_test : ST → Int32 → Int32 → Option (Int32 × ST)) (hrec_X4_test : ∀ (S : ST) (z0 : Int32) (z1 : Int32) (r : Int32) (S' : ST), rec_X4_test S z0 z1 = some (r, S') → Ct mX4_test dd 0 0 [.ref 24, .int z0, .int z1] (mkS x S) (fun v h => v = some (.int r) ∧ h = mkS x S')) (rec_X4_plain : ST → Int32 → Option (Int32 × ST)) (hrec_X4_plain : ∀ (S : ST) (z0 : Int32) (r : Int32) (S' : ST), rec_X4_plain S z0 = some (r, S') → Ct mX4_plain dd 0 0 [.ref 24, .int z0] (mkS x S) (fun v h => v = some (.int r) ∧ h = mkS x S')) (rec_X4_comparison : ST → Int32 → Option (Int32 × ST)) (hrec_X4_comparison : ∀ (S : ST) (z0 : Int32) (r : Int32) (S' : ST), rec_X4_comparison S z0 = some (r, S') → Ct mX4_comparison dd 0 0 [.ref 24, .int z0] (mkS x S) (fun v h => v = some (.int r) ∧ h = mkS x S')) (rec_X4_inBrackets : ST → Int32 → Int32 → Option (Int32 × ST)) (hrec_X4_inBrackets : ∀ (S : ST) (z0 : Int32) (z1 : Int32) (r : Int32) (S' : ST), rec_X4_inBrackets S z0 z1 = some (r, S') → Ct mX4_inBrackets dd 0 0 [.ref 24, .int z0, .int z1] (mkS x S) (fun v h => v = some (.int r) ∧ h = mkS x S')) (rec_X4_sum : ST → Int32 → Option (Int32 × ST)) (hrec_X4_sum : ∀ (S : ST) (z0 : Int32) (r : Int32) (S' : ST), rec_X4_sum S z0 = some (r, S') → Ct mX4_sum dd 0 0 [.ref 24, .int z0] (mkS x S) (fun v h => v = some (.int r) ∧ h = mkS x S')) (rec_X4_term : ST → Int32 → Option (Int32 × ST)) (hrec_X4_term : ∀ (S : ST) (z0 : Int32) (r : Int32) (S' : ST), rec_X4_term S z0 = some (r, S') → Ct mX4_term dd 0 0 [.ref 24, .int z0] (mkS x S) (fun v h => v = some (.int r) ∧ h = mkS x S')) (rec_X4_part : ST → Int32 → Option (Int32 × ST)) (hrec_X4_part : ∀ (S : ST) (z0 : Int32) (r : Int32) (S' : ST), rec_X4_part S z0 = some (r, S') → Ct mX4_part dd 0 0 [.ref 24, .int z0] (mkS x S) (fun v h => v = some (.int r) ∧ h = mkS x S')) (hB : 3 ≤ dd) (k8 : ST → Int32 → Int32 → Int32 → Option (Int32 × ST)) (hk8 : ∀ (S : ST) (v1 : Int32) (v2 : Int32) (v3 : Int32) (r : Int32) (S' : ST), k8 S v1 v2 v3 = some (r, S') → Ev mX4_sum (dd + 1) 0 0 8 [some (.ref 24), some (.int v1), some (.int v2), some (.int v3), none] [] (mkS x S) (fun v h => v = some (.int r) ∧ h = mkS x S')) (S : ST) (v1 : Int32) (v2 : Int32) (v3 : Int32) (r : Int32) (S' : ST) (hm : bfX4_sum_24_8 x rec_X4_test rec_X4_plain rec_X4_comparison rec_X4_inBrackets rec_X4_sum rec_X4_term rec_X4_part k8 S v1 v2 v3 = some (r, S')) : Ev mX4_sum (dd + 1) 0 0 8 [some (.ref 24), some (.int v1), some (.int v2), some (.int v3), none] [] (mkS x S) (fun v h => v = some (.int r) ∧ h = mkS x S') := by
    unfold bfX4_sum_24_8 at hm
    refine Ev.steps tokX4_sum 3 (P := True) (pc' := if 400 < v3 then 76 else 15) (lv' := [some (.ref 24), some (.int v1), some (.int v2), some (.int v3), none]) (st' := []) (h' := mkS x S) rfl trivial ?_
    refine Ev.ite (fun c1 => ?_) (fun c1 => ?_)
    · rw [if_pos c1] at hm
      refine Ev.fgt (lv' := [none, none, some (.int v2), none, none]) ⟨rfl, trivial⟩ ?_
      exact bpX4_sum_24_76 x (dd := dd) rec_X4_test hrec_X4_test rec_X4_plain hrec_X4_plain rec_X4_comparison hrec_X4_comparison rec_X4_inBrackets hrec_X4_inBrackets rec_X4_sum hrec_X4_sum rec_X4_term hrec_X4_term rec_X4_part hrec_X4_part hB S v2 _ _ hm
    · rw [if_neg c1] at hm
      refine Ev.steps tokX4_sum 2 (P := True) (pc' := if v2 = 0 then 76 else 19) (lv' := [some (.ref 24), some (.int v1), some (.int v2), some (.int v3), none]) (st' := []) (h' := mkS x S) rfl trivial ?_
      refine Ev.ite (fun c2 => ?_) (fun c2 => ?_)
      · rw [if_pos c2] at hm
        refine Ev.fgt (lv' := [none, none, some (.int v2), none, none]) ⟨rfl, trivial⟩ ?_
        exact bpX4_sum_24_76 x (dd := dd) rec_X4_test hrec_X4_test rec_X4_plain hrec_X4_plain rec_X4_comparison hrec_X4_comparison rec_X4_inBrackets hrec_X4_inBrackets rec_X4_sum hrec_X4_sum rec_X4_term hrec_X4_term rec_X4_part hrec_X4_part hB S v2 _ _ hm
      · rw [if_neg c2] at hm
        refine Ev.steps tokX4_sum 1 (P := True) (pc' := 20) (lv' := [some (.ref 24), some (.int v1), some (.int v2), some (.int v3), none]) (st' := [.ref 24]) (h' := mkS x S) rfl trivial ?_
        cases h3 : gfX4_here_24 x S with
        | none => rw [h3] at hm; cases hm
        | some q4 =>
          obtain ⟨r5, S6⟩ := q4
          rw [h3] at hm
          dsimp only at hm
          refine ev_callV (N := mX4_here) (d' := 1) (bc := 0) (bs := 0) (bc' := 0) (bs' := 0) (as := []) (rest := []) (a := 24) (ci := 4) (dcd tokX4_sum rfl) okX4_here inX4_here seX4_here lk4_58 rfl (by omega) (Nat.le_of_ble_eq_true rfl) rfl ⟨by decide, rfl⟩ (gpX4_here_24 x S _ _ h3) (fun v h' hq hn => ?_)
          obtain ⟨rfl, rfl⟩ := hq
          refine Ev.steps tokX4_sum 2 (P := True) (pc' := if r5 = 43 then 37 else 28) (lv' := [some (.ref 24), some (.int v1), some (.int v2), some (.int v3), none]) (st' := []) (h' := mkS x S6) rfl trivial ?_
          refine Ev.ite (fun c7 => ?_) (fun c7 => ?_)
          · rw [if_pos c7] at hm
            refine Ev.fgt (lv' := [some (.ref 24), some (.int v1), none, some (.int v3), none]) ⟨rfl, rfl, rfl, trivial⟩ ?_
            exact bpX4_sum_24_37 x (dd := dd) rec_X4_test hrec_X4_test rec_X4_plain hrec_X4_plain rec_X4_comparison hrec_X4_comparison rec_X4_inBrackets hrec_X4_inBrackets rec_X4_sum hrec_X4_sum rec_X4_term hrec_X4_term rec_X4_part hrec_X4_part hB k8 hk8 S6 v1 v3 _ _ hm
          · rw [if_neg c7] at hm
            refine Ev.steps tokX4_sum 1 (P := True) (pc' := 29) (lv' := [some (.ref 24), some (.int v1), some (.int v2), some (.int v3), none]) (st' := [.ref 24]) (h' := mkS x S6) rfl trivial ?_
            cases h8 : gfX4_here_24 x S6 with
            | none => rw [h8] at hm; cases hm
            | some q9 =>
              obtain ⟨r10, S11⟩ := q9
              rw [h8] at hm
              dsimp only at hm
              refine ev_callV (N := mX4_here) (d' := 1) (bc := 0) (bs := 0) (bc' := 0) (bs' := 0) (as := []) (rest := []) (a := 24) (ci := 4) (dcd tokX4_sum rfl) okX4_here inX4_here seX4_here lk4_58 rfl (by omega) (Nat.le_of_ble_eq_true rfl) rfl ⟨by decide, rfl⟩ (gpX4_here_24 x S6 _ _ h8) (fun v h' hq hn => ?_)
              obtain ⟨rfl, rfl⟩ := hq
              refine Ev.steps tokX4_sum 2 (P := True) (pc' := if ¬ r10 = 45 then 76 else 37) (lv' := [some (.ref 24), some (.int v1), some (.int v2), some (.int v3), none]) (st' := []) (h' := mkS x S11) rfl trivial ?_
              refine Ev.ite (fun c12 => ?_) (fun c12 => ?_)
              · rw [if_pos c12] at hm
                refine Ev.fgt (lv' := [none, none, some (.int v2), none, none]) ⟨rfl, trivial⟩ ?_
                exact bpX4_sum_24_76 x (dd := dd) rec_X4_test hrec_X4_test rec_X4_plain hrec_X4_plain rec_X4_comparison hrec_X4_comparison rec_X4_inBrackets hrec_X4_inBrackets rec_X4_sum hrec_X4_sum rec_X4_term hrec_X4_term rec_X4_part hrec_X4_part hB S11 v2 _ _ hm
              · rw [if_neg c12] at hm
                refine Ev.fgt (lv' := [some (.ref 24), some (.int v1), none, some (.int v3), none]) ⟨rfl, rfl, rfl, trivial⟩ ?_
                exact bpX4_sum_24_37 x (dd := dd) rec_X4_test hrec_X4_test rec_X4_plain hrec_X4_plain rec_X4_comparison hrec_X4_comparison rec_X4_inBrackets hrec_X4_inBrackets rec_X4_sum hrec_X4_sum rec_X4_term hrec_X4_term rec_X4_part hrec_X4_part hB k8 hk8 S11 v1 v3 _ _ hm
theorem lpX4_sum_24_8 (x : XT) {dd : Nat} (rec_X4_test : ST → Int32 → Int32 → Option (Int32 × ST)) (hrec_X4_test : ∀ (S : ST) (z0 : Int32) (z1 : Int32) (r : Int32) (S' : ST), rec_X4_test S z0 z1 = some (r, S') → Ct mX4_test dd 0 0 [.ref 24, .int z0, .int z1] (mkS x S) (fun v h => v = some (.int r) ∧ h = mkS x S')) (rec_X4_plain : ST → Int32 → Option (Int32 × ST)) (hrec_X4_plain : ∀ (S : ST) (z0 : Int32) (r : Int32) (S' : ST), rec_X4_plain S z0 = some (r, S') → Ct mX4_plain dd 0 0 [.ref 24, .int z0] (mkS x S) (fun v h => v = some (.int r) ∧ h = mkS x S')) (rec_X4_comparison : ST → Int32 → Option (Int32 × ST)) (hrec_X4_comparison : ∀ (S : ST) (z0 : Int32) (r : Int32) (S' : ST), rec_X4_comparison S z0 = some (r, S') → Ct mX4_comparison dd 0 0 [.ref 24, .int z0] (mkS x S) (fun v h => v = some (.int r) ∧ h = mkS x S')) (rec_X4_inBrackets : ST → Int32 → Int32 → Option (Int32 × ST)) (hrec_X4_inBrackets : ∀ (S : ST) (z0 : Int32) (z1 : Int32) (r : Int32) (S' : ST), rec_X4_inBrackets S z0 z1 = some (r, S') → Ct mX4_inBrackets dd 0 0 [.ref 24, .int z0, .int z1] (mkS x S) (fun v h => v = some (.int r) ∧ h = mkS x S')) (rec_X4_sum : ST → Int32 → Option (Int32 × ST)) (hrec_X4_sum : ∀ (S : ST) (z0 : Int32) (r : Int32) (S' : ST), rec_X4_sum S z0 = some (r, S') → Ct mX4_sum dd 0 0 [.ref 24, .int z0] (mkS x S) (fun v h => v = some (.int r) ∧ h = mkS x S')) (rec_X4_term : ST → Int32 → Option (Int32 × ST)) (hrec_X4_term : ∀ (S : ST) (z0 : Int32) (r : Int32) (S' : ST), rec_X4_term S z0 = some (r, S') → Ct mX4_term dd 0 0 [.ref 24, .int z0] (mkS x S) (fun v h => v = some (.int r) ∧ h = mkS x S')) (rec_X4_part : ST → Int32 → Option (Int32 × ST)) (hrec_X4_part : ∀ (S : ST) (z0 : Int32) (r : Int32) (S' : ST), rec_X4_part S z0 = some (r, S') → Ct mX4_part dd 0 0 [.ref 24, .int z0] (mkS x S) (fun v h => v = some (.int r) ∧ h = mkS x S')) (hB : 3 ≤ dd)  : ∀ (n : Nat) (S : ST) (v1 : Int32) (v2 : Int32) (v3 : Int32) (r : Int32) (S' : ST), lfX4_sum_24_8 x rec_X4_test rec_X4_plain rec_X4_comparison rec_X4_inBrackets rec_X4_sum rec_X4_term rec_X4_part  n S v1 v2 v3 = some (r, S') → Ev mX4_sum (dd + 1) 0 0 8 [some (.ref 24), some (.int v1), some (.int v2), some (.int v3), none] [] (mkS x S) (fun v h => v = some (.int r) ∧ h = mkS x S')
  | 0, _, _, _, _, _, _, hm => by cases hm
  | n + 1, S, v1, v2, v3, r, S', hm => bpX4_sum_24_8 x (dd := dd) rec_X4_test hrec_X4_test rec_X4_plain hrec_X4_plain rec_X4_comparison hrec_X4_comparison rec_X4_inBrackets hrec_X4_inBrackets rec_X4_sum hrec_X4_sum rec_X4_term hrec_X4_term rec_X4_part hrec_X4_part hB (lfX4_sum_24_8 x rec_X4_test rec_X4_plain rec_X4_comparison rec_X4_inBrackets rec_X4_sum rec_X4_term rec_X4_part  n) (lpX4_sum_24_8 x (dd := dd) rec_X4_test hrec_X4_test rec_X4_plain hrec_X4_plain rec_X4_comparison hrec_X4_comparison rec_X4_inBrackets hrec_X4_inBrackets rec_X4_sum hrec_X4_sum rec_X4_term hrec_X4_term rec_X4_part hrec_X4_part hB  n) S v1 v2 v3 r S' hm
set_option maxHeartbeats 4000000 in
set_option maxRecDepth 20000 in
theorem bpX4_sum_24_0 (x : XT) {dd : Nat} (rec_X4_test : ST → Int32 → Int32 → Option (Int32 × ST)) (hrec_X4_test : ∀ (S : ST) (z0 : Int32) (z1 : Int32) (r : Int32) (S' : ST), rec_X4_test S z0 z1 = some (r, S') → Ct mX4_test dd 0 0 [.ref 24, .int z0, .int z1] (mkS x S) (fun v h => v = some (.int r) ∧ h = mkS x S')) (rec_X4_plain : ST → Int32 → Option (Int32 × ST)) (hrec_X4_plain : ∀ (S : ST) (z0 : Int32) (r : Int32) (S' : ST), rec_X4_plain S z0 = some (r, S') → Ct mX4_plain dd 0 0 [.ref 24, .int z0] (mkS x S) (fun v h => v = some (.int r) ∧ h = mkS x S')) (rec_X4_comparison : ST → Int32 → Option (Int32 × ST)) (hrec_X4_comparison : ∀ (S : ST) (z0 : Int32) (r : Int32) (S' : ST), rec_X4_comparison S z0 = some (r, S') → Ct mX4_comparison dd 0 0 [.ref 24, .int z0] (mkS x S) (fun v h => v = some (.int r) ∧ h = mkS x S')) (rec_X4_inBrackets : ST → Int32 → Int32 → Option (Int32 × ST)) (hrec_X4_inBrackets : ∀ (S : ST) (z0 : Int32) (z1 : Int32) (r : Int32) (S' : ST), rec_X4_inBrackets S z0 z1 = some (r, S') → Ct mX4_inBrackets dd 0 0 [.ref 24, .int z0, .int z1] (mkS x S) (fun v h => v = some (.int r) ∧ h = mkS x S')) (rec_X4_sum : ST → Int32 → Option (Int32 × ST)) (hrec_X4_sum : ∀ (S : ST) (z0 : Int32) (r : Int32) (S' : ST), rec_X4_sum S z0 = some (r, S') → Ct mX4_sum dd 0 0 [.ref 24, .int z0] (mkS x S) (fun v h => v = some (.int r) ∧ h = mkS x S')) (rec_X4_term : ST → Int32 → Option (Int32 × ST)) (hrec_X4_term : ∀ (S : ST) (z0 : Int32) (r : Int32) (S' : ST), rec_X4_term S z0 = some (r, S') → Ct mX4_term dd 0 0 [.ref 24, .int z0] (mkS x S) (fun v h => v = some (.int r) ∧ h = mkS x S')) (rec_X4_part : ST → Int32 → Option (Int32 × ST)) (hrec_X4_part : ∀ (S : ST) (z0 : Int32) (r : Int32) (S' : ST), rec_X4_part S z0 = some (r, S') → Ct mX4_part dd 0 0 [.ref 24, .int z0] (mkS x S) (fun v h => v = some (.int r) ∧ h = mkS x S')) (hB : 3 ≤ dd)  (S : ST) (p1 : Int32) (r : Int32) (S' : ST) (hm : bfX4_sum_24_0 x rec_X4_test rec_X4_plain rec_X4_comparison rec_X4_inBrackets rec_X4_sum rec_X4_term rec_X4_part  S p1 = some (r, S')) : Ev mX4_sum (dd + 1) 0 0 0 [some (.ref 24), some (.int p1), none, none, none] [] (mkS x S) (fun v h => v = some (.int r) ∧ h = mkS x S') := by
    unfold bfX4_sum_24_0 at hm
    refine Ev.steps tokX4_sum 2 (P := True) (pc' := 2) (lv' := [some (.ref 24), some (.int p1), none, none, none]) (st' := [.int p1, .ref 24]) (h' := mkS x S) rfl trivial ?_
    cases h1 : rec_X4_term S p1 with
    | none => rw [h1] at hm; cases hm
    | some q2 =>
      obtain ⟨r3, S4⟩ := q2
      rw [h1] at hm
      dsimp only at hm
      refine ev_callV (N := mX4_term) (d' := dd) (bc := 0) (bs := 0) (bc' := 0) (bs' := 0) (as := [.int p1]) (rest := []) (a := 24) (ci := 4) (dcd tokX4_sum rfl) okX4_term inX4_term seX4_term lk4_149 rfl (by omega) (Nat.le_of_ble_eq_true rfl) rfl ⟨by decide, rfl⟩ (hrec_X4_term S p1 _ _ h1) (fun v h' hq hn => ?_)
      obtain ⟨rfl, rfl⟩ := hq
      refine Ev.steps tokX4_sum 3 (P := True) (pc' := 8) (lv' := [some (.ref 24), some (.int p1), some (.int r3), some (.int 0), none]) (st' := []) (h' := mkS x S4) rfl trivial ?_
      exact lpX4_sum_24_8 x (dd := dd) rec_X4_test hrec_X4_test rec_X4_plain hrec_X4_plain rec_X4_comparison hrec_X4_comparison rec_X4_inBrackets hrec_X4_inBrackets rec_X4_sum hrec_X4_sum rec_X4_term hrec_X4_term rec_X4_part hrec_X4_part hB  20000 S4 p1 r3 0 _ _ hm
theorem grpX4_sum_24 (x : XT) {dd : Nat} (rec_X4_test : ST → Int32 → Int32 → Option (Int32 × ST)) (hrec_X4_test : ∀ (S : ST) (z0 : Int32) (z1 : Int32) (r : Int32) (S' : ST), rec_X4_test S z0 z1 = some (r, S') → Ct mX4_test dd 0 0 [.ref 24, .int z0, .int z1] (mkS x S) (fun v h => v = some (.int r) ∧ h = mkS x S')) (rec_X4_plain : ST → Int32 → Option (Int32 × ST)) (hrec_X4_plain : ∀ (S : ST) (z0 : Int32) (r : Int32) (S' : ST), rec_X4_plain S z0 = some (r, S') → Ct mX4_plain dd 0 0 [.ref 24, .int z0] (mkS x S) (fun v h => v = some (.int r) ∧ h = mkS x S')) (rec_X4_comparison : ST → Int32 → Option (Int32 × ST)) (hrec_X4_comparison : ∀ (S : ST) (z0 : Int32) (r : Int32) (S' : ST), rec_X4_comparison S z0 = some (r, S') → Ct mX4_comparison dd 0 0 [.ref 24, .int z0] (mkS x S) (fun v h => v = some (.int r) ∧ h = mkS x S')) (rec_X4_inBrackets : ST → Int32 → Int32 → Option (Int32 × ST)) (hrec_X4_inBrackets : ∀ (S : ST) (z0 : Int32) (z1 : Int32) (r : Int32) (S' : ST), rec_X4_inBrackets S z0 z1 = some (r, S') → Ct mX4_inBrackets dd 0 0 [.ref 24, .int z0, .int z1] (mkS x S) (fun v h => v = some (.int r) ∧ h = mkS x S')) (rec_X4_sum : ST → Int32 → Option (Int32 × ST)) (hrec_X4_sum : ∀ (S : ST) (z0 : Int32) (r : Int32) (S' : ST), rec_X4_sum S z0 = some (r, S') → Ct mX4_sum dd 0 0 [.ref 24, .int z0] (mkS x S) (fun v h => v = some (.int r) ∧ h = mkS x S')) (rec_X4_term : ST → Int32 → Option (Int32 × ST)) (hrec_X4_term : ∀ (S : ST) (z0 : Int32) (r : Int32) (S' : ST), rec_X4_term S z0 = some (r, S') → Ct mX4_term dd 0 0 [.ref 24, .int z0] (mkS x S) (fun v h => v = some (.int r) ∧ h = mkS x S')) (rec_X4_part : ST → Int32 → Option (Int32 × ST)) (hrec_X4_part : ∀ (S : ST) (z0 : Int32) (r : Int32) (S' : ST), rec_X4_part S z0 = some (r, S') → Ct mX4_part dd 0 0 [.ref 24, .int z0] (mkS x S) (fun v h => v = some (.int r) ∧ h = mkS x S')) (hB : 3 ≤ dd) (S : ST) (p1 : Int32) (r : Int32) (S' : ST) (hm : grfX4_sum_24 x rec_X4_test rec_X4_plain rec_X4_comparison rec_X4_inBrackets rec_X4_sum rec_X4_term rec_X4_part S p1 = some (r, S')) : Ct mX4_sum (dd + 1) 0 0 [.ref 24, .int p1] (mkS x S) (fun v h => v = some (.int r) ∧ h = mkS x S') :=
  Ct.of (lv := [some (.ref 24), some (.int p1), none, none, none]) rfl rfl rfl (show (_ : Nat) ≤ _ from Nat.le_of_ble_eq_true rfl) (fun G => rfl) (bpX4_sum_24_0 x (dd := dd) rec_X4_test hrec_X4_test rec_X4_plain hrec_X4_plain rec_X4_comparison hrec_X4_comparison rec_X4_inBrackets hrec_X4_inBrackets rec_X4_sum hrec_X4_sum rec_X4_term hrec_X4_term rec_X4_part hrec_X4_part hB S p1 r S' hm)
set_option maxHeartbeats 4000000 in
set_option maxRecDepth 20000 in
theorem bpX4_term_24_85 (x : XT) {dd : Nat} (rec_X4_test : ST → Int32 → Int32 → Option (Int32 × ST)) (hrec_X4_test : ∀ (S : ST) (z0 : Int32) (z1 : Int32) (r : Int32) (S' : ST), rec_X4_test S z0 z1 = some (r, S') → Ct mX4_test dd 0 0 [.ref 24, .int z0, .int z1] (mkS x S) (fun v h => v = some (.int r) ∧ h = mkS x S')) (rec_X4_plain : ST → Int32 → Option (Int32 × ST)) (hrec_X4_plain : ∀ (S : ST) (z0 : Int32) (r : Int32) (S' : ST), rec_X4_plain S z0 = some (r, S') → Ct mX4_plain dd 0 0 [.ref 24, .int z0] (mkS x S) (fun v h => v = some (.int r) ∧ h = mkS x S')) (rec_X4_comparison : ST → Int32 → Option (Int32 × ST)) (hrec_X4_comparison : ∀ (S : ST) (z0 : Int32) (r : Int32) (S' : ST), rec_X4_comparison S z0 = some (r, S') → Ct mX4_comparison dd 0 0 [.ref 24, .int z0] (mkS x S) (fun v h => v = some (.int r) ∧ h = mkS x S')) (rec_X4_inBrackets : ST → Int32 → Int32 → Option (Int32 × ST)) (hrec_X4_inBrackets : ∀ (S : ST) (z0 : Int32) (z1 : Int32) (r : Int32) (S' : ST), rec_X4_inBrackets S z0 z1 = some (r, S') → Ct mX4_inBrackets dd 0 0 [.ref 24, .int z0, .int z1] (mkS x S) (fun v h => v = some (.int r) ∧ h = mkS x S')) (rec_X4_sum : ST → Int32 → Option (Int32 × ST)) (hrec_X4_sum : ∀ (S : ST) (z0 : Int32) (r : Int32) (S' : ST), rec_X4_sum S z0 = some (r, S') → Ct mX4_sum dd 0 0 [.ref 24, .int z0] (mkS x S) (fun v h => v = some (.int r) ∧ h = mkS x S')) (rec_X4_term : ST → Int32 → Option (Int32 × ST)) (hrec_X4_term : ∀ (S : ST) (z0 : Int32) (r : Int32) (S' : ST), rec_X4_term S z0 = some (r, S') → Ct mX4_term dd 0 0 [.ref 24, .int z0] (mkS x S) (fun v h => v = some (.int r) ∧ h = mkS x S')) (rec_X4_part : ST → Int32 → Option (Int32 × ST)) (hrec_X4_part : ∀ (S : ST) (z0 : Int32) (r : Int32) (S' : ST), rec_X4_part S z0 = some (r, S') → Ct mX4_part dd 0 0 [.ref 24, .int z0] (mkS x S) (fun v h => v = some (.int r) ∧ h = mkS x S')) (hB : 3 ≤ dd)  (S : ST) (v2 : Int32) (r : Int32) (S' : ST) (hm : bfX4_term_24_85 x rec_X4_test rec_X4_plain rec_X4_comparison rec_X4_inBrackets rec_X4_sum rec_X4_term rec_X4_part  S v2 = some (r, S')) : Ev mX4_term (dd + 1) 0 0 85 [none, none, some (.int v2), none, none] [] (mkS x S) (fun v h => v = some (.int r) ∧ h = mkS x S') := by
    unfold bfX4_term_24_85 at hm
    refine Ev.steps tokX4_term 1 (P := True) (pc' := 86) (lv' := [none, none, some (.int v2), none, none]) (st' := [.int v2]) (h' := mkS x S) rfl trivial ?_
    obtain ⟨o1, hm⟩ := oblk hm
    cases hm
    exact Ev.retz tokX4_term rfl rfl (bbz_ok o1) ⟨rfl, rfl⟩
set_option maxHeartbeats 4000000 in
set_option maxRecDepth 20000 in
theorem bpX4_term_24_46 (x : XT) {dd : Nat} (rec_X4_test : ST → Int32 → Int32 → Option (Int32 × ST)) (hrec_X4_test : ∀ (S : ST) (z0 : Int32) (z1 : Int32) (r : Int32) (S' : ST), rec_X4_test S z0 z1 = some (r, S') → Ct mX4_test dd 0 0 [.ref 24, .int z0, .int z1] (mkS x S) (fun v h => v = some (.int r) ∧ h = mkS x S')) (rec_X4_plain : ST → Int32 → Option (Int32 × ST)) (hrec_X4_plain : ∀ (S : ST) (z0 : Int32) (r : Int32) (S' : ST), rec_X4_plain S z0 = some (r, S') → Ct mX4_plain dd 0 0 [.ref 24, .int z0] (mkS x S) (fun v h => v = some (.int r) ∧ h = mkS x S')) (rec_X4_comparison : ST → Int32 → Option (Int32 × ST)) (hrec_X4_comparison : ∀ (S : ST) (z0 : Int32) (r : Int32) (S' : ST), rec_X4_comparison S z0 = some (r, S') → Ct mX4_comparison dd 0 0 [.ref 24, .int z0] (mkS x S) (fun v h => v = some (.int r) ∧ h = mkS x S')) (rec_X4_inBrackets : ST → Int32 → Int32 → Option (Int32 × ST)) (hrec_X4_inBrackets : ∀ (S : ST) (z0 : Int32) (z1 : Int32) (r : Int32) (S' : ST), rec_X4_inBrackets S z0 z1 = some (r, S') → Ct mX4_inBrackets dd 0 0 [.ref 24, .int z0, .int z1] (mkS x S) (fun v h => v = some (.int r) ∧ h = mkS x S')) (rec_X4_sum : ST → Int32 → Option (Int32 × ST)) (hrec_X4_sum : ∀ (S : ST) (z0 : Int32) (r : Int32) (S' : ST), rec_X4_sum S z0 = some (r, S') → Ct mX4_sum dd 0 0 [.ref 24, .int z0] (mkS x S) (fun v h => v = some (.int r) ∧ h = mkS x S')) (rec_X4_term : ST → Int32 → Option (Int32 × ST)) (hrec_X4_term : ∀ (S : ST) (z0 : Int32) (r : Int32) (S' : ST), rec_X4_term S z0 = some (r, S') → Ct mX4_term dd 0 0 [.ref 24, .int z0] (mkS x S) (fun v h => v = some (.int r) ∧ h = mkS x S')) (rec_X4_part : ST → Int32 → Option (Int32 × ST)) (hrec_X4_part : ∀ (S : ST) (z0 : Int32) (r : Int32) (S' : ST), rec_X4_part S z0 = some (r, S') → Ct mX4_part dd 0 0 [.ref 24, .int z0] (mkS x S) (fun v h => v = some (.int r) ∧ h = mkS x S')) (hB : 3 ≤ dd) (k8 : ST → Int32 → Int32 → Int32 → Option (Int32 × ST)) (hk8 : ∀ (S : ST) (v1 : Int32) (v2 : Int32) (v3 : Int32) (r : Int32) (S' : ST), k8 S v1 v2 v3 = some (r, S') → Ev mX4_term (dd + 1) 0 0 8 [some (.ref 24), some (.int v1), some (.int v2), some (.int v3), none] [] (mkS x S) (fun v h => v = some (.int r) ∧ h = mkS x S')) (S : ST) (v1 : Int32) (v3 : Int32) (r : Int32) (S' : ST) (hm : bfX4_term_24_46 x rec_X4_test rec_X4_plain rec_X4_comparison rec_X4_inBrackets rec_X4_sum rec_X4_term rec_X4_part k8 S v1 v3 = some (r, S')) : Ev mX4_term (dd + 1) 0 0 46 [some (.ref 24), some (.int v1), none, some (.int v3), none] [] (mkS x S) (fun v h => v = some (.int r) ∧ h = mkS x S') := by
    unfold bfX4_term_24_46 at hm
    refine Ev.steps tokX4_term 1 (P := True) (pc' := 47) (lv' := [some (.ref 24), some (.int v1), none, some (.int v3), none]) (st' := [.ref 24]) (h' := mkS x S) rfl trivial ?_
    cases h1 : gfX4_here_24 x S with
    | none => rw [h1] at hm; cases hm
    | some q2 =>
      obtain ⟨r3, S4⟩ := q2
      rw [h1] at hm
      dsimp only at hm
      refine ev_callV (N := mX4_here) (d' := 1) (bc := 0) (bs := 0) (bc' := 0) (bs' := 0) (as := []) (rest := []) (a := 24) (ci := 4) (dcd tokX4_term rfl) okX4_here inX4_here seX4_here lk4_58 rfl (by omega) (Nat.le_of_ble_eq_true rfl) rfl ⟨by decide, rfl⟩ (gpX4_here_24 x S _ _ h1) (fun v h' hq hn => ?_)
      obtain ⟨rfl, rfl⟩ := hq
      refine Ev.steps tokX4_term 9 (P := True) (pc' := 64) (lv' := [some (.ref 24), some (.int v1), none, some (.int v3), some (.int r3)]) (st' := [.int v1, .ref 24]) (h' := mkS x ((u2 S4.1 24 6 ((S4.1 24 6) + 1)), S4.2.1, S4.2.2.1, S4.2.2.2)) rfl trivial ?_
      cases h5 : rec_X4_part ((u2 S4.1 24 6 ((S4.1 24 6) + 1)), S4.2.1, S4.2.2.1, S4.2.2.2) v1 with
      | none => rw [h5] at hm; cases hm
      | some q6 =>
        obtain ⟨r7, S8⟩ := q6
        rw [h5] at hm
        dsimp only at hm
        refine ev_callV (N := mX4_part) (d' := dd) (bc := 0) (bs := 0) (bc' := 0) (bs' := 0) (as := [.int v1]) (rest := []) (a := 24) (ci := 4) (dcd tokX4_term rfl) okX4_part inX4_part seX4_part lk4_152 rfl (by omega) (Nat.le_of_ble_eq_true rfl) rfl ⟨by decide, rfl⟩ (hrec_X4_part ((u2 S4.1 24 6 ((S4.1 24 6) + 1)), S4.2.1, S4.2.2.1, S4.2.2.2) v1 _ _ h5) (fun v h' hq hn => ?_)
        obtain ⟨rfl, rfl⟩ := hq
        refine Ev.steps tokX4_term 5 (P := True) (pc' := 75) (lv' := [some (.ref 24), some (.int v1), some (.int r7), some (.int v3), some (.int r3)]) (st' := [.int 0, .int r3, .ref 25]) (h' := mkS x S8) rfl trivial ?_
        cases h9 : gfX9_add_25 x S8 r3 0 with
        | none => rw [h9] at hm; cases hm
        | some q10 =>
          obtain ⟨r11, S12⟩ := q10
          rw [h9] at hm
          dsimp only at hm
          refine ev_callV (N := mX9_add) (d' := 1) (bc := 0) (bs := 0) (bc' := 0) (bs' := 0) (as := [.int r3, .int 0]) (rest := []) (a := 25) (ci := 9) (dcd tokX4_term rfl) okX9_add inX9_add seX9_add lk4_140 rfl (by omega) (Nat.le_of_ble_eq_true rfl) rfl ⟨by decide, rfl⟩ (gpX9_add_25 x S8 r3 0 _ _ h9) (fun v h' hq hn => ?_)
          obtain ⟨rfl, rfl⟩ := hq
          refine Ev.steps tokX4_term 3 (P := True) (pc' := 8) (lv' := [some (.ref 24), some (.int v1), some (.int r7), some (.int (v3 + 1)), some (.int r3)]) (st' := []) (h' := mkS x S12) rfl trivial ?_
          refine Ev.fgt (lv' := [some (.ref 24), some (.int v1), some (.int r7), some (.int (v3 + 1)), none]) ⟨rfl, rfl, rfl, rfl, trivial⟩ ?_
          exact hk8 S12 v1 r7 (v3 + 1) _ _ hm
set_option maxHeartbeats 4000000 in
set_option maxRecDepth 20000 in
theorem bpX4_term_24_8 (x : XT) {dd : Nat} (rec_X4_test : ST → Int32 → Int32 → Option (Int32 × ST)) (hrec_X4_test : ∀ (S : ST) (z0 : Int32) (z1 : Int32) (r : Int32) (S' : ST), rec_X4_test S z0 z1 = some (r, S') → Ct mX4_test dd 0 0 [.ref 24, .int z0, .int z1] (mkS x S) (fun v h => v = some (.int r) ∧ h = mkS x S')) (rec_X4_plain : ST → Int32 → Option (Int32 × ST)) (hrec_X4_plain : ∀ (S : ST) (z0 : Int32) (r : Int32) (S' : ST), rec_X4_plain S z0 = some (r, S') → Ct mX4_plain dd 0 0 [.ref 24, .int z0] (mkS x S) (fun v h => v = some (.int r) ∧ h = mkS x S')) (rec_X4_comparison : ST → Int32 → Option (Int32 × ST)) (hrec_X4_comparison : ∀ (S : ST) (z0 : Int32) (r : Int32) (S' : ST), rec_X4_comparison S z0 = some (r, S') → Ct mX4_comparison dd 0 0 [.ref 24, .int z0] (mkS x S) (fun v h => v = some (.int r) ∧ h = mkS x S')) (rec_X4_inBrackets : ST → Int32 → Int32 → Option (Int32 × ST)) (hrec_X4_inBrackets : ∀ (S : ST) (z0 : Int32) (z1 : Int32) (r : Int32) (S' : ST), rec_X4_inBrackets S z0 z1 = some (r, S') → Ct mX4_inBrackets dd 0 0 [.ref 24, .int z0, .int z1] (mkS x S) (fun v h => v = some (.int r) ∧ h = mkS x S')) (rec_X4_sum : ST → Int32 → Option (Int32 × ST)) (hrec_X4_sum : ∀ (S : ST) (z0 : Int32) (r : Int32) (S' : ST), rec_X4_sum S z0 = some (r, S') → Ct mX4_sum dd 0 0 [.ref 24, .int z0] (mkS x S) (fun v h => v = some (.int r) ∧ h = mkS x S')) (rec_X4_term : ST → Int32 → Option (Int32 × ST)) (hrec_X4_term : ∀ (S : ST) (z0 : Int32) (r : Int32) (S' : ST), rec_X4_term S z0 = some (r, S') → Ct mX4_term dd 0 0 [.ref 24, .int z0] (mkS x S) (fun v h => v = some (.int r) ∧ h = mkS x S')) (rec_X4_part : ST → Int32 → Option (Int32 × ST)) (hrec_X4_part : ∀ (S : ST) (z0 : Int32) (r : Int32) (S' : ST), rec_X4_part S z0 = some (r, S') → Ct mX4_part dd 0 0 [.ref 24, .int z0] (mkS x S) (fun v h => v = some (.int r) ∧ h = mkS x S')) (hB : 3 ≤ dd) (k8 : ST → Int32 → Int32 → Int32 → Option (Int32 × ST)) (hk8 : ∀ (S : ST) (v1 : Int32) (v2 : Int32) (v3 : Int32) (r : Int32) (S' : ST), k8 S v1 v2 v3 = some (r, S') → Ev mX4_term (dd + 1) 0 0 8 [some (.ref 24), some (.int v1), some (.int v2), some (.int v3), none] [] (mkS x S) (fun v h => v = some (.int r) ∧ h = mkS x S')) (S : ST) (v1 : Int32) (v2 : Int32) (v3 : Int32) (r : Int32) (S' : ST) (hm : bfX4_term_24_8 x rec_X4_test rec_X4_plain rec_X4_comparison rec_X4_inBrackets rec_X4_sum rec_X4_term rec_X4_part k8 S v1 v2 v3 = some (r, S')) : Ev mX4_term (dd + 1) 0 0 8 [some (.ref 24), some (.int v1), some (.int v2), some (.int v3), none] [] (mkS x S) (fun v h => v = some (.int r) ∧ h = mkS x S') := by
    unfold bfX4_term_24_8 at hm
    refine Ev.steps tokX4_term 3 (P := True) (pc' := if 400 < v3 then 85 else 15) (lv' := [some (.ref 24), some (.int v1), some (.int v2), some (.int v3), none]) (st' := []) (h' := mkS x S) rfl trivial ?_
    refine Ev.ite (fun c1 => ?_) (fun c1 => ?_)
    · rw [if_pos c1] at hm
      refine Ev.fgt (lv' := [none, none, some (.int v2), none, none]) ⟨rfl, trivial⟩ ?_
      exact bpX4_term_24_85 x (dd := dd) rec_X4_test hrec_X4_test rec_X4_plain hrec_X4_plain rec_X4_comparison hrec_X4_comparison rec_X4_inBrackets hrec_X4_inBrackets rec_X4_sum hrec_X4_sum rec_X4_term hrec_X4_term rec_X4_part hrec_X4_part hB S v2 _ _ hm
    · rw [if_neg c1] at hm
      refine Ev.steps tokX4_term 2 (P := True) (pc' := if v2 = 0 then 85 else 19) (lv' := [some (.ref 24), some (.int v1), some (.int v2), some (.int v3), none]) (st' := []) (h' := mkS x S) rfl trivial ?_
      refine Ev.ite (fun c2 => ?_) (fun c2 => ?_)
      · rw [if_pos c2] at hm
        refine Ev.fgt (lv' := [none, none, some (.int v2), none, none]) ⟨rfl, trivial⟩ ?_
        exact bpX4_term_24_85 x (dd := dd) rec_X4_test hrec_X4_test rec_X4_plain hrec_X4_plain rec_X4_comparison hrec_X4_comparison rec_X4_inBrackets hrec_X4_inBrackets rec_X4_sum hrec_X4_sum rec_X4_term hrec_X4_term rec_X4_part hrec_X4_part hB S v2 _ _ hm
      · rw [if_neg c2] at hm
        refine Ev.steps tokX4_term 1 (P := True) (pc' := 20) (lv' := [some (.ref 24), some (.int v1), some (.int v2), some (.int v3), none]) (st' := [.ref 24]) (h' := mkS x S) rfl trivial ?_
        cases h3 : gfX4_here_24 x S with
        | none => rw [h3] at hm; cases hm
        | some q4 =>
          obtain ⟨r5, S6⟩ := q4
          rw [h3] at hm
          dsimp only at hm
          refine ev_callV (N := mX4_here) (d' := 1) (bc := 0) (bs := 0) (bc' := 0) (bs' := 0) (as := []) (rest := []) (a := 24) (ci := 4) (dcd tokX4_term rfl) okX4_here inX4_here seX4_here lk4_58 rfl (by omega) (Nat.le_of_ble_eq_true rfl) rfl ⟨by decide, rfl⟩ (gpX4_here_24 x S _ _ h3) (fun v h' hq hn => ?_)
          obtain ⟨rfl, rfl⟩ := hq
          refine Ev.steps tokX4_term 2 (P := True) (pc' := if r5 = 42 then 46 else 28) (lv' := [some (.ref 24), some (.int v1), some (.int v2), some (.int v3), none]) (st' := []) (h' := mkS x S6) rfl trivial ?_
          refine Ev.ite (fun c7 => ?_) (fun c7 => ?_)
          · rw [if_pos c7] at hm
            refine Ev.fgt (lv' := [some (.ref 24), some (.int v1), none, some (.int v3), none]) ⟨rfl, rfl, rfl, trivial⟩ ?_
            exact bpX4_term_24_46 x (dd := dd) rec_X4_test hrec_X4_test rec_X4_plain hrec_X4_plain rec_X4_comparison hrec_X4_comparison rec_X4_inBrackets hrec_X4_inBrackets rec_X4_sum hrec_X4_sum rec_X4_term hrec_X4_term rec_X4_part hrec_X4_part hB k8 hk8 S6 v1 v3 _ _ hm
          · rw [if_neg c7] at hm
            refine Ev.steps tokX4_term 1 (P := True) (pc' := 29) (lv' := [some (.ref 24), some (.int v1), some (.int v2), some (.int v3), none]) (st' := [.ref 24]) (h' := mkS x S6) rfl trivial ?_
            cases h8 : gfX4_here_24 x S6 with
            | none => rw [h8] at hm; cases hm
            | some q9 =>
              obtain ⟨r10, S11⟩ := q9
              rw [h8] at hm
              dsimp only at hm
              refine ev_callV (N := mX4_here) (d' := 1) (bc := 0) (bs := 0) (bc' := 0) (bs' := 0) (as := []) (rest := []) (a := 24) (ci := 4) (dcd tokX4_term rfl) okX4_here inX4_here seX4_here lk4_58 rfl (by omega) (Nat.le_of_ble_eq_true rfl) rfl ⟨by decide, rfl⟩ (gpX4_here_24 x S6 _ _ h8) (fun v h' hq hn => ?_)
              obtain ⟨rfl, rfl⟩ := hq
              refine Ev.steps tokX4_term 2 (P := True) (pc' := if r10 = 47 then 46 else 37) (lv' := [some (.ref 24), some (.int v1), some (.int v2), some (.int v3), none]) (st' := []) (h' := mkS x S11) rfl trivial ?_
              refine Ev.ite (fun c12 => ?_) (fun c12 => ?_)
              · rw [if_pos c12] at hm
                refine Ev.fgt (lv' := [some (.ref 24), some (.int v1), none, some (.int v3), none]) ⟨rfl, rfl, rfl, trivial⟩ ?_
                exact bpX4_term_24_46 x (dd := dd) rec_X4_test hrec_X4_test rec_X4_plain hrec_X4_plain rec_X4_comparison hrec_X4_comparison rec_X4_inBrackets hrec_X4_inBrackets rec_X4_sum hrec_X4_sum rec_X4_term hrec_X4_term rec_X4_part hrec_X4_part hB k8 hk8 S11 v1 v3 _ _ hm
              · rw [if_neg c12] at hm
                refine Ev.steps tokX4_term 1 (P := True) (pc' := 38) (lv' := [some (.ref 24), some (.int v1), some (.int v2), some (.int v3), none]) (st' := [.ref 24]) (h' := mkS x S11) rfl trivial ?_
                cases h13 : gfX4_here_24 x S11 with
                | none => rw [h13] at hm; cases hm
                | some q14 =>
                  obtain ⟨r15, S16⟩ := q14
                  rw [h13] at hm
                  dsimp only at hm
                  refine ev_callV (N := mX4_here) (d' := 1) (bc := 0) (bs := 0) (bc' := 0) (bs' := 0) (as := []) (rest := []) (a := 24) (ci := 4) (dcd tokX4_term rfl) okX4_here inX4_here seX4_here lk4_58 rfl (by omega) (Nat.le_of_ble_eq_true rfl) rfl ⟨by decide, rfl⟩ (gpX4_here_24 x S11 _ _ h13) (fun v h' hq hn => ?_)
                  obtain ⟨rfl, rfl⟩ := hq
                  refine Ev.steps tokX4_term 2 (P := True) (pc' := if ¬ r15 = 37 then 85 else 46) (lv' := [some (.ref 24), some (.int v1), some (.int v2), some (.int v3), none]) (st' := []) (h' := mkS x S16) rfl trivial ?_
                  refine Ev.ite (fun c17 => ?_) (fun c17 => ?_)
                  · rw [if_pos c17] at hm
                    refine Ev.fgt (lv' := [none, none, some (.int v2), none, none]) ⟨rfl, trivial⟩ ?_
                    exact bpX4_term_24_85 x (dd := dd) rec_X4_test hrec_X4_test rec_X4_plain hrec_X4_plain rec_X4_comparison hrec_X4_comparison rec_X4_inBrackets hrec_X4_inBrackets rec_X4_sum hrec_X4_sum rec_X4_term hrec_X4_term rec_X4_part hrec_X4_part hB S16 v2 _ _ hm
                  · rw [if_neg c17] at hm
                    refine Ev.fgt (lv' := [some (.ref 24), some (.int v1), none, some (.int v3), none]) ⟨rfl, rfl, rfl, trivial⟩ ?_
                    exact bpX4_term_24_46 x (dd := dd) rec_X4_test hrec_X4_test rec_X4_plain hrec_X4_plain rec_X4_comparison hrec_X4_comparison rec_X4_inBrackets hrec_X4_inBrackets rec_X4_sum hrec_X4_sum rec_X4_term hrec_X4_term rec_X4_part hrec_X4_part hB k8 hk8 S16 v1 v3 _ _ hm
theorem lpX4_term_24_8 (x : XT) {dd : Nat} (rec_X4_test : ST → Int32 → Int32 → Option (Int32 × ST)) (hrec_X4_test : ∀ (S : ST) (z0 : Int32) (z1 : Int32) (r : Int32) (S' : ST), rec_X4_test S z0 z1 = some (r, S') → Ct mX4_test dd 0 0 [.ref 24, .int z0, .int z1] (mkS x S) (fun v h => v = some (.int r) ∧ h = mkS x S')) (rec_X4_plain : ST → Int32 → Option (Int32 × ST)) (hrec_X4_plain : ∀ (S : ST) (z0 : Int32) (r : Int32) (S' : ST), rec_X4_plain S z0 = some (r, S') → Ct mX4_plain dd 0 0 [.ref 24, .int z0] (mkS x S) (fun v h => v = some (.int r) ∧ h = mkS x S')) (rec_X4_comparison : ST → Int32 → Option (Int32 × ST)) (hrec_X4_comparison : ∀ (S : ST) (z0 : Int32) (r : Int32) (S' : ST), rec_X4_comparison S z0 = some (r, S') → Ct mX4_comparison dd 0 0 [.ref 24, .int z0] (mkS x S) (fun v h => v = some (.int r) ∧ h = mkS x S')) (rec_X4_inBrackets : ST → Int32 → Int32 → Option (Int32 × ST)) (hrec_X4_inBrackets : ∀ (S : ST) (z0 : Int32) (z1 : Int32) (r : Int32) (S' : ST), rec_X4_inBrackets S z0 z1 = some (r, S') → Ct mX4_inBrackets dd 0 0 [.ref 24, .int z0, .int z1] (mkS x S) (fun v h => v = some (.int r) ∧ h = mkS x S')) (rec_X4_sum : ST → Int32 → Option (Int32 × ST)) (hrec_X4_sum : ∀ (S : ST) (z0 : Int32) (r : Int32) (S' : ST), rec_X4_sum S z0 = some (r, S') → Ct mX4_sum dd 0 0 [.ref 24, .int z0] (mkS x S) (fun v h => v = some (.int r) ∧ h = mkS x S')) (rec_X4_term : ST → Int32 → Option (Int32 × ST)) (hrec_X4_term : ∀ (S : ST) (z0 : Int32) (r : Int32) (S' : ST), rec_X4_term S z0 = some (r, S') → Ct mX4_term dd 0 0 [.ref 24, .int z0] (mkS x S) (fun v h => v = some (.int r) ∧ h = mkS x S')) (rec_X4_part : ST → Int32 → Option (Int32 × ST)) (hrec_X4_part : ∀ (S : ST) (z0 : Int32) (r : Int32) (S' : ST), rec_X4_part S z0 = some (r, S') → Ct mX4_part dd 0 0 [.ref 24, .int z0] (mkS x S) (fun v h => v = some (.int r) ∧ h = mkS x S')) (hB : 3 ≤ dd)  : ∀ (n : Nat) (S : ST) (v1 : Int32) (v2 : Int32) (v3 : Int32) (r : Int32) (S' : ST), lfX4_term_24_8 x rec_X4_test rec_X4_plain rec_X4_comparison rec_X4_inBrackets rec_X4_sum rec_X4_term rec_X4_part  n S v1 v2 v3 = some (r, S') → Ev mX4_term (dd + 1) 0 0 8 [some (.ref 24), some (.int v1), some (.int v2), some (.int v3), none] [] (mkS x S) (fun v h => v = some (.int r) ∧ h = mkS x S')
  | 0, _, _, _, _, _, _, hm => by cases hm
  | n + 1, S, v1, v2, v3, r, S', hm => bpX4_term_24_8 x (dd := dd) rec_X4_test hrec_X4_test rec_X4_plain hrec_X4_plain rec_X4_comparison hrec_X4_comparison rec_X4_inBrackets hrec_X4_inBrackets rec_X4_sum hrec_X4_sum rec_X4_term hrec_X4_term rec_X4_part hrec_X4_part hB (lfX4_term_24_8 x rec_X4_test rec_X4_plain rec_X4_comparison rec_X4_inBrackets rec_X4_sum rec_X4_term rec_X4_part  n) (lpX4_term_24_8 x (dd := dd) rec_X4_test hrec_X4_test rec_X4_plain hrec_X4_plain rec_X4_comparison hrec_X4_comparison rec_X4_inBrackets hrec_X4_inBrackets rec_X4_sum hrec_X4_sum rec_X4_term hrec_X4_term rec_X4_part hrec_X4_part hB  n) S v1 v2 v3 r S' hm
set_option maxHeartbeats 4000000 in
set_option maxRecDepth 20000 in
theorem bpX4_term_24_0 (x : XT) {dd : Nat} (rec_X4_test : ST → Int32 → Int32 → Option (Int32 × ST)) (hrec_X4_test : ∀ (S : ST) (z0 : Int32) (z1 : Int32) (r : Int32) (S' : ST), rec_X4_test S z0 z1 = some (r, S') → Ct mX4_test dd 0 0 [.ref 24, .int z0, .int z1] (mkS x S) (fun v h => v = some (.int r) ∧ h = mkS x S')) (rec_X4_plain : ST → Int32 → Option (Int32 × ST)) (hrec_X4_plain : ∀ (S : ST) (z0 : Int32) (r : Int32) (S' : ST), rec_X4_plain S z0 = some (r, S') → Ct mX4_plain dd 0 0 [.ref 24, .int z0] (mkS x S) (fun v h => v = some (.int r) ∧ h = mkS x S')) (rec_X4_comparison : ST → Int32 → Option (Int32 × ST)) (hrec_X4_comparison : ∀ (S : ST) (z0 : Int32) (r : Int32) (S' : ST), rec_X4_comparison S z0 = some (r, S') → Ct mX4_comparison dd 0 0 [.ref 24, .int z0] (mkS x S) (fun v h => v = some (.int r) ∧ h = mkS x S')) (rec_X4_inBrackets : ST → Int32 → Int32 → Option (Int32 × ST)) (hrec_X4_inBrackets : ∀ (S : ST) (z0 : Int32) (z1 : Int32) (r : Int32) (S' : ST), rec_X4_inBrackets S z0 z1 = some (r, S') → Ct mX4_inBrackets dd 0 0 [.ref 24, .int z0, .int z1] (mkS x S) (fun v h => v = some (.int r) ∧ h = mkS x S')) (rec_X4_sum : ST → Int32 → Option (Int32 × ST)) (hrec_X4_sum : ∀ (S : ST) (z0 : Int32) (r : Int32) (S' : ST), rec_X4_sum S z0 = some (r, S') → Ct mX4_sum dd 0 0 [.ref 24, .int z0] (mkS x S) (fun v h => v = some (.int r) ∧ h = mkS x S')) (rec_X4_term : ST → Int32 → Option (Int32 × ST)) (hrec_X4_term : ∀ (S : ST) (z0 : Int32) (r : Int32) (S' : ST), rec_X4_term S z0 = some (r, S') → Ct mX4_term dd 0 0 [.ref 24, .int z0] (mkS x S) (fun v h => v = some (.int r) ∧ h = mkS x S')) (rec_X4_part : ST → Int32 → Option (Int32 × ST)) (hrec_X4_part : ∀ (S : ST) (z0 : Int32) (r : Int32) (S' : ST), rec_X4_part S z0 = some (r, S') → Ct mX4_part dd 0 0 [.ref 24, .int z0] (mkS x S) (fun v h => v = some (.int r) ∧ h = mkS x S')) (hB : 3 ≤ dd)  (S : ST) (p1 : Int32) (r : Int32) (S' : ST) (hm : bfX4_term_24_0 x rec_X4_test rec_X4_plain rec_X4_comparison rec_X4_inBrackets rec_X4_sum rec_X4_term rec_X4_part  S p1 = some (r, S')) : Ev mX4_term (dd + 1) 0 0 0 [some (.ref 24), some (.int p1), none, none, none] [] (mkS x S) (fun v h => v = some (.int r) ∧ h = mkS x S') := by
    unfold bfX4_term_24_0 at hm
    refine Ev.steps tokX4_term 2 (P := True) (pc' := 2) (lv' := [some (.ref 24), some (.int p1), none, none, none]) (st' := [.int p1, .ref 24]) (h' := mkS x S) rfl trivial ?_
    cases h1 : rec_X4_part S p1 with
    | none => rw [h1] at hm; cases hm
    | some q2 =>
      obtain ⟨r3, S4⟩ := q2
      rw [h1] at hm
      dsimp only at hm
      refine ev_callV (N := mX4_part) (d' := dd) (bc := 0) (bs := 0) (bc' := 0) (bs' := 0) (as := [.int p1]) (rest := []) (a := 24) (ci := 4) (dcd tokX4_term rfl) okX4_part inX4_part seX4_part lk4_152 rfl (by omega) (Nat.le_of_ble_eq_true rfl) rfl ⟨by decide, rfl⟩ (hrec_X4_part S p1 _ _ h1) (fun v h' hq hn => ?_)
      obtain ⟨rfl, rfl⟩ := hq
      refine Ev.steps tokX4_term 3 (P := True) (pc' := 8) (lv' := [some (.ref 24), some (.int p1), some (.int r3), some (.int 0), none]) (st' := []) (h' := mkS x S4) rfl trivial ?_
      exact lpX4_term_24_8 x (dd := dd) rec_X4_test hrec_X4_test rec_X4_plain hrec_X4_plain rec_X4_comparison hrec_X4_comparison rec_X4_inBrackets hrec_X4_inBrackets rec_X4_sum hrec_X4_sum rec_X4_term hrec_X4_term rec_X4_part hrec_X4_part hB  20000 S4 p1 r3 0 _ _ hm
theorem grpX4_term_24 (x : XT) {dd : Nat} (rec_X4_test : ST → Int32 → Int32 → Option (Int32 × ST)) (hrec_X4_test : ∀ (S : ST) (z0 : Int32) (z1 : Int32) (r : Int32) (S' : ST), rec_X4_test S z0 z1 = some (r, S') → Ct mX4_test dd 0 0 [.ref 24, .int z0, .int z1] (mkS x S) (fun v h => v = some (.int r) ∧ h = mkS x S')) (rec_X4_plain : ST → Int32 → Option (Int32 × ST)) (hrec_X4_plain : ∀ (S : ST) (z0 : Int32) (r : Int32) (S' : ST), rec_X4_plain S z0 = some (r, S') → Ct mX4_plain dd 0 0 [.ref 24, .int z0] (mkS x S) (fun v h => v = some (.int r) ∧ h = mkS x S')) (rec_X4_comparison : ST → Int32 → Option (Int32 × ST)) (hrec_X4_comparison : ∀ (S : ST) (z0 : Int32) (r : Int32) (S' : ST), rec_X4_comparison S z0 = some (r, S') → Ct mX4_comparison dd 0 0 [.ref 24, .int z0] (mkS x S) (fun v h => v = some (.int r) ∧ h = mkS x S')) (rec_X4_inBrackets : ST → Int32 → Int32 → Option (Int32 × ST)) (hrec_X4_inBrackets : ∀ (S : ST) (z0 : Int32) (z1 : Int32) (r : Int32) (S' : ST), rec_X4_inBrackets S z0 z1 = some (r, S') → Ct mX4_inBrackets dd 0 0 [.ref 24, .int z0, .int z1] (mkS x S) (fun v h => v = some (.int r) ∧ h = mkS x S')) (rec_X4_sum : ST → Int32 → Option (Int32 × ST)) (hrec_X4_sum : ∀ (S : ST) (z0 : Int32) (r : Int32) (S' : ST), rec_X4_sum S z0 = some (r, S') → Ct mX4_sum dd 0 0 [.ref 24, .int z0] (mkS x S) (fun v h => v = some (.int r) ∧ h = mkS x S')) (rec_X4_term : ST → Int32 → Option (Int32 × ST)) (hrec_X4_term : ∀ (S : ST) (z0 : Int32) (r : Int32) (S' : ST), rec_X4_term S z0 = some (r, S') → Ct mX4_term dd 0 0 [.ref 24, .int z0] (mkS x S) (fun v h => v = some (.int r) ∧ h = mkS x S')) (rec_X4_part : ST → Int32 → Option (Int32 × ST)) (hrec_X4_part : ∀ (S : ST) (z0 : Int32) (r : Int32) (S' : ST), rec_X4_part S z0 = some (r, S') → Ct mX4_part dd 0 0 [.ref 24, .int z0] (mkS x S) (fun v h => v = some (.int r) ∧ h = mkS x S')) (hB : 3 ≤ dd) (S : ST) (p1 : Int32) (r : Int32) (S' : ST) (hm : grfX4_term_24 x rec_X4_test rec_X4_plain rec_X4_comparison rec_X4_inBrackets rec_X4_sum rec_X4_term rec_X4_part S p1 = some (r, S')) : Ct mX4_term (dd + 1) 0 0 [.ref 24, .int p1] (mkS x S) (fun v h => v = some (.int r) ∧ h = mkS x S') :=
  Ct.of (lv := [some (.ref 24), some (.int p1), none, none, none]) rfl rfl rfl (show (_ : Nat) ≤ _ from Nat.le_of_ble_eq_true rfl) (fun G => rfl) (bpX4_term_24_0 x (dd := dd) rec_X4_test hrec_X4_test rec_X4_plain hrec_X4_plain rec_X4_comparison hrec_X4_comparison rec_X4_inBrackets hrec_X4_inBrackets rec_X4_sum hrec_X4_sum rec_X4_term hrec_X4_term rec_X4_part hrec_X4_part hB S p1 r S' hm)
set_option maxHeartbeats 4000000 in
set_option maxRecDepth 20000 in
theorem bpX4_part_24_121 (x : XT) {dd : Nat} (rec_X4_test : ST → Int32 → Int32 → Option (Int32 × ST)) (hrec_X4_test : ∀ (S : ST) (z0 : Int32) (z1 : Int32) (r : Int32) (S' : ST), rec_X4_test S z0 z1 = some (r, S') → Ct mX4_test dd 0 0 [.ref 24, .int z0, .int z1] (mkS x S) (fun v h => v = some (.int r) ∧ h = mkS x S')) (rec_X4_plain : ST → Int32 → Option (Int32 × ST)) (hrec_X4_plain : ∀ (S : ST) (z0 : Int32) (r : Int32) (S' : ST), rec_X4_plain S z0 = some (r, S') → Ct mX4_plain dd 0 0 [.ref 24, .int z0] (mkS x S) (fun v h => v = some (.int r) ∧ h = mkS x S')) (rec_X4_comparison : ST → Int32 → Option (Int32 × ST)) (hrec_X4_comparison : ∀ (S : ST) (z0 : Int32) (r : Int32) (S' : ST), rec_X4_comparison S z0 = some (r, S') → Ct mX4_comparison dd 0 0 [.ref 24, .int z0] (mkS x S) (fun v h => v = some (.int r) ∧ h = mkS x S')) (rec_X4_inBrackets : ST → Int32 → Int32 → Option (Int32 × ST)) (hrec_X4_inBrackets : ∀ (S : ST) (z0 : Int32) (z1 : Int32) (r : Int32) (S' : ST), rec_X4_inBrackets S z0 z1 = some (r, S') → Ct mX4_inBrackets dd 0 0 [.ref 24, .int z0, .int z1] (mkS x S) (fun v h => v = some (.int r) ∧ h = mkS x S')) (rec_X4_sum : ST → Int32 → Option (Int32 × ST)) (hrec_X4_sum : ∀ (S : ST) (z0 : Int32) (r : Int32) (S' : ST), rec_X4_sum S z0 = some (r, S') → Ct mX4_sum dd 0 0 [.ref 24, .int z0] (mkS x S) (fun v h => v = some (.int r) ∧ h = mkS x S')) (rec_X4_term : ST → Int32 → Option (Int32 × ST)) (hrec_X4_term : ∀ (S : ST) (z0 : Int32) (r : Int32) (S' : ST), rec_X4_term S z0 = some (r, S') → Ct mX4_term dd 0 0 [.ref 24, .int z0] (mkS x S) (fun v h => v = some (.int r) ∧ h = mkS x S')) (rec_X4_part : ST → Int32 → Option (Int32 × ST)) (hrec_X4_part : ∀ (S : ST) (z0 : Int32) (r : Int32) (S' : ST), rec_X4_part S z0 = some (r, S') → Ct mX4_part dd 0 0 [.ref 24, .int z0] (mkS x S) (fun v h => v = some (.int r) ∧ h = mkS x S')) (hB : 3 ≤ dd)  (S : ST) (t0 : Int32) (r : Int32) (S' : ST) (hm : bfX4_part_24_121 x rec_X4_test rec_X4_plain rec_X4_comparison rec_X4_inBrackets rec_X4_sum rec_X4_term rec_X4_part  S t0 = some (r, S')) : Ev mX4_part (dd + 1) 0 0 121 [some (.ref 24), none, none] [.int t0] (mkS x S) (fun v h => v = some (.int r) ∧ h = mkS x S') := by
    unfold bfX4_part_24_121 at hm
    refine Ev.steps tokX4_part 4 (P := True) (pc' := if ¬ t0 = (-1) then 132 else 127) (lv' := [some (.ref 24), none, some (.int t0)]) (st' := []) (h' := mkS x S) rfl trivial ?_
    refine Ev.ite (fun c1 => ?_) (fun c1 => ?_)
    · rw [if_pos c1] at hm
      refine Ev.steps tokX4_part 4 (P := True) (pc' := 140) (lv' := [some (.ref 24), none, some (.int t0)]) (st' := [.int t0, .int 259, .ref 25]) (h' := mkS x S) rfl trivial ?_
      cases h2 : gfX9_add_25 x S 259 t0 with
      | none => rw [h2] at hm; cases hm
      | some q3 =>
        obtain ⟨r4, S5⟩ := q3
        rw [h2] at hm
        dsimp only at hm
        refine ev_callV (N := mX9_add) (d' := 1) (bc := 0) (bs := 0) (bc' := 0) (bs' := 0) (as := [.int 259, .int t0]) (rest := []) (a := 25) (ci := 9) (dcd tokX4_part rfl) okX9_add inX9_add seX9_add lk4_140 rfl (by omega) (Nat.le_of_ble_eq_true rfl) rfl ⟨by decide, rfl⟩ (gpX9_add_25 x S 259 t0 _ _ h2) (fun v h' hq hn => ?_)
        obtain ⟨rfl, rfl⟩ := hq
        refine Ev.steps tokX4_part 8 (P := True) (pc' := 155) (lv' := [some (.ref 24), none, some (.int t0)]) (st' := [.int 1]) (h' := mkS x ((u2 S5.1 24 6 ((S5.1 24 6) + 1)), S5.2.1, S5.2.2.1, S5.2.2.2)) rfl trivial ?_
        cases hm
        exact Ev.retz tokX4_part rfl rfl (Or.inr rfl) ⟨rfl, rfl⟩
    · rw [if_neg c1] at hm
      refine Ev.steps tokX4_part 1 (P := True) (pc' := 128) (lv' := [some (.ref 24), none, some (.int t0)]) (st' := [.ref 24]) (h' := mkS x S) rfl trivial ?_
      cases h6 : gfX4_faulty_24 x S with
      | none => rw [h6] at hm; cases hm
      | some q7 =>
        obtain ⟨r8, S9⟩ := q7
        rw [h6] at hm
        dsimp only at hm
        refine ev_callV (N := mX4_faulty) (d' := 1) (bc := 0) (bs := 0) (bc' := 0) (bs' := 0) (as := []) (rest := []) (a := 24) (ci := 4) (dcd tokX4_part rfl) okX4_faulty inX4_faulty seX4_faulty lk4_62 rfl (by omega) (Nat.le_of_ble_eq_true rfl) rfl ⟨by decide, rfl⟩ (gpX4_faulty_24 x S _ _ h6) (fun v h' hq hn => ?_)
        obtain ⟨rfl, rfl⟩ := hq
        obtain ⟨o10, hm⟩ := oblk hm
        cases hm
        exact Ev.retz tokX4_part rfl rfl (bbz_ok o10) ⟨rfl, rfl⟩
set_option maxHeartbeats 4000000 in
set_option maxRecDepth 20000 in
theorem bpX4_part_24_0 (x : XT) {dd : Nat} (rec_X4_test : ST → Int32 → Int32 → Option (Int32 × ST)) (hrec_X4_test : ∀ (S : ST) (z0 : Int32) (z1 : Int32) (r : Int32) (S' : ST), rec_X4_test S z0 z1 = some (r, S') → Ct mX4_test dd 0 0 [.ref 24, .int z0, .int z1] (mkS x S) (fun v h => v = some (.int r) ∧ h = mkS x S')) (rec_X4_plain : ST → Int32 → Option (Int32 × ST)) (hrec_X4_plain : ∀ (S : ST) (z0 : Int32) (r : Int32) (S' : ST), rec_X4_plain S z0 = some (r, S') → Ct mX4_plain dd 0 0 [.ref 24, .int z0] (mkS x S) (fun v h => v = some (.int r) ∧ h = mkS x S')) (rec_X4_comparison : ST → Int32 → Option (Int32 × ST)) (hrec_X4_comparison : ∀ (S : ST) (z0 : Int32) (r : Int32) (S' : ST), rec_X4_comparison S z0 = some (r, S') → Ct mX4_comparison dd 0 0 [.ref 24, .int z0] (mkS x S) (fun v h => v = some (.int r) ∧ h = mkS x S')) (rec_X4_inBrackets : ST → Int32 → Int32 → Option (Int32 × ST)) (hrec_X4_inBrackets : ∀ (S : ST) (z0 : Int32) (z1 : Int32) (r : Int32) (S' : ST), rec_X4_inBrackets S z0 z1 = some (r, S') → Ct mX4_inBrackets dd 0 0 [.ref 24, .int z0, .int z1] (mkS x S) (fun v h => v = some (.int r) ∧ h = mkS x S')) (rec_X4_sum : ST → Int32 → Option (Int32 × ST)) (hrec_X4_sum : ∀ (S : ST) (z0 : Int32) (r : Int32) (S' : ST), rec_X4_sum S z0 = some (r, S') → Ct mX4_sum dd 0 0 [.ref 24, .int z0] (mkS x S) (fun v h => v = some (.int r) ∧ h = mkS x S')) (rec_X4_term : ST → Int32 → Option (Int32 × ST)) (hrec_X4_term : ∀ (S : ST) (z0 : Int32) (r : Int32) (S' : ST), rec_X4_term S z0 = some (r, S') → Ct mX4_term dd 0 0 [.ref 24, .int z0] (mkS x S) (fun v h => v = some (.int r) ∧ h = mkS x S')) (rec_X4_part : ST → Int32 → Option (Int32 × ST)) (hrec_X4_part : ∀ (S : ST) (z0 : Int32) (r : Int32) (S' : ST), rec_X4_part S z0 = some (r, S') → Ct mX4_part dd 0 0 [.ref 24, .int z0] (mkS x S) (fun v h => v = some (.int r) ∧ h = mkS x S')) (hB : 3 ≤ dd)  (S : ST) (p1 : Int32) (r : Int32) (S' : ST) (hm : bfX4_part_24_0 x rec_X4_test rec_X4_plain rec_X4_comparison rec_X4_inBrackets rec_X4_sum rec_X4_term rec_X4_part  S p1 = some (r, S')) : Ev mX4_part (dd + 1) 0 0 0 [some (.ref 24), some (.int p1), none] [] (mkS x S) (fun v h => v = some (.int r) ∧ h = mkS x S') := by
    unfold bfX4_part_24_0 at hm
    refine Ev.steps tokX4_part 1 (P := True) (pc' := 1) (lv' := [some (.ref 24), some (.int p1), none]) (st' := [.ref 24]) (h' := mkS x S) rfl trivial ?_
    cases h1 : gfX4_here_24 x S with
    | none => rw [h1] at hm; cases hm
    | some q2 =>
      obtain ⟨r3, S4⟩ := q2
      rw [h1] at hm
      dsimp only at hm
      refine ev_callV (N := mX4_here) (d' := 1) (bc := 0) (bs := 0) (bc' := 0) (bs' := 0) (as := []) (rest := []) (a := 24) (ci := 4) (dcd tokX4_part rfl) okX4_here inX4_here seX4_here lk4_58 rfl (by omega) (Nat.le_of_ble_eq_true rfl) rfl ⟨by decide, rfl⟩ (gpX4_here_24 x S _ _ h1) (fun v h' hq hn => ?_)
      obtain ⟨rfl, rfl⟩ := hq
      refine Ev.steps tokX4_part 2 (P := True) (pc' := if ¬ r3 = 91 then 17 else 9) (lv' := [some (.ref 24), some (.int p1), none]) (st' := []) (h' := mkS x S4) rfl trivial ?_
      refine Ev.ite (fun c5 => ?_) (fun c5 => ?_)
      · rw [if_pos c5] at hm
        refine Ev.steps tokX4_part 4 (P := True) (pc' := if (S4.1 24 7) < 50 then 31 else 26) (lv' := [some (.ref 24), some (.int p1), none]) (st' := []) (h' := mkS x S4) rfl trivial ?_
        refine Ev.ite (fun c6 => ?_) (fun c6 => ?_)
        · rw [if_pos c6] at hm
          refine Ev.steps tokX4_part 7 (P := True) (pc' := 42) (lv' := [some (.ref 24), some (.int p1), none]) (st' := [.ref 24]) (h' := mkS x ((u2 S4.1 24 7 ((S4.1 24 7) + 1)), S4.2.1, S4.2.2.1, S4.2.2.2)) rfl trivial ?_
          cases h7 : gfX4_here_24 x ((u2 S4.1 24 7 ((S4.1 24 7) + 1)), S4.2.1, S4.2.2.1, S4.2.2.2) with
          | none => rw [h7] at hm; cases hm
          | some q8 =>
            obtain ⟨r9, S10⟩ := q8
            rw [h7] at hm
            dsimp only at hm
            refine ev_callV (N := mX4_here) (d' := 1) (bc := 0) (bs := 0) (bc' := 0) (bs' := 0) (as := []) (rest := []) (a := 24) (ci := 4) (dcd tokX4_part rfl) okX4_here inX4_here seX4_here lk4_58 rfl (by omega) (Nat.le_of_ble_eq_true rfl) rfl ⟨by decide, rfl⟩ (gpX4_here_24 x ((u2 S4.1 24 7 ((S4.1 24 7) + 1)), S4.2.1, S4.2.2.1, S4.2.2.2) _ _ h7) (fun v h' hq hn => ?_)
            obtain ⟨rfl, rfl⟩ := hq
            refine Ev.steps tokX4_part 2 (P := True) (pc' := if ¬ r9 = 256 then 103 else 51) (lv' := [some (.ref 24), some (.int p1), none]) (st' := []) (h' := mkS x S10) rfl trivial ?_
            refine Ev.ite (fun c11 => ?_) (fun c11 => ?_)
            · rw [if_pos c11] at hm
              refine Ev.steps tokX4_part 3 (P := True) (pc' := if (S10.1 24 8) = 0 then 117 else 110) (lv' := [some (.ref 24), some (.int p1), none]) (st' := []) (h' := mkS x S10) rfl trivial ?_
              refine Ev.ite (fun c12 => ?_) (fun c12 => ?_)
              · rw [if_pos c12] at hm
                refine Ev.steps tokX4_part 1 (P := True) (pc' := 118) (lv' := [some (.ref 24), some (.int p1), none]) (st' := [.ref 24]) (h' := mkS x S10) rfl trivial ?_
                cases h13 : gfX4_lawWord_24 x S10 with
                | none => rw [h13] at hm; cases hm
                | some q14 =>
                  obtain ⟨r15, S16⟩ := q14
                  rw [h13] at hm
                  dsimp only at hm
                  refine ev_callV (N := mX4_lawWord) (d' := 2) (bc := 0) (bs := 0) (bc' := 0) (bs' := 0) (as := []) (rest := []) (a := 24) (ci := 4) (dcd tokX4_part rfl) okX4_lawWord inX4_lawWord seX4_lawWord lk4_158 rfl (by omega) (Nat.le_of_ble_eq_true rfl) rfl ⟨by decide, rfl⟩ (gpX4_lawWord_24 x S10 _ _ h13) (fun v h' hq hn => ?_)
                  obtain ⟨rfl, rfl⟩ := hq
                  refine Ev.fgt (lv' := [some (.ref 24), none, none]) ⟨rfl, trivial⟩ ?_
                  exact bpX4_part_24_121 x (dd := dd) rec_X4_test hrec_X4_test rec_X4_plain hrec_X4_plain rec_X4_comparison hrec_X4_comparison rec_X4_inBrackets hrec_X4_inBrackets rec_X4_sum hrec_X4_sum rec_X4_term hrec_X4_term rec_X4_part hrec_X4_part hB S16 r15 _ _ hm
              · rw [if_neg c12] at hm
                refine Ev.steps tokX4_part 1 (P := True) (pc' := 111) (lv' := [some (.ref 24), some (.int p1), none]) (st' := [.ref 24]) (h' := mkS x S10) rfl trivial ?_
                cases h17 : gfX4_orderWord_24 x S10 with
                | none => rw [h17] at hm; cases hm
                | some q18 =>
                  obtain ⟨r19, S20⟩ := q18
                  rw [h17] at hm
                  dsimp only at hm
                  refine ev_callV (N := mX4_orderWord) (d' := 3) (bc := 0) (bs := 0) (bc' := 0) (bs' := 0) (as := []) (rest := []) (a := 24) (ci := 4) (dcd tokX4_part rfl) okX4_orderWord inX4_orderWord seX4_orderWord lk4_155 rfl (by omega) (Nat.le_of_ble_eq_true rfl) rfl ⟨by decide, rfl⟩ (gpX4_orderWord_24 x S10 _ _ h17) (fun v h' hq hn => ?_)
                  obtain ⟨rfl, rfl⟩ := hq
                  refine Ev.steps tokX4_part 1 (P := True) (pc' := 121) (lv' := [some (.ref 24), some (.int p1), none]) (st' := [.int r19]) (h' := mkS x S20) rfl trivial ?_
                  refine Ev.fgt (lv' := [some (.ref 24), none, none]) ⟨rfl, trivial⟩ ?_
                  exact bpX4_part_24_121 x (dd := dd) rec_X4_test hrec_X4_test rec_X4_plain hrec_X4_plain rec_X4_comparison hrec_X4_comparison rec_X4_inBrackets hrec_X4_inBrackets rec_X4_sum hrec_X4_sum rec_X4_term hrec_X4_term rec_X4_part hrec_X4_part hB S20 r19 _ _ hm
            · rw [if_neg c11] at hm
              obtain ⟨o21, hm⟩ := oblk hm
              refine Ev.steps tokX4_part 7 (P := vp_in (S10.1 24 6) 401 ∧ True) (pc' := if (S10.2.1 31 ((S10.1 24 6).toNatClampNeg)) ≤ 1000 then 71 else 66) (lv' := [some (.ref 24), some (.int p1), none]) (st' := []) (h' := mkS x S10) rfl ⟨inb_ok o21, trivial⟩ ?_
              refine Ev.ite (fun c22 => ?_) (fun c22 => ?_)
              · rw [if_pos c22] at hm
                obtain ⟨o23, hm⟩ := oblk hm
                refine Ev.steps tokX4_part 8 (P := vp_in (S10.1 24 6) 401 ∧ True) (pc' := 87) (lv' := [some (.ref 24), some (.int p1), none]) (st' := [.int (S10.2.1 31 ((S10.1 24 6).toNatClampNeg)), .int 256, .ref 25]) (h' := mkS x S10) rfl ⟨inb_ok o23, trivial⟩ ?_
                cases h24 : gfX9_add_25 x S10 256 (S10.2.1 31 ((S10.1 24 6).toNatClampNeg)) with
                | none => rw [h24] at hm; cases hm
                | some q25 =>
                  obtain ⟨r26, S27⟩ := q25
                  rw [h24] at hm
                  dsimp only at hm
                  refine ev_callV (N := mX9_add) (d' := 1) (bc := 0) (bs := 0) (bc' := 0) (bs' := 0) (as := [.int 256, .int (S10.2.1 31 ((S10.1 24 6).toNatClampNeg))]) (rest := []) (a := 25) (ci := 9) (dcd tokX4_part rfl) okX9_add inX9_add seX9_add lk4_140 rfl (by omega) (Nat.le_of_ble_eq_true rfl) rfl ⟨by decide, rfl⟩ (gpX9_add_25 x S10 256 (S10.2.1 31 ((S10.1 24 6).toNatClampNeg)) _ _ h24) (fun v h' hq hn => ?_)
                  obtain ⟨rfl, rfl⟩ := hq
                  refine Ev.steps tokX4_part 8 (P := True) (pc' := 102) (lv' := [some (.ref 24), some (.int p1), none]) (st' := [.int 1]) (h' := mkS x ((u2 S27.1 24 6 ((S27.1 24 6) + 1)), S27.2.1, S27.2.2.1, S27.2.2.2)) rfl trivial ?_
                  cases hm
                  exact Ev.retz tokX4_part rfl rfl (Or.inr rfl) ⟨rfl, rfl⟩
              · rw [if_neg c22] at hm
                refine Ev.steps tokX4_part 1 (P := True) (pc' := 67) (lv' := [some (.ref 24), some (.int p1), none]) (st' := [.ref 24]) (h' := mkS x S10) rfl trivial ?_
                cases h28 : gfX4_faulty_24 x S10 with
                | none => rw [h28] at hm; cases hm
                | some q29 =>
                  obtain ⟨r30, S31⟩ := q29
                  rw [h28] at hm
                  dsimp only at hm
                  refine ev_callV (N := mX4_faulty) (d' := 1) (bc := 0) (bs := 0) (bc' := 0) (bs' := 0) (as := []) (rest := []) (a := 24) (ci := 4) (dcd tokX4_part rfl) okX4_faulty inX4_faulty seX4_faulty lk4_62 rfl (by omega) (Nat.le_of_ble_eq_true rfl) rfl ⟨by decide, rfl⟩ (gpX4_faulty_24 x S10 _ _ h28) (fun v h' hq hn => ?_)
                  obtain ⟨rfl, rfl⟩ := hq
                  obtain ⟨o32, hm⟩ := oblk hm
                  cases hm
                  exact Ev.retz tokX4_part rfl rfl (bbz_ok o32) ⟨rfl, rfl⟩
        · rw [if_neg c6] at hm
          refine Ev.steps tokX4_part 1 (P := True) (pc' := 27) (lv' := [some (.ref 24), some (.int p1), none]) (st' := [.ref 24]) (h' := mkS x S4) rfl trivial ?_
          cases h33 : gfX4_faulty_24 x S4 with
          | none => rw [h33] at hm; cases hm
          | some q34 =>
            obtain ⟨r35, S36⟩ := q34
            rw [h33] at hm
            dsimp only at hm
            refine ev_callV (N := mX4_faulty) (d' := 1) (bc := 0) (bs := 0) (bc' := 0) (bs' := 0) (as := []) (rest := []) (a := 24) (ci := 4) (dcd tokX4_part rfl) okX4_faulty inX4_faulty seX4_faulty lk4_62 rfl (by omega) (Nat.le_of_ble_eq_true rfl) rfl ⟨by decide, rfl⟩ (gpX4_faulty_24 x S4 _ _ h33) (fun v h' hq hn => ?_)
            obtain ⟨rfl, rfl⟩ := hq
            obtain ⟨o37, hm⟩ := oblk hm
            cases hm
            exact Ev.retz tokX4_part rfl rfl (bbz_ok o37) ⟨rfl, rfl⟩
      · rw [if_neg c5] at hm
        refine Ev.steps tokX4_part 3 (P := True) (pc' := 13) (lv' := [some (.ref 24), some (.int p1), none]) (st' := [.int 93, .int p1, .ref 24]) (h' := mkS x S4) rfl trivial ?_
        cases h38 : rec_X4_inBrackets S4 p1 93 with
        | none => rw [h38] at hm; cases hm
        | some q39 =>
          obtain ⟨r40, S41⟩ := q39
          rw [h38] at hm
          dsimp only at hm
          refine ev_callV (N := mX4_inBrackets) (d' := dd) (bc := 0) (bs := 0) (bc' := 0) (bs' := 0) (as := [.int p1, .int 93]) (rest := []) (a := 24) (ci := 4) (dcd tokX4_part rfl) okX4_inBrackets inX4_inBrackets seX4_inBrackets lk4_143 rfl (by omega) (Nat.le_of_ble_eq_true rfl) rfl ⟨by decide, rfl⟩ (hrec_X4_inBrackets S4 p1 93 _ _ h38) (fun v h' hq hn => ?_)
          obtain ⟨rfl, rfl⟩ := hq
          obtain ⟨o42, hm⟩ := oblk hm
          cases hm
          exact Ev.retz tokX4_part rfl rfl (bbz_ok o42) ⟨rfl, rfl⟩
theorem grpX4_part_24 (x : XT) {dd : Nat} (rec_X4_test : ST → Int32 → Int32 → Option (Int32 × ST)) (hrec_X4_test : ∀ (S : ST) (z0 : Int32) (z1 : Int32) (r : Int32) (S' : ST), rec_X4_test S z0 z1 = some (r, S') → Ct mX4_test dd 0 0 [.ref 24, .int z0, .int z1] (mkS x S) (fun v h => v = some (.int r) ∧ h = mkS x S')) (rec_X4_plain : ST → Int32 → Option (Int32 × ST)) (hrec_X4_plain : ∀ (S : ST) (z0 : Int32) (r : Int32) (S' : ST), rec_X4_plain S z0 = some (r, S') → Ct mX4_plain dd 0 0 [.ref 24, .int z0] (mkS x S) (fun v h => v = some (.int r) ∧ h = mkS x S')) (rec_X4_comparison : ST → Int32 → Option (Int32 × ST)) (hrec_X4_comparison : ∀ (S : ST) (z0 : Int32) (r : Int32) (S' : ST), rec_X4_comparison S z0 = some (r, S') → Ct mX4_comparison dd 0 0 [.ref 24, .int z0] (mkS x S) (fun v h => v = some (.int r) ∧ h = mkS x S')) (rec_X4_inBrackets : ST → Int32 → Int32 → Option (Int32 × ST)) (hrec_X4_inBrackets : ∀ (S : ST) (z0 : Int32) (z1 : Int32) (r : Int32) (S' : ST), rec_X4_inBrackets S z0 z1 = some (r, S') → Ct mX4_inBrackets dd 0 0 [.ref 24, .int z0, .int z1] (mkS x S) (fun v h => v = some (.int r) ∧ h = mkS x S')) (rec_X4_sum : ST → Int32 → Option (Int32 × ST)) (hrec_X4_sum : ∀ (S : ST) (z0 : Int32) (r : Int32) (S' : ST), rec_X4_sum S z0 = some (r, S') → Ct mX4_sum dd 0 0 [.ref 24, .int z0] (mkS x S) (fun v h => v = some (.int r) ∧ h = mkS x S')) (rec_X4_term : ST → Int32 → Option (Int32 × ST)) (hrec_X4_term : ∀ (S : ST) (z0 : Int32) (r : Int32) (S' : ST), rec_X4_term S z0 = some (r, S') → Ct mX4_term dd 0 0 [.ref 24, .int z0] (mkS x S) (fun v h => v = some (.int r) ∧ h = mkS x S')) (rec_X4_part : ST → Int32 → Option (Int32 × ST)) (hrec_X4_part : ∀ (S : ST) (z0 : Int32) (r : Int32) (S' : ST), rec_X4_part S z0 = some (r, S') → Ct mX4_part dd 0 0 [.ref 24, .int z0] (mkS x S) (fun v h => v = some (.int r) ∧ h = mkS x S')) (hB : 3 ≤ dd) (S : ST) (p1 : Int32) (r : Int32) (S' : ST) (hm : grfX4_part_24 x rec_X4_test rec_X4_plain rec_X4_comparison rec_X4_inBrackets rec_X4_sum rec_X4_term rec_X4_part S p1 = some (r, S')) : Ct mX4_part (dd + 1) 0 0 [.ref 24, .int p1] (mkS x S) (fun v h => v = some (.int r) ∧ h = mkS x S') :=
  Ct.of (lv := [some (.ref 24), some (.int p1), none]) rfl rfl rfl (show (_ : Nat) ≤ _ from Nat.le_of_ble_eq_true rfl) (fun G => rfl) (bpX4_part_24_0 x (dd := dd) rec_X4_test hrec_X4_test rec_X4_plain hrec_X4_plain rec_X4_comparison hrec_X4_comparison rec_X4_inBrackets hrec_X4_inBrackets rec_X4_sum hrec_X4_sum rec_X4_term hrec_X4_term rec_X4_part hrec_X4_part hB S p1 r S' hm)
theorem gqpX4_test_24 (x : XT) (n : Nat) : (∀ (S : ST) (a b : Int32) (r : Int32) (S' : ST), gqX4_test_24 x n 0 S a b = some (r, S') → Ct mX4_test (3 + n) 0 0 [.ref 24, .int a, .int b] (mkS x S) (fun v h => v = some (.int r) ∧ h = mkS x S')) ∧ (∀ (S : ST) (a b : Int32) (r : Int32) (S' : ST), gqX4_test_24 x n 1 S a b = some (r, S') → Ct mX4_plain (3 + n) 0 0 [.ref 24, .int a] (mkS x S) (fun v h => v = some (.int r) ∧ h = mkS x S')) ∧ (∀ (S : ST) (a b : Int32) (r : Int32) (S' : ST), gqX4_test_24 x n 2 S a b = some (r, S') → Ct mX4_comparison (3 + n) 0 0 [.ref 24, .int a] (mkS x S) (fun v h => v = some (.int r) ∧ h = mkS x S')) ∧ (∀ (S : ST) (a b : Int32) (r : Int32) (S' : ST), gqX4_test_24 x n 3 S a b = some (r, S') → Ct mX4_inBrackets (3 + n) 0 0 [.ref 24, .int a, .int b] (mkS x S) (fun v h => v = some (.int r) ∧ h = mkS x S')) ∧ (∀ (S : ST) (a b : Int32) (r : Int32) (S' : ST), gqX4_test_24 x n 4 S a b = some (r, S') → Ct mX4_sum (3 + n) 0 0 [.ref 24, .int a] (mkS x S) (fun v h => v = some (.int r) ∧ h = mkS x S')) ∧ (∀ (S : ST) (a b : Int32) (r : Int32) (S' : ST), gqX4_test_24 x n 5 S a b = some (r, S') → Ct mX4_term (3 + n) 0 0 [.ref 24, .int a] (mkS x S) (fun v h => v = some (.int r) ∧ h = mkS x S')) ∧ (∀ (S : ST) (a b : Int32) (r : Int32) (S' : ST), gqX4_test_24 x n 6 S a b = some (r, S') → Ct mX4_part (3 + n) 0 0 [.ref 24, .int a] (mkS x S) (fun v h => v = some (.int r) ∧ h = mkS x S')) := by
  induction n with
  | zero => exact ⟨(fun _ _ _ _ _ hm => (by cases hm)), (fun _ _ _ _ _ hm => (by cases hm)), (fun _ _ _ _ _ hm => (by cases hm)), (fun _ _ _ _ _ hm => (by cases hm)), (fun _ _ _ _ _ hm => (by cases hm)), (fun _ _ _ _ _ hm => (by cases hm)), (fun _ _ _ _ _ hm => (by cases hm))⟩
  | succ n ih =>
    refine ⟨?_, ?_, ?_, ?_, ?_, ?_, ?_⟩
    · intro S a b r S' hm
      rw [gqX4_test_24] at hm
      rw [show Nat.beq 0 0 = true from rfl, cond_true] at hm
      exact grpX4_test_24 x (dd := 3 + n) (fun S z0 z1 => gqX4_test_24 x n 0 S z0 z1) (fun S z0 z1 r S' h => ih.1 S z0 z1 r S' h) (fun S z0 => gqX4_test_24 x n 1 S z0 0) (fun S z0 r S' h => ih.2.1 S z0 0 r S' h) (fun S z0 => gqX4_test_24 x n 2 S z0 0) (fun S z0 r S' h => ih.2.2.1 S z0 0 r S' h) (fun S z0 z1 => gqX4_test_24 x n 3 S z0 z1) (fun S z0 z1 r S' h => ih.2.2.2.1 S z0 z1 r S' h) (fun S z0 => gqX4_test_24 x n 4 S z0 0) (fun S z0 r S' h => ih.2.2.2.2.1 S z0 0 r S' h) (fun S z0 => gqX4_test_24 x n 5 S z0 0) (fun S z0 r S' h => ih.2.2.2.2.2.1 S z0 0 r S' h) (fun S z0 => gqX4_test_24 x n 6 S z0 0) (fun S z0 r S' h => ih.2.2.2.2.2.2 S z0 0 r S' h) (by omega) S a b r S' hm
    · intro S a b r S' hm
      rw [gqX4_test_24] at hm
      rw [show Nat.beq 1 0 = false from rfl, cond_false, show Nat.beq 1 1 = true from rfl, cond_true] at hm
      exact grpX4_plain_24 x (dd := 3 + n) (fun S z0 z1 => gqX4_test_24 x n 0 S z0 z1) (fun S z0 z1 r S' h => ih.1 S z0 z1 r S' h) (fun S z0 => gqX4_test_24 x n 1 S z0 0) (fun S z0 r S' h => ih.2.1 S z0 0 r S' h) (fun S z0 => gqX4_test_24 x n 2 S z0 0) (fun S z0 r S' h => ih.2.2.1 S z0 0 r S' h) (fun S z0 z1 => gqX4_test_24 x n 3 S z0 z1) (fun S z0 z1 r S' h => ih.2.2.2.1 S z0 z1 r S' h) (fun S z0 => gqX4_test_24 x n 4 S z0 0) (fun S z0 r S' h => ih.2.2.2.2.1 S z0 0 r S' h) (fun S z0 => gqX4_test_24 x n 5 S z0 0) (fun S z0 r S' h => ih.2.2.2.2.2.1 S z0 0 r S' h) (fun S z0 => gqX4_test_24 x n 6 S z0 0) (fun S z0 r S' h => ih.2.2.2.2.2.2 S z0 0 r S' h) (by omega) S a r S' hm
    · intro S a b r S' hm
      rw [gqX4_test_24] at hm
      rw [show Nat.beq 2 0 = false from rfl, cond_false, show Nat.beq 2 1 = false from rfl, cond_false, show Nat.beq 2 2 = true from rfl, cond_true] at hm
      exact grpX4_comparison_24 x (dd := 3 + n) (fun S z0 z1 => gqX4_test_24 x n 0 S z0 z1) (fun S z0 z1 r S' h => ih.1 S z0 z1 r S' h) (fun S z0 => gqX4_test_24 x n 1 S z0 0) (fun S z0 r S' h => ih.2.1 S z0 0 r S' h) (fun S z0 => gqX4_test_24 x n 2 S z0 0) (fun S z0 r S' h => ih.2.2.1 S z0 0 r S' h) (fun S z0 z1 => gqX4_test_24 x n 3 S z0 z1) (fun S z0 z1 r S' h => ih.2.2.2.1 S z0 z1 r S' h) (fun S z0 => gqX4_test_24 x n 4 S z0 0) (fun S z0 r S' h => ih.2.2.2.2.1 S z0 0 r S' h) (fun S z0 => gqX4_test_24 x n 5 S z0 0) (fun S z0 r S' h => ih.2.2.2.2.2.1 S z0 0 r S' h) (fun S z0 => gqX4_test_24 x n 6 S z0 0) (fun S z0 r S' h => ih.2.2.2.2.2.2 S z0 0 r S' h) (by omega) S a r S' hm
    · intro S a b r S' hm
      rw [gqX4_test_24] at hm
      rw [show Nat.beq 3 0 = false from rfl, cond_false, show Nat.beq 3 1 = false from rfl, cond_false, show Nat.beq 3 2 = false from rfl, cond_false, show Nat.beq 3 3 = true from rfl, cond_true] at hm
      exact grpX4_inBrackets_24 x (dd := 3 + n) (fun S z0 z1 => gqX4_test_24 x n 0 S z0 z1) (fun S z0 z1 r S' h => ih.1 S z0 z1 r S' h) (fun S z0 => gqX4_test_24 x n 1 S z0 0) (fun S z0 r S' h => ih.2.1 S z0 0 r S' h) (fun S z0 => gqX4_test_24 x n 2 S z0 0) (fun S z0 r S' h => ih.2.2.1 S z0 0 r S' h) (fun S z0 z1 => gqX4_test_24 x n 3 S z0 z1) (fun S z0 z1 r S' h => ih.2.2.2.1 S z0 z1 r S' h) (fun S z0 => gqX4_test_24 x n 4 S z0 0) (fun S z0 r S' h => ih.2.2.2.2.1 S z0 0 r S' h) (fun S z0 => gqX4_test_24 x n 5 S z0 0) (fun S z0 r S' h => ih.2.2.2.2.2.1 S z0 0 r S' h) (fun S z0 => gqX4_test_24 x n 6 S z0 0) (fun S z0 r S' h => ih.2.2.2.2.2.2 S z0 0 r S' h) (by omega) S a b r S' hm
    · intro S a b r S' hm
      rw [gqX4_test_24] at hm
      rw [show Nat.beq 4 0 = false from rfl, cond_false, show Nat.beq 4 1 = false from rfl, cond_false, show Nat.beq 4 2 = false from rfl, cond_false, show Nat.beq 4 3 = false from rfl, cond_false, show Nat.beq 4 4 = true from rfl, cond_true] at hm
      exact grpX4_sum_24 x (dd := 3 + n) (fun S z0 z1 => gqX4_test_24 x n 0 S z0 z1) (fun S z0 z1 r S' h => ih.1 S z0 z1 r S' h) (fun S z0 => gqX4_test_24 x n 1 S z0 0) (fun S z0 r S' h => ih.2.1 S z0 0 r S' h) (fun S z0 => gqX4_test_24 x n 2 S z0 0) (fun S z0 r S' h => ih.2.2.1 S z0 0 r S' h) (fun S z0 z1 => gqX4_test_24 x n 3 S z0 z1) (fun S z0 z1 r S' h => ih.2.2.2.1 S z0 z1 r S' h) (fun S z0 => gqX4_test_24 x n 4 S z0 0) (fun S z0 r S' h => ih.2.2.2.2.1 S z0 0 r S' h) (fun S z0 => gqX4_test_24 x n 5 S z0 0) (fun S z0 r S' h => ih.2.2.2.2.2.1 S z0 0 r S' h) (fun S z0 => gqX4_test_24 x n 6 S z0 0) (fun S z0 r S' h => ih.2.2.2.2.2.2 S z0 0 r S' h) (by omega) S a r S' hm
    · intro S a b r S' hm
      rw [gqX4_test_24] at hm
      rw [show Nat.beq 5 0 = false from rfl, cond_false, show Nat.beq 5 1 = false from rfl, cond_false, show Nat.beq 5 2 = false from rfl, cond_false, show Nat.beq 5 3 = false from rfl, cond_false, show Nat.beq 5 4 = false from rfl, cond_false, show Nat.beq 5 5 = true from rfl, cond_true] at hm
      exact grpX4_term_24 x (dd := 3 + n) (fun S z0 z1 => gqX4_test_24 x n 0 S z0 z1) (fun S z0 z1 r S' h => ih.1 S z0 z1 r S' h) (fun S z0 => gqX4_test_24 x n 1 S z0 0) (fun S z0 r S' h => ih.2.1 S z0 0 r S' h) (fun S z0 => gqX4_test_24 x n 2 S z0 0) (fun S z0 r S' h => ih.2.2.1 S z0 0 r S' h) (fun S z0 z1 => gqX4_test_24 x n 3 S z0 z1) (fun S z0 z1 r S' h => ih.2.2.2.1 S z0 z1 r S' h) (fun S z0 => gqX4_test_24 x n 4 S z0 0) (fun S z0 r S' h => ih.2.2.2.2.1 S z0 0 r S' h) (fun S z0 => gqX4_test_24 x n 5 S z0 0) (fun S z0 r S' h => ih.2.2.2.2.2.1 S z0 0 r S' h) (fun S z0 => gqX4_test_24 x n 6 S z0 0) (fun S z0 r S' h => ih.2.2.2.2.2.2 S z0 0 r S' h) (by omega) S a r S' hm
    · intro S a b r S' hm
      rw [gqX4_test_24] at hm
      rw [show Nat.beq 6 0 = false from rfl, cond_false, show Nat.beq 6 1 = false from rfl, cond_false, show Nat.beq 6 2 = false from rfl, cond_false, show Nat.beq 6 3 = false from rfl, cond_false, show Nat.beq 6 4 = false from rfl, cond_false, show Nat.beq 6 5 = false from rfl, cond_false, show Nat.beq 6 6 = true from rfl, cond_true] at hm
      exact grpX4_part_24 x (dd := 3 + n) (fun S z0 z1 => gqX4_test_24 x n 0 S z0 z1) (fun S z0 z1 r S' h => ih.1 S z0 z1 r S' h) (fun S z0 => gqX4_test_24 x n 1 S z0 0) (fun S z0 r S' h => ih.2.1 S z0 0 r S' h) (fun S z0 => gqX4_test_24 x n 2 S z0 0) (fun S z0 r S' h => ih.2.2.1 S z0 0 r S' h) (fun S z0 z1 => gqX4_test_24 x n 3 S z0 z1) (fun S z0 z1 r S' h => ih.2.2.2.1 S z0 z1 r S' h) (fun S z0 => gqX4_test_24 x n 4 S z0 0) (fun S z0 r S' h => ih.2.2.2.2.1 S z0 0 r S' h) (fun S z0 => gqX4_test_24 x n 5 S z0 0) (fun S z0 r S' h => ih.2.2.2.2.2.1 S z0 0 r S' h) (fun S z0 => gqX4_test_24 x n 6 S z0 0) (fun S z0 r S' h => ih.2.2.2.2.2.2 S z0 0 r S' h) (by omega) S a r S' hm
theorem gpX4_test_24 (x : XT) (S : ST) (p1 : Int32) (p2 : Int32) (r : Int32) (S' : ST) (hm : gfX4_test_24 x S p1 p2 = some (r, S')) : Ct mX4_test 63 0 0 [.ref 24, .int p1, .int p2] (mkS x S) (fun v h => v = some (.int r) ∧ h = mkS x S') :=
  (gqpX4_test_24 x 60).1 S p1 p2 r S' hm
theorem gpX4_plain_24 (x : XT) (S : ST) (p1 : Int32) (r : Int32) (S' : ST) (hm : gfX4_plain_24 x S p1 = some (r, S')) : Ct mX4_plain 63 0 0 [.ref 24, .int p1] (mkS x S) (fun v h => v = some (.int r) ∧ h = mkS x S') :=
  (gqpX4_test_24 x 60).2.1 S p1 0 r S' hm
theorem gpX4_comparison_24 (x : XT) (S : ST) (p1 : Int32) (r : Int32) (S' : ST) (hm : gfX4_comparison_24 x S p1 = some (r, S')) : Ct mX4_comparison 63 0 0 [.ref 24, .int p1] (mkS x S) (fun v h => v = some (.int r) ∧ h = mkS x S') :=
  (gqpX4_test_24 x 60).2.2.1 S p1 0 r S' hm
theorem gpX4_inBrackets_24 (x : XT) (S : ST) (p1 : Int32) (p2 : Int32) (r : Int32) (S' : ST) (hm : gfX4_inBrackets_24 x S p1 p2 = some (r, S')) : Ct mX4_inBrackets 63 0 0 [.ref 24, .int p1, .int p2] (mkS x S) (fun v h => v = some (.int r) ∧ h = mkS x S') :=
  (gqpX4_test_24 x 60).2.2.2.1 S p1 p2 r S' hm
theorem gpX4_sum_24 (x : XT) (S : ST) (p1 : Int32) (r : Int32) (S' : ST) (hm : gfX4_sum_24 x S p1 = some (r, S')) : Ct mX4_sum 63 0 0 [.ref 24, .int p1] (mkS x S) (fun v h => v = some (.int r) ∧ h = mkS x S') :=
  (gqpX4_test_24 x 60).2.2.2.2.1 S p1 0 r S' hm
theorem gpX4_term_24 (x : XT) (S : ST) (p1 : Int32) (r : Int32) (S' : ST) (hm : gfX4_term_24 x S p1 = some (r, S')) : Ct mX4_term 63 0 0 [.ref 24, .int p1] (mkS x S) (fun v h => v = some (.int r) ∧ h = mkS x S') :=
  (gqpX4_test_24 x 60).2.2.2.2.2.1 S p1 0 r S' hm
theorem gpX4_part_24 (x : XT) (S : ST) (p1 : Int32) (r : Int32) (S' : ST) (hm : gfX4_part_24 x S p1 = some (r, S')) : Ct mX4_part 63 0 0 [.ref 24, .int p1] (mkS x S) (fun v h => v = some (.int r) ∧ h = mkS x S') :=
  (gqpX4_test_24 x 60).2.2.2.2.2.2 S p1 0 r S' hm
end MIR
