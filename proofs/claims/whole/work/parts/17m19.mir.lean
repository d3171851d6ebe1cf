section MIR
set_option maxHeartbeats 4000000 in
set_option maxRecDepth 20000 in
theorem bpX11_sumOf_130_95 (x : XT) {dd : Nat} (rec_X11_sumOf : ST → Int32 → Option (Int64 × ST)) (hrec_X11_sumOf : ∀ (S : ST) (z0 : Int32) (r : Int64) (S' : ST), rec_X11_sumOf S z0 = some (r, S') → Ct mX11_sumOf dd 0 0 [.ref 130, .int z0] (mkS x S) (fun v h => v = some (.long r) ∧ h = mkS x S')) (rec_X11_termOf : ST → Int32 → Option (Int64 × ST)) (hrec_X11_termOf : ∀ (S : ST) (z0 : Int32) (r : Int64) (S' : ST), rec_X11_termOf S z0 = some (r, S') → Ct mX11_termOf dd 0 0 [.ref 130, .int z0] (mkS x S) (fun v h => v = some (.long r) ∧ h = mkS x S')) (rec_X11_partOf : ST → Int32 → Option (Int64 × ST)) (hrec_X11_partOf : ∀ (S : ST) (z0 : Int32) (r : Int64) (S' : ST), rec_X11_partOf S z0 = some (r, S') → Ct mX11_partOf dd 0 0 [.ref 130, .int z0] (mkS x S) (fun v h => v = some (.long r) ∧ h = mkS x S')) (hB : 3 ≤ dd) (k6 : ST → Int32 → Int64 → Option (Int64 × ST)) (hk6 : ∀ (S : ST) (v1 : Int32) (v2 : Int64) (r : Int64) (S' : ST), k6 S v1 v2 = some (r, S') → Ev mX11_sumOf (dd + 1) 0 0 6 [some (.ref 130), some (.int v1), some (.long v2), none, none, none, none] [] (mkS x S) (fun v h => v = some (.long r) ∧ h = mkS x S')) (S : ST) (v1 : Int32) (t1 : Int64) (r : Int64) (S' : ST) (hm : bfX11_sumOf_130_95 x rec_X11_sumOf rec_X11_termOf rec_X11_partOf k6 S v1 t1 = some (r, S')) : Ev mX11_sumOf (dd + 1) 0 0 95 [some (.ref 130), some (.int v1), none, none, none, none, none] [.long t1, .ref 130] (mkS x S) (fun v h => v = some (.long r) ∧ h = mkS x S') := by
    unfold bfX11_sumOf_130_95 at hm
    refine Ev.steps tokX11_sumOf 1 (P := True) (pc' := 96) (lv' := [some (.ref 130), some (.int v1), none, none, none, none, none]) (st' := [.int v1, .long t1, .ref 130]) (h' := mkS x S) rfl trivial ?_
    cases h1 : gfX11_bounded_130 x S t1 v1 with
    | none => rw [h1] at hm; cases hm
    | some q2 =>
      obtain ⟨r3, S4⟩ := q2
      rw [h1] at hm
      dsimp only at hm
      refine ev_callV (N := mX11_bounded) (d' := 1) (bc := 0) (bs := 0) (bc' := 0) (bs' := 0) (as := [.long t1, .int v1]) (rest := []) (a := 130) (ci := 11) (dcd tokX11_sumOf rfl) okX11_bounded inX11_bounded seX11_bounded lk11_308 rfl (by omega) (Nat.le_of_ble_eq_true rfl) rfl ⟨by decide, rfl⟩ (gpX11_bounded_130 x S t1 v1 _ _ h1) (fun v h' hq hn => ?_)
      obtain ⟨rfl, rfl⟩ := hq
      refine Ev.steps tokX11_sumOf 2 (P := True) (pc' := 6) (lv' := [some (.ref 130), some (.int v1), some (.long r3), none, none, none, none]) (st' := []) (h' := mkS x S4) rfl trivial ?_
      exact hk6 S4 v1 r3 _ _ hm
set_option maxHeartbeats 4000000 in
set_option maxRecDepth 20000 in
theorem bpX11_sumOf_130_59 (x : XT) {dd : Nat} (rec_X11_sumOf : ST → Int32 → Option (Int64 × ST)) (hrec_X11_sumOf : ∀ (S : ST) (z0 : Int32) (r : Int64) (S' : ST), rec_X11_sumOf S z0 = some (r, S') → Ct mX11_sumOf dd 0 0 [.ref 130, .int z0] (mkS x S) (fun v h => v = some (.long r) ∧ h = mkS x S')) (rec_X11_termOf : ST → Int32 → Option (Int64 × ST)) (hrec_X11_termOf : ∀ (S : ST) (z0 : Int32) (r : Int64) (S' : ST), rec_X11_termOf S z0 = some (r, S') → Ct mX11_termOf dd 0 0 [.ref 130, .int z0] (mkS x S) (fun v h => v = some (.long r) ∧ h = mkS x S')) (rec_X11_partOf : ST → Int32 → Option (Int64 × ST)) (hrec_X11_partOf : ∀ (S : ST) (z0 : Int32) (r : Int64) (S' : ST), rec_X11_partOf S z0 = some (r, S') → Ct mX11_partOf dd 0 0 [.ref 130, .int z0] (mkS x S) (fun v h => v = some (.long r) ∧ h = mkS x S')) (hB : 3 ≤ dd) (k6 : ST → Int32 → Int64 → Option (Int64 × ST)) (hk6 : ∀ (S : ST) (v1 : Int32) (v2 : Int64) (r : Int64) (S' : ST), k6 S v1 v2 = some (r, S') → Ev mX11_sumOf (dd + 1) 0 0 6 [some (.ref 130), some (.int v1), some (.long v2), none, none, none, none] [] (mkS x S) (fun v h => v = some (.long r) ∧ h = mkS x S')) (S : ST) (v1 : Int32) (v2 : Int64) (t0 : Int32) (r : Int64) (S' : ST) (hm : bfX11_sumOf_130_59 x rec_X11_sumOf rec_X11_termOf rec_X11_partOf k6 S v1 v2 t0 = some (r, S')) : Ev mX11_sumOf (dd + 1) 0 0 59 [some (.ref 130), some (.int v1), some (.long v2), none, none, none, none] [.int t0] (mkS x S) (fun v h => v = some (.long r) ∧ h = mkS x S') := by
    unfold bfX11_sumOf_130_59 at hm
    refine Ev.steps tokX11_sumOf 9 (P := True) (pc' := 73) (lv' := [some (.ref 130), some (.int v1), some (.long v2), none, some (.int t0), none, none]) (st' := [.int v1, .ref 130]) (h' := mkS x ((u2 S.1 130 22 ((S.1 130 22) + 1)), S.2.1, S.2.2.1, S.2.2.2)) rfl trivial ?_
    cases h1 : rec_X11_termOf ((u2 S.1 130 22 ((S.1 130 22) + 1)), S.2.1, S.2.2.1, S.2.2.2) v1 with
    | none => rw [h1] at hm; cases hm
    | some q2 =>
      obtain ⟨r3, S4⟩ := q2
      rw [h1] at hm
      dsimp only at hm
      refine ev_callV (N := mX11_termOf) (d' := dd) (bc := 0) (bs := 0) (bc' := 0) (bs' := 0) (as := [.int v1]) (rest := []) (a := 130) (ci := 11) (dcd tokX11_sumOf rfl) okX11_termOf inX11_termOf seX11_termOf lk11_304 rfl (by omega) (Nat.le_of_ble_eq_true rfl) rfl ⟨by decide, rfl⟩ (hrec_X11_termOf ((u2 S.1 130 22 ((S.1 130 22) + 1)), S.2.1, S.2.2.1, S.2.2.2) v1 _ _ h1) (fun v h' hq hn => ?_)
      obtain ⟨rfl, rfl⟩ := hq
      refine Ev.steps tokX11_sumOf 4 (P := True) (pc' := if t0 = 0 then 91 else 84) (lv' := [some (.ref 130), some (.int v1), some (.long v2), none, some (.int t0), some (.long r3), none]) (st' := [.ref 130]) (h' := mkS x S4) rfl trivial ?_
      refine Ev.ite (fun c5 => ?_) (fun c5 => ?_)
      · rw [if_pos c5] at hm
        refine Ev.steps tokX11_sumOf 3 (P := True) (pc' := 95) (lv' := [some (.ref 130), some (.int v1), some (.long v2), none, some (.int t0), some (.long r3), none]) (st' := [.long (v2 - r3), .ref 130]) (h' := mkS x S4) rfl trivial ?_
        refine Ev.fgt (lv' := [some (.ref 130), some (.int v1), none, none, none, none, none]) ⟨rfl, rfl, trivial⟩ ?_
        exact bpX11_sumOf_130_95 x (dd := dd) rec_X11_sumOf hrec_X11_sumOf rec_X11_termOf hrec_X11_termOf rec_X11_partOf hrec_X11_partOf hB k6 hk6 S4 v1 (v2 - r3) _ _ hm
      · rw [if_neg c5] at hm
        refine Ev.steps tokX11_sumOf 4 (P := True) (pc' := 95) (lv' := [some (.ref 130), some (.int v1), some (.long v2), none, some (.int t0), some (.long r3), none]) (st' := [.long (v2 + r3), .ref 130]) (h' := mkS x S4) rfl trivial ?_
        refine Ev.fgt (lv' := [some (.ref 130), some (.int v1), none, none, none, none, none]) ⟨rfl, rfl, trivial⟩ ?_
        exact bpX11_sumOf_130_95 x (dd := dd) rec_X11_sumOf hrec_X11_sumOf rec_X11_termOf hrec_X11_termOf rec_X11_partOf hrec_X11_partOf hB k6 hk6 S4 v1 (v2 + r3) _ _ hm
set_option maxHeartbeats 4000000 in
set_option maxRecDepth 20000 in
theorem bpX11_sumOf_130_38 (x : XT) {dd : Nat} (rec_X11_sumOf : ST → Int32 → Option (Int64 × ST)) (hrec_X11_sumOf : ∀ (S : ST) (z0 : Int32) (r : Int64) (S' : ST), rec_X11_sumOf S z0 = some (r, S') → Ct mX11_sumOf dd 0 0 [.ref 130, .int z0] (mkS x S) (fun v h => v = some (.long r) ∧ h = mkS x S')) (rec_X11_termOf : ST → Int32 → Option (Int64 × ST)) (hrec_X11_termOf : ∀ (S : ST) (z0 : Int32) (r : Int64) (S' : ST), rec_X11_termOf S z0 = some (r, S') → Ct mX11_termOf dd 0 0 [.ref 130, .int z0] (mkS x S) (fun v h => v = some (.long r) ∧ h = mkS x S')) (rec_X11_partOf : ST → Int32 → Option (Int64 × ST)) (hrec_X11_partOf : ∀ (S : ST) (z0 : Int32) (r : Int64) (S' : ST), rec_X11_partOf S z0 = some (r, S') → Ct mX11_partOf dd 0 0 [.ref 130, .int z0] (mkS x S) (fun v h => v = some (.long r) ∧ h = mkS x S')) (hB : 3 ≤ dd) (k6 : ST → Int32 → Int64 → Option (Int64 × ST)) (hk6 : ∀ (S : ST) (v1 : Int32) (v2 : Int64) (r : Int64) (S' : ST), k6 S v1 v2 = some (r, S') → Ev mX11_sumOf (dd + 1) 0 0 6 [some (.ref 130), some (.int v1), some (.long v2), none, none, none, none] [] (mkS x S) (fun v h => v = some (.long r) ∧ h = mkS x S')) (S : ST) (v1 : Int32) (v2 : Int64) (r : Int64) (S' : ST) (hm : bfX11_sumOf_130_38 x rec_X11_sumOf rec_X11_termOf rec_X11_partOf k6 S v1 v2 = some (r, S')) : Ev mX11_sumOf (dd + 1) 0 0 38 [some (.ref 130), some (.int v1), some (.long v2), none, none, none, none] [] (mkS x S) (fun v h => v = some (.long r) ∧ h = mkS x S') := by
    unfold bfX11_sumOf_130_38 at hm
    refine Ev.steps tokX11_sumOf 3 (P := True) (pc' := 43) (lv' := [some (.ref 130), some (.int v1), some (.long v2), none, none, none, none]) (st' := [.int (S.1 130 22), .ref 130]) (h' := mkS x S) rfl trivial ?_
    cases h1 : gfX11_codeAt_130 x S (S.1 130 22) with
    | none => rw [h1] at hm; cases hm
    | some q2 =>
      obtain ⟨r3, S4⟩ := q2
      rw [h1] at hm
      dsimp only at hm
      refine ev_callV (N := mX11_codeAt) (d' := 1) (bc := 0) (bs := 0) (bc' := 0) (bs' := 0) (as := [.int (S.1 130 22)]) (rest := []) (a := 130) (ci := 11) (dcd tokX11_sumOf rfl) okX11_codeAt inX11_codeAt seX11_codeAt lk11_294 rfl (by omega) (Nat.le_of_ble_eq_true rfl) rfl ⟨by decide, rfl⟩ (gpX11_codeAt_130 x S (S.1 130 22) _ _ h1) (fun v h' hq hn => ?_)
      obtain ⟨rfl, rfl⟩ := hq
      refine Ev.steps tokX11_sumOf 1 (P := True) (pc' := 48) (lv' := [some (.ref 130), some (.int v1), some (.long v2), none, none, none, none]) (st' := [.int 43, .int r3]) (h' := mkS x S4) rfl trivial ?_
      cases h5 : gfX11_sign x S4 43 with
      | none => rw [h5] at hm; cases hm
      | some q6 =>
        obtain ⟨r7, S8⟩ := q6
        rw [h5] at hm
        dsimp only at hm
        refine ev_callS (N := mX11_sign) (d' := 1) (bc := 0) (bs := 0) (bc' := 0) (bs' := 0) (as := [.int 43]) (rest := [.int r3]) (dcd tokX11_sumOf rfl) okX11_sign inX11_sign lk11_250 rfl (by omega) (Nat.le_of_ble_eq_true rfl) (gpX11_sign x S4 43 _ _ h5) (fun v h' hq hn => ?_)
        obtain ⟨rfl, rfl⟩ := hq
        refine Ev.steps tokX11_sumOf 1 (P := True) (pc' := if ¬ r3 = r7 then 58 else 54) (lv' := [some (.ref 130), some (.int v1), some (.long v2), none, none, none, none]) (st' := []) (h' := mkS x S8) rfl trivial ?_
        refine Ev.ite (fun c9 => ?_) (fun c9 => ?_)
        · rw [if_pos c9] at hm
          refine Ev.steps tokX11_sumOf 1 (P := True) (pc' := 59) (lv' := [some (.ref 130), some (.int v1), some (.long v2), none, none, none, none]) (st' := [.int 0]) (h' := mkS x S8) rfl trivial ?_
          exact bpX11_sumOf_130_59 x (dd := dd) rec_X11_sumOf hrec_X11_sumOf rec_X11_termOf hrec_X11_termOf rec_X11_partOf hrec_X11_partOf hB k6 hk6 S8 v1 v2 0 _ _ hm
        · rw [if_neg c9] at hm
          refine Ev.steps tokX11_sumOf 2 (P := True) (pc' := 59) (lv' := [some (.ref 130), some (.int v1), some (.long v2), none, none, none, none]) (st' := [.int 1]) (h' := mkS x S8) rfl trivial ?_
          exact bpX11_sumOf_130_59 x (dd := dd) rec_X11_sumOf hrec_X11_sumOf rec_X11_termOf hrec_X11_termOf rec_X11_partOf hrec_X11_partOf hB k6 hk6 S8 v1 v2 1 _ _ hm
set_option maxHeartbeats 4000000 in
set_option maxRecDepth 20000 in
theorem bpX11_sumOf_130_6 (x : XT) {dd : Nat} (rec_X11_sumOf : ST → Int32 → Option (Int64 × ST)) (hrec_X11_sumOf : ∀ (S : ST) (z0 : Int32) (r : Int64) (S' : ST), rec_X11_sumOf S z0 = some (r, S') → Ct mX11_sumOf dd 0 0 [.ref 130, .int z0] (mkS x S) (fun v h => v = some (.long r) ∧ h = mkS x S')) (rec_X11_termOf : ST → Int32 → Option (Int64 × ST)) (hrec_X11_termOf : ∀ (S : ST) (z0 : Int32) (r : Int64) (S' : ST), rec_X11_termOf S z0 = some (r, S') → Ct mX11_termOf dd 0 0 [.ref 130, .int z0] (mkS x S) (fun v h => v = some (.long r) ∧ h = mkS x S')) (rec_X11_partOf : ST → Int32 → Option (Int64 × ST)) (hrec_X11_partOf : ∀ (S : ST) (z0 : Int32) (r : Int64) (S' : ST), rec_X11_partOf S z0 = some (r, S') → Ct mX11_partOf dd 0 0 [.ref 130, .int z0] (mkS x S) (fun v h => v = some (.long r) ∧ h = mkS x S')) (hB : 3 ≤ dd) (k6 : ST → Int32 → Int64 → Option (Int64 × ST)) (hk6 : ∀ (S : ST) (v1 : Int32) (v2 : Int64) (r : Int64) (S' : ST), k6 S v1 v2 = some (r, S') → Ev mX11_sumOf (dd + 1) 0 0 6 [some (.ref 130), some (.int v1), some (.long v2), none, none, none, none] [] (mkS x S) (fun v h => v = some (.long r) ∧ h = mkS x S')) (S : ST) (v1 : Int32) (v2 : Int64) (r : Int64) (S' : ST) (hm : bfX11_sumOf_130_6 x rec_X11_sumOf rec_X11_termOf rec_X11_partOf k6 S v1 v2 = some (r, S')) : Ev mX11_sumOf (dd + 1) 0 0 6 [some (.ref 130), some (.int v1), some (.long v2), none, none, none, none] [] (mkS x S) (fun v h => v = some (.long r) ∧ h = mkS x S') := by
    unfold bfX11_sumOf_130_6 at hm
    refine Ev.steps tokX11_sumOf 3 (P := True) (pc' := 11) (lv' := [some (.ref 130), some (.int v1), some (.long v2), none, none, none, none]) (st' := [.int (S.1 130 22), .ref 130]) (h' := mkS x S) rfl trivial ?_
    cases h1 : gfX11_codeAt_130 x S (S.1 130 22) with
    | none => rw [h1] at hm; cases hm
    | some q2 =>
      obtain ⟨r3, S4⟩ := q2
      rw [h1] at hm
      dsimp only at hm
      refine ev_callV (N := mX11_codeAt) (d' := 1) (bc := 0) (bs := 0) (bc' := 0) (bs' := 0) (as := [.int (S.1 130 22)]) (rest := []) (a := 130) (ci := 11) (dcd tokX11_sumOf rfl) okX11_codeAt inX11_codeAt seX11_codeAt lk11_294 rfl (by omega) (Nat.le_of_ble_eq_true rfl) rfl ⟨by decide, rfl⟩ (gpX11_codeAt_130 x S (S.1 130 22) _ _ h1) (fun v h' hq hn => ?_)
      obtain ⟨rfl, rfl⟩ := hq
      refine Ev.steps tokX11_sumOf 1 (P := True) (pc' := 16) (lv' := [some (.ref 130), some (.int v1), some (.long v2), none, none, none, none]) (st' := [.int 43, .int r3]) (h' := mkS x S4) rfl trivial ?_
      cases h5 : gfX11_sign x S4 43 with
      | none => rw [h5] at hm; cases hm
      | some q6 =>
        obtain ⟨r7, S8⟩ := q6
        rw [h5] at hm
        dsimp only at hm
        refine ev_callS (N := mX11_sign) (d' := 1) (bc := 0) (bs := 0) (bc' := 0) (bs' := 0) (as := [.int 43]) (rest := [.int r3]) (dcd tokX11_sumOf rfl) okX11_sign inX11_sign lk11_250 rfl (by omega) (Nat.le_of_ble_eq_true rfl) (gpX11_sign x S4 43 _ _ h5) (fun v h' hq hn => ?_)
        obtain ⟨rfl, rfl⟩ := hq
        refine Ev.steps tokX11_sumOf 1 (P := True) (pc' := if r3 = r7 then 38 else 22) (lv' := [some (.ref 130), some (.int v1), some (.long v2), none, none, none, none]) (st' := []) (h' := mkS x S8) rfl trivial ?_
        refine Ev.ite (fun c9 => ?_) (fun c9 => ?_)
        · rw [if_pos c9] at hm
          exact bpX11_sumOf_130_38 x (dd := dd) rec_X11_sumOf hrec_X11_sumOf rec_X11_termOf hrec_X11_termOf rec_X11_partOf hrec_X11_partOf hB k6 hk6 S8 v1 v2 _ _ hm
        · rw [if_neg c9] at hm
          refine Ev.steps tokX11_sumOf 3 (P := True) (pc' := 27) (lv' := [some (.ref 130), some (.int v1), some (.long v2), none, none, none, none]) (st' := [.int (S8.1 130 22), .ref 130]) (h' := mkS x S8) rfl trivial ?_
          cases h10 : gfX11_codeAt_130 x S8 (S8.1 130 22) with
          | none => rw [h10] at hm; cases hm
          | some q11 =>
            obtain ⟨r12, S13⟩ := q11
            rw [h10] at hm
            dsimp only at hm
            refine ev_callV (N := mX11_codeAt) (d' := 1) (bc := 0) (bs := 0) (bc' := 0) (bs' := 0) (as := [.int (S8.1 130 22)]) (rest := []) (a := 130) (ci := 11) (dcd tokX11_sumOf rfl) okX11_codeAt inX11_codeAt seX11_codeAt lk11_294 rfl (by omega) (Nat.le_of_ble_eq_true rfl) rfl ⟨by decide, rfl⟩ (gpX11_codeAt_130 x S8 (S8.1 130 22) _ _ h10) (fun v h' hq hn => ?_)
            obtain ⟨rfl, rfl⟩ := hq
            refine Ev.steps tokX11_sumOf 1 (P := True) (pc' := 32) (lv' := [some (.ref 130), some (.int v1), some (.long v2), none, none, none, none]) (st' := [.int 45, .int r12]) (h' := mkS x S13) rfl trivial ?_
            cases h14 : gfX11_sign x S13 45 with
            | none => rw [h14] at hm; cases hm
            | some q15 =>
              obtain ⟨r16, S17⟩ := q15
              rw [h14] at hm
              dsimp only at hm
              refine ev_callS (N := mX11_sign) (d' := 1) (bc := 0) (bs := 0) (bc' := 0) (bs' := 0) (as := [.int 45]) (rest := [.int r12]) (dcd tokX11_sumOf rfl) okX11_sign inX11_sign lk11_250 rfl (by omega) (Nat.le_of_ble_eq_true rfl) (gpX11_sign x S13 45 _ _ h14) (fun v h' hq hn => ?_)
              obtain ⟨rfl, rfl⟩ := hq
              refine Ev.steps tokX11_sumOf 1 (P := True) (pc' := if ¬ r12 = r16 then 103 else 38) (lv' := [some (.ref 130), some (.int v1), some (.long v2), none, none, none, none]) (st' := []) (h' := mkS x S17) rfl trivial ?_
              refine Ev.ite (fun c18 => ?_) (fun c18 => ?_)
              · rw [if_pos c18] at hm
                refine Ev.steps tokX11_sumOf 1 (P := True) (pc' := 104) (lv' := [some (.ref 130), some (.int v1), some (.long v2), none, none, none, none]) (st' := [.long v2]) (h' := mkS x S17) rfl trivial ?_
                cases hm
                exact Ev.retl tokX11_sumOf rfl rfl ⟨rfl, rfl⟩
              · rw [if_neg c18] at hm
                exact bpX11_sumOf_130_38 x (dd := dd) rec_X11_sumOf hrec_X11_sumOf rec_X11_termOf hrec_X11_termOf rec_X11_partOf hrec_X11_partOf hB k6 hk6 S17 v1 v2 _ _ hm
theorem lpX11_sumOf_130_6 (x : XT) {dd : Nat} (rec_X11_sumOf : ST → Int32 → Option (Int64 × ST)) (hrec_X11_sumOf : ∀ (S : ST) (z0 : Int32) (r : Int64) (S' : ST), rec_X11_sumOf S z0 = some (r, S') → Ct mX11_sumOf dd 0 0 [.ref 130, .int z0] (mkS x S) (fun v h => v = some (.long r) ∧ h = mkS x S')) (rec_X11_termOf : ST → Int32 → Option (Int64 × ST)) (hrec_X11_termOf : ∀ (S : ST) (z0 : Int32) (r : Int64) (S' : ST), rec_X11_termOf S z0 = some (r, S') → Ct mX11_termOf dd 0 0 [.ref 130, .int z0] (mkS x S) (fun v h => v = some (.long r) ∧ h = mkS x S')) (rec_X11_partOf : ST → Int32 → Option (Int64 × ST)) (hrec_X11_partOf : ∀ (S : ST) (z0 : Int32) (r : Int64) (S' : ST), rec_X11_partOf S z0 = some (r, S') → Ct mX11_partOf dd 0 0 [.ref 130, .int z0] (mkS x S) (fun v h => v = some (.long r) ∧ h = mkS x S')) (hB : 3 ≤ dd)  : ∀ (n : Nat) (S : ST) (v1 : Int32) (v2 : Int64) (r : Int64) (S' : ST), lfX11_sumOf_130_6 x rec_X11_sumOf rec_X11_termOf rec_X11_partOf  n S v1 v2 = some (r, S') → Ev mX11_sumOf (dd + 1) 0 0 6 [some (.ref 130), some (.int v1), some (.long v2), none, none, none, none] [] (mkS x S) (fun v h => v = some (.long r) ∧ h = mkS x S')
  | 0, _, _, _, _, _, hm => by cases hm
  | n + 1, S, v1, v2, r, S', hm => bpX11_sumOf_130_6 x (dd := dd) rec_X11_sumOf hrec_X11_sumOf rec_X11_termOf hrec_X11_termOf rec_X11_partOf hrec_X11_partOf hB (lfX11_sumOf_130_6 x rec_X11_sumOf rec_X11_termOf rec_X11_partOf  n) (lpX11_sumOf_130_6 x (dd := dd) rec_X11_sumOf hrec_X11_sumOf rec_X11_termOf hrec_X11_termOf rec_X11_partOf hrec_X11_partOf hB  n) S v1 v2 r S' hm
set_option maxHeartbeats 4000000 in
set_option maxRecDepth 20000 in
theorem bpX11_sumOf_130_0 (x : XT) {dd : Nat} (rec_X11_sumOf : ST → Int32 → Option (Int64 × ST)) (hrec_X11_sumOf : ∀ (S : ST) (z0 : Int32) (r : Int64) (S' : ST), rec_X11_sumOf S z0 = some (r, S') → Ct mX11_sumOf dd 0 0 [.ref 130, .int z0] (mkS x S) (fun v h => v = some (.long r) ∧ h = mkS x S')) (rec_X11_termOf : ST → Int32 → Option (Int64 × ST)) (hrec_X11_termOf : ∀ (S : ST) (z0 : Int32) (r : Int64) (S' : ST), rec_X11_termOf S z0 = some (r, S') → Ct mX11_termOf dd 0 0 [.ref 130, .int z0] (mkS x S) (fun v h => v = some (.long r) ∧ h = mkS x S')) (rec_X11_partOf : ST → Int32 → Option (Int64 × ST)) (hrec_X11_partOf : ∀ (S : ST) (z0 : Int32) (r : Int64) (S' : ST), rec_X11_partOf S z0 = some (r, S') → Ct mX11_partOf dd 0 0 [.ref 130, .int z0] (mkS x S) (fun v h => v = some (.long r) ∧ h = mkS x S')) (hB : 3 ≤ dd)  (S : ST) (p1 : Int32) (r : Int64) (S' : ST) (hm : bfX11_sumOf_130_0 x rec_X11_sumOf rec_X11_termOf rec_X11_partOf  S p1 = some (r, S')) : Ev mX11_sumOf (dd + 1) 0 0 0 [some (.ref 130), some (.int p1), none, none, none, none, none] [] (mkS x S) (fun v h => v = some (.long r) ∧ h = mkS x S') := by
    unfold bfX11_sumOf_130_0 at hm
    refine Ev.steps tokX11_sumOf 2 (P := True) (pc' := 2) (lv' := [some (.ref 130), some (.int p1), none, none, none, none, none]) (st' := [.int p1, .ref 130]) (h' := mkS x S) rfl trivial ?_
    cases h1 : rec_X11_termOf S p1 with
    | none => rw [h1] at hm; cases hm
    | some q2 =>
      obtain ⟨r3, S4⟩ := q2
      rw [h1] at hm
      dsimp only at hm
      refine ev_callV (N := mX11_termOf) (d' := dd) (bc := 0) (bs := 0) (bc' := 0) (bs' := 0) (as := [.int p1]) (rest := []) (a := 130) (ci := 11) (dcd tokX11_sumOf rfl) okX11_termOf inX11_termOf seX11_termOf lk11_304 rfl (by omega) (Nat.le_of_ble_eq_true rfl) rfl ⟨by decide, rfl⟩ (hrec_X11_termOf S p1 _ _ h1) (fun v h' hq hn => ?_)
      obtain ⟨rfl, rfl⟩ := hq
      refine Ev.steps tokX11_sumOf 1 (P := True) (pc' := 6) (lv' := [some (.ref 130), some (.int p1), some (.long r3), none, none, none, none]) (st' := []) (h' := mkS x S4) rfl trivial ?_
      exact lpX11_sumOf_130_6 x (dd := dd) rec_X11_sumOf hrec_X11_sumOf rec_X11_termOf hrec_X11_termOf rec_X11_partOf hrec_X11_partOf hB  20000 S4 p1 r3 _ _ hm
theorem grpX11_sumOf_130 (x : XT) {dd : Nat} (rec_X11_sumOf : ST → Int32 → Option (Int64 × ST)) (hrec_X11_sumOf : ∀ (S : ST) (z0 : Int32) (r : Int64) (S' : ST), rec_X11_sumOf S z0 = some (r, S') → Ct mX11_sumOf dd 0 0 [.ref 130, .int z0] (mkS x S) (fun v h => v = some (.long r) ∧ h = mkS x S')) (rec_X11_termOf : ST → Int32 → Option (Int64 × ST)) (hrec_X11_termOf : ∀ (S : ST) (z0 : Int32) (r : Int64) (S' : ST), rec_X11_termOf S z0 = some (r, S') → Ct mX11_termOf dd 0 0 [.ref 130, .int z0] (mkS x S) (fun v h => v = some (.long r) ∧ h = mkS x S')) (rec_X11_partOf : ST → Int32 → Option (Int64 × ST)) (hrec_X11_partOf : ∀ (S : ST) (z0 : Int32) (r : Int64) (S' : ST), rec_X11_partOf S z0 = some (r, S') → Ct mX11_partOf dd 0 0 [.ref 130, .int z0] (mkS x S) (fun v h => v = some (.long r) ∧ h = mkS x S')) (hB : 3 ≤ dd) (S : ST) (p1 : Int32) (r : Int64) (S' : ST) (hm : grfX11_sumOf_130 x rec_X11_sumOf rec_X11_termOf rec_X11_partOf S p1 = some (r, S')) : Ct mX11_sumOf (dd + 1) 0 0 [.ref 130, .int p1] (mkS x S) (fun v h => v = some (.long r) ∧ h = mkS x S') :=
  Ct.of (lv := [some (.ref 130), some (.int p1), none, none, none, none, none]) rfl rfl rfl (show (_ : Nat) ≤ _ from Nat.le_of_ble_eq_true rfl) (fun G => rfl) (bpX11_sumOf_130_0 x (dd := dd) rec_X11_sumOf hrec_X11_sumOf rec_X11_termOf hrec_X11_termOf rec_X11_partOf hrec_X11_partOf hB S p1 r S' hm)
set_option maxHeartbeats 4000000 in
set_option maxRecDepth 20000 in
theorem bpX11_termOf_130_160 (x : XT) {dd : Nat} (rec_X11_sumOf : ST → Int32 → Option (Int64 × ST)) (hrec_X11_sumOf : ∀ (S : ST) (z0 : Int32) (r : Int64) (S' : ST), rec_X11_sumOf S z0 = some (r, S') → Ct mX11_sumOf dd 0 0 [.ref 130, .int z0] (mkS x S) (fun v h => v = some (.long r) ∧ h = mkS x S')) (rec_X11_termOf : ST → Int32 → Option (Int64 × ST)) (hrec_X11_termOf : ∀ (S : ST) (z0 : Int32) (r : Int64) (S' : ST), rec_X11_termOf S z0 = some (r, S') → Ct mX11_termOf dd 0 0 [.ref 130, .int z0] (mkS x S) (fun v h => v = some (.long r) ∧ h = mkS x S')) (rec_X11_partOf : ST → Int32 → Option (Int64 × ST)) (hrec_X11_partOf : ∀ (S : ST) (z0 : Int32) (r : Int64) (S' : ST), rec_X11_partOf S z0 = some (r, S') → Ct mX11_partOf dd 0 0 [.ref 130, .int z0] (mkS x S) (fun v h => v = some (.long r) ∧ h = mkS x S')) (hB : 3 ≤ dd) (k6 : ST → Int32 → Int64 → Option (Int64 × ST)) (hk6 : ∀ (S : ST) (v1 : Int32) (v2 : Int64) (r : Int64) (S' : ST), k6 S v1 v2 = some (r, S') → Ev mX11_termOf (dd + 1) 0 0 6 [some (.ref 130), some (.int v1), some (.long v2), none, none, none, none] [] (mkS x S) (fun v h => v = some (.long r) ∧ h = mkS x S')) (S : ST) (v1 : Int32) (t1 : Int64) (r : Int64) (S' : ST) (hm : bfX11_termOf_130_160 x rec_X11_sumOf rec_X11_termOf rec_X11_partOf k6 S v1 t1 = some (r, S')) : Ev mX11_termOf (dd + 1) 0 0 160 [some (.ref 130), some (.int v1), none, none, none, none, none] [.long t1, .ref 130] (mkS x S) (fun v h => v = some (.long r) ∧ h = mkS x S') := by
    unfold bfX11_termOf_130_160 at hm
    refine Ev.steps tokX11_termOf 1 (P := True) (pc' := 161) (lv' := [some (.ref 130), some (.int v1), none, none, none, none, none]) (st' := [.int v1, .long t1, .ref 130]) (h' := mkS x S) rfl trivial ?_
    cases h1 : gfX11_bounded_130 x S t1 v1 with
    | none => rw [h1] at hm; cases hm
    | some q2 =>
      obtain ⟨r3, S4⟩ := q2
      rw [h1] at hm
      dsimp only at hm
      refine ev_callV (N := mX11_bounded) (d' := 1) (bc := 0) (bs := 0) (bc' := 0) (bs' := 0) (as := [.long t1, .int v1]) (rest := []) (a := 130) (ci := 11) (dcd tokX11_termOf rfl) okX11_bounded inX11_bounded seX11_bounded lk11_308 rfl (by omega) (Nat.le_of_ble_eq_true rfl) rfl ⟨by decide, rfl⟩ (gpX11_bounded_130 x S t1 v1 _ _ h1) (fun v h' hq hn => ?_)
      obtain ⟨rfl, rfl⟩ := hq
      refine Ev.steps tokX11_termOf 2 (P := True) (pc' := 6) (lv' := [some (.ref 130), some (.int v1), some (.long r3), none, none, none, none]) (st' := []) (h' := mkS x S4) rfl trivial ?_
      exact hk6 S4 v1 r3 _ _ hm
set_option maxHeartbeats 4000000 in
set_option maxRecDepth 20000 in
theorem bpX11_termOf_130_121 (x : XT) {dd : Nat} (rec_X11_sumOf : ST → Int32 → Option (Int64 × ST)) (hrec_X11_sumOf : ∀ (S : ST) (z0 : Int32) (r : Int64) (S' : ST), rec_X11_sumOf S z0 = some (r, S') → Ct mX11_sumOf dd 0 0 [.ref 130, .int z0] (mkS x S) (fun v h => v = some (.long r) ∧ h = mkS x S')) (rec_X11_termOf : ST → Int32 → Option (Int64 × ST)) (hrec_X11_termOf : ∀ (S : ST) (z0 : Int32) (r : Int64) (S' : ST), rec_X11_termOf S z0 = some (r, S') → Ct mX11_termOf dd 0 0 [.ref 130, .int z0] (mkS x S) (fun v h => v = some (.long r) ∧ h = mkS x S')) (rec_X11_partOf : ST → Int32 → Option (Int64 × ST)) (hrec_X11_partOf : ∀ (S : ST) (z0 : Int32) (r : Int64) (S' : ST), rec_X11_partOf S z0 = some (r, S') → Ct mX11_partOf dd 0 0 [.ref 130, .int z0] (mkS x S) (fun v h => v = some (.long r) ∧ h = mkS x S')) (hB : 3 ≤ dd) (k6 : ST → Int32 → Int64 → Option (Int64 × ST)) (hk6 : ∀ (S : ST) (v1 : Int32) (v2 : Int64) (r : Int64) (S' : ST), k6 S v1 v2 = some (r, S') → Ev mX11_termOf (dd + 1) 0 0 6 [some (.ref 130), some (.int v1), some (.long v2), none, none, none, none] [] (mkS x S) (fun v h => v = some (.long r) ∧ h = mkS x S')) (S : ST) (v1 : Int32) (v2 : Int64) (v4 : Int32) (v5 : Int64) (r : Int64) (S' : ST) (hm : bfX11_termOf_130_121 x rec_X11_sumOf rec_X11_termOf rec_X11_partOf k6 S v1 v2 v4 v5 = some (r, S')) : Ev mX11_termOf (dd + 1) 0 0 121 [some (.ref 130), some (.int v1), some (.long v2), none, some (.int v4), some (.long v5), none] [] (mkS x S) (fun v h => v = some (.long r) ∧ h = mkS x S') := by
    unfold bfX11_termOf_130_121 at hm
    refine Ev.steps tokX11_termOf 3 (P := True) (pc' := 126) (lv' := [some (.ref 130), some (.int v1), some (.long v2), none, some (.int v4), some (.long v5), none]) (st' := [.int 42, .int v4, .ref 130]) (h' := mkS x S) rfl trivial ?_
    cases h1 : gfX11_sign x S 42 with
    | none => rw [h1] at hm; cases hm
    | some q2 =>
      obtain ⟨r3, S4⟩ := q2
      rw [h1] at hm
      dsimp only at hm
      refine ev_callS (N := mX11_sign) (d' := 1) (bc := 0) (bs := 0) (bc' := 0) (bs' := 0) (as := [.int 42]) (rest := [.int v4, .ref 130]) (dcd tokX11_termOf rfl) okX11_sign inX11_sign lk11_250 rfl (by omega) (Nat.le_of_ble_eq_true rfl) (gpX11_sign x S 42 _ _ h1) (fun v h' hq hn => ?_)
      obtain ⟨rfl, rfl⟩ := hq
      refine Ev.steps tokX11_termOf 1 (P := True) (pc' := if ¬ v4 = r3 then 139 else 132) (lv' := [some (.ref 130), some (.int v1), some (.long v2), none, some (.int v4), some (.long v5), none]) (st' := [.ref 130]) (h' := mkS x S4) rfl trivial ?_
      refine Ev.ite (fun c5 => ?_) (fun c5 => ?_)
      · rw [if_pos c5] at hm
        refine Ev.steps tokX11_termOf 2 (P := True) (pc' := 143) (lv' := [some (.ref 130), some (.int v1), some (.long v2), none, some (.int v4), some (.long v5), none]) (st' := [.int 47, .int v4, .ref 130]) (h' := mkS x S4) rfl trivial ?_
        cases h6 : gfX11_sign x S4 47 with
        | none => rw [h6] at hm; cases hm
        | some q7 =>
          obtain ⟨r8, S9⟩ := q7
          rw [h6] at hm
          dsimp only at hm
          refine ev_callS (N := mX11_sign) (d' := 1) (bc := 0) (bs := 0) (bc' := 0) (bs' := 0) (as := [.int 47]) (rest := [.int v4, .ref 130]) (dcd tokX11_termOf rfl) okX11_sign inX11_sign lk11_250 rfl (by omega) (Nat.le_of_ble_eq_true rfl) (gpX11_sign x S4 47 _ _ h6) (fun v h' hq hn => ?_)
          obtain ⟨rfl, rfl⟩ := hq
          refine Ev.steps tokX11_termOf 1 (P := True) (pc' := if ¬ v4 = r8 then 156 else 149) (lv' := [some (.ref 130), some (.int v1), some (.long v2), none, some (.int v4), some (.long v5), none]) (st' := [.ref 130]) (h' := mkS x S9) rfl trivial ?_
          refine Ev.ite (fun c10 => ?_) (fun c10 => ?_)
          · rw [if_pos c10] at hm
            obtain ⟨o11, hm⟩ := oblk hm
            refine Ev.steps tokX11_termOf 3 (P := ¬ v5 = 0 ∧ True) (pc' := 160) (lv' := [some (.ref 130), some (.int v1), some (.long v2), none, some (.int v4), some (.long v5), none]) (st' := [.long (v2 - v2 / v5 * v5), .ref 130]) (h' := mkS x S9) rfl ⟨nzl_ok o11, trivial⟩ ?_
            refine Ev.fgt (lv' := [some (.ref 130), some (.int v1), none, none, none, none, none]) ⟨rfl, rfl, trivial⟩ ?_
            exact bpX11_termOf_130_160 x (dd := dd) rec_X11_sumOf hrec_X11_sumOf rec_X11_termOf hrec_X11_termOf rec_X11_partOf hrec_X11_partOf hB k6 hk6 S9 v1 (v2 - v2 / v5 * v5) _ _ hm
          · rw [if_neg c10] at hm
            obtain ⟨o12, hm⟩ := oblk hm
            refine Ev.steps tokX11_termOf 4 (P := ¬ v5 = 0 ∧ True) (pc' := 160) (lv' := [some (.ref 130), some (.int v1), some (.long v2), none, some (.int v4), some (.long v5), none]) (st' := [.long (v2 / v5), .ref 130]) (h' := mkS x S9) rfl ⟨nzl_ok o12, trivial⟩ ?_
            refine Ev.fgt (lv' := [some (.ref 130), some (.int v1), none, none, none, none, none]) ⟨rfl, rfl, trivial⟩ ?_
            exact bpX11_termOf_130_160 x (dd := dd) rec_X11_sumOf hrec_X11_sumOf rec_X11_termOf hrec_X11_termOf rec_X11_partOf hrec_X11_partOf hB k6 hk6 S9 v1 (v2 / v5) _ _ hm
      · rw [if_neg c5] at hm
        refine Ev.steps tokX11_termOf 4 (P := True) (pc' := 160) (lv' := [some (.ref 130), some (.int v1), some (.long v2), none, some (.int v4), some (.long v5), none]) (st' := [.long (v2 * v5), .ref 130]) (h' := mkS x S4) rfl trivial ?_
        refine Ev.fgt (lv' := [some (.ref 130), some (.int v1), none, none, none, none, none]) ⟨rfl, rfl, trivial⟩ ?_
        exact bpX11_termOf_130_160 x (dd := dd) rec_X11_sumOf hrec_X11_sumOf rec_X11_termOf hrec_X11_termOf rec_X11_partOf hrec_X11_partOf hB k6 hk6 S4 v1 (v2 * v5) _ _ hm
set_option maxHeartbeats 4000000 in
set_option maxRecDepth 20000 in
theorem bpX11_termOf_130_115 (x : XT) {dd : Nat} (rec_X11_sumOf : ST → Int32 → Option (Int64 × ST)) (hrec_X11_sumOf : ∀ (S : ST) (z0 : Int32) (r : Int64) (S' : ST), rec_X11_sumOf S z0 = some (r, S') → Ct mX11_sumOf dd 0 0 [.ref 130, .int z0] (mkS x S) (fun v h => v = some (.long r) ∧ h = mkS x S')) (rec_X11_termOf : ST → Int32 → Option (Int64 × ST)) (hrec_X11_termOf : ∀ (S : ST) (z0 : Int32) (r : Int64) (S' : ST), rec_X11_termOf S z0 = some (r, S') → Ct mX11_termOf dd 0 0 [.ref 130, .int z0] (mkS x S) (fun v h => v = some (.long r) ∧ h = mkS x S')) (rec_X11_partOf : ST → Int32 → Option (Int64 × ST)) (hrec_X11_partOf : ∀ (S : ST) (z0 : Int32) (r : Int64) (S' : ST), rec_X11_partOf S z0 = some (r, S') → Ct mX11_partOf dd 0 0 [.ref 130, .int z0] (mkS x S) (fun v h => v = some (.long r) ∧ h = mkS x S')) (hB : 3 ≤ dd) (k6 : ST → Int32 → Int64 → Option (Int64 × ST)) (hk6 : ∀ (S : ST) (v1 : Int32) (v2 : Int64) (r : Int64) (S' : ST), k6 S v1 v2 = some (r, S') → Ev mX11_termOf (dd + 1) 0 0 6 [some (.ref 130), some (.int v1), some (.long v2), none, none, none, none] [] (mkS x S) (fun v h => v = some (.long r) ∧ h = mkS x S')) (S : ST) (v1 : Int32) (v2 : Int64) (v4 : Int32) (t1 : Int32) (r : Int64) (S' : ST) (hm : bfX11_termOf_130_115 x rec_X11_sumOf rec_X11_termOf rec_X11_partOf k6 S v1 v2 v4 t1 = some (r, S')) : Ev mX11_termOf (dd + 1) 0 0 115 [some (.ref 130), some (.int v1), some (.long v2), none, some (.int v4), none, none] [.int t1, .ref 130] (mkS x S) (fun v h => v = some (.long r) ∧ h = mkS x S') := by
    unfold bfX11_termOf_130_115 at hm
    obtain ⟨o1, hm⟩ := oblk hm
    refine Ev.steps tokX11_termOf 3 (P := (t1 = 0 ∨ t1 = 1) ∧ True) (pc' := 121) (lv' := [some (.ref 130), some (.int v1), some (.long v2), none, some (.int v4), some (.long 1), none]) (st' := []) (h' := mkS x ((u2 S.1 130 24 t1), S.2.1, S.2.2.1, S.2.2.2)) rfl ⟨bbz_ok o1, trivial⟩ ?_
    exact bpX11_termOf_130_121 x (dd := dd) rec_X11_sumOf hrec_X11_sumOf rec_X11_termOf hrec_X11_termOf rec_X11_partOf hrec_X11_partOf hB k6 hk6 ((u2 S.1 130 24 t1), S.2.1, S.2.2.1, S.2.2.2) v1 v2 v4 1 _ _ hm
set_option maxHeartbeats 4000000 in
set_option maxRecDepth 20000 in
theorem bpX11_termOf_130_110 (x : XT) {dd : Nat} (rec_X11_sumOf : ST → Int32 → Option (Int64 × ST)) (hrec_X11_sumOf : ∀ (S : ST) (z0 : Int32) (r : Int64) (S' : ST), rec_X11_sumOf S z0 = some (r, S') → Ct mX11_sumOf dd 0 0 [.ref 130, .int z0] (mkS x S) (fun v h => v = some (.long r) ∧ h = mkS x S')) (rec_X11_termOf : ST → Int32 → Option (Int64 × ST)) (hrec_X11_termOf : ∀ (S : ST) (z0 : Int32) (r : Int64) (S' : ST), rec_X11_termOf S z0 = some (r, S') → Ct mX11_termOf dd 0 0 [.ref 130, .int z0] (mkS x S) (fun v h => v = some (.long r) ∧ h = mkS x S')) (rec_X11_partOf : ST → Int32 → Option (Int64 × ST)) (hrec_X11_partOf : ∀ (S : ST) (z0 : Int32) (r : Int64) (S' : ST), rec_X11_partOf S z0 = some (r, S') → Ct mX11_partOf dd 0 0 [.ref 130, .int z0] (mkS x S) (fun v h => v = some (.long r) ∧ h = mkS x S')) (hB : 3 ≤ dd) (k6 : ST → Int32 → Int64 → Option (Int64 × ST)) (hk6 : ∀ (S : ST) (v1 : Int32) (v2 : Int64) (r : Int64) (S' : ST), k6 S v1 v2 = some (r, S') → Ev mX11_termOf (dd + 1) 0 0 6 [some (.ref 130), some (.int v1), some (.long v2), none, none, none, none] [] (mkS x S) (fun v h => v = some (.long r) ∧ h = mkS x S')) (S : ST) (v1 : Int32) (v2 : Int64) (v4 : Int32) (r : Int64) (S' : ST) (hm : bfX11_termOf_130_110 x rec_X11_sumOf rec_X11_termOf rec_X11_partOf k6 S v1 v2 v4 = some (r, S')) : Ev mX11_termOf (dd + 1) 0 0 110 [some (.ref 130), some (.int v1), some (.long v2), none, some (.int v4), none, none] [.ref 130] (mkS x S) (fun v h => v = some (.long r) ∧ h = mkS x S') := by
    unfold bfX11_termOf_130_110 at hm
    refine Ev.steps tokX11_termOf 2 (P := True) (pc' := 115) (lv' := [some (.ref 130), some (.int v1), some (.long v2), none, some (.int v4), none, none]) (st' := [.int 1, .ref 130]) (h' := mkS x S) rfl trivial ?_
    exact bpX11_termOf_130_115 x (dd := dd) rec_X11_sumOf hrec_X11_sumOf rec_X11_termOf hrec_X11_termOf rec_X11_partOf hrec_X11_partOf hB k6 hk6 S v1 v2 v4 1 _ _ hm
set_option maxHeartbeats 4000000 in
set_option maxRecDepth 20000 in
theorem bpX11_termOf_130_54 (x : XT) {dd : Nat} (rec_X11_sumOf : ST → Int32 → Option (Int64 × ST)) (hrec_X11_sumOf : ∀ (S : ST) (z0 : Int32) (r : Int64) (S' : ST), rec_X11_sumOf S z0 = some (r, S') → Ct mX11_sumOf dd 0 0 [.ref 130, .int z0] (mkS x S) (fun v h => v = some (.long r) ∧ h = mkS x S')) (rec_X11_termOf : ST → Int32 → Option (Int64 × ST)) (hrec_X11_termOf : ∀ (S : ST) (z0 : Int32) (r : Int64) (S' : ST), rec_X11_termOf S z0 = some (r, S') → Ct mX11_termOf dd 0 0 [.ref 130, .int z0] (mkS x S) (fun v h => v = some (.long r) ∧ h = mkS x S')) (rec_X11_partOf : ST → Int32 → Option (Int64 × ST)) (hrec_X11_partOf : ∀ (S : ST) (z0 : Int32) (r : Int64) (S' : ST), rec_X11_partOf S z0 = some (r, S') → Ct mX11_partOf dd 0 0 [.ref 130, .int z0] (mkS x S) (fun v h => v = some (.long r) ∧ h = mkS x S')) (hB : 3 ≤ dd) (k6 : ST → Int32 → Int64 → Option (Int64 × ST)) (hk6 : ∀ (S : ST) (v1 : Int32) (v2 : Int64) (r : Int64) (S' : ST), k6 S v1 v2 = some (r, S') → Ev mX11_termOf (dd + 1) 0 0 6 [some (.ref 130), some (.int v1), some (.long v2), none, none, none, none] [] (mkS x S) (fun v h => v = some (.long r) ∧ h = mkS x S')) (S : ST) (v1 : Int32) (v2 : Int64) (r : Int64) (S' : ST) (hm : bfX11_termOf_130_54 x rec_X11_sumOf rec_X11_termOf rec_X11_partOf k6 S v1 v2 = some (r, S')) : Ev mX11_termOf (dd + 1) 0 0 54 [some (.ref 130), some (.int v1), some (.long v2), none, none, none, none] [] (mkS x S) (fun v h => v = some (.long r) ∧ h = mkS x S') := by
    unfold bfX11_termOf_130_54 at hm
    refine Ev.steps tokX11_termOf 3 (P := True) (pc' := 59) (lv' := [some (.ref 130), some (.int v1), some (.long v2), none, none, none, none]) (st' := [.int (S.1 130 22), .ref 130]) (h' := mkS x S) rfl trivial ?_
    cases h1 : gfX11_codeAt_130 x S (S.1 130 22) with
    | none => rw [h1] at hm; cases hm
    | some q2 =>
      obtain ⟨r3, S4⟩ := q2
      rw [h1] at hm
      dsimp only at hm
      refine ev_callV (N := mX11_codeAt) (d' := 1) (bc := 0) (bs := 0) (bc' := 0) (bs' := 0) (as := [.int (S.1 130 22)]) (rest := []) (a := 130) (ci := 11) (dcd tokX11_termOf rfl) okX11_codeAt inX11_codeAt seX11_codeAt lk11_294 rfl (by omega) (Nat.le_of_ble_eq_true rfl) rfl ⟨by decide, rfl⟩ (gpX11_codeAt_130 x S (S.1 130 22) _ _ h1) (fun v h' hq hn => ?_)
      obtain ⟨rfl, rfl⟩ := hq
      refine Ev.steps tokX11_termOf 9 (P := True) (pc' := 76) (lv' := [some (.ref 130), some (.int v1), some (.long v2), none, some (.int r3), none, none]) (st' := [.int v1, .ref 130]) (h' := mkS x ((u2 S4.1 130 22 ((S4.1 130 22) + 1)), S4.2.1, S4.2.2.1, S4.2.2.2)) rfl trivial ?_
      cases h5 : rec_X11_partOf ((u2 S4.1 130 22 ((S4.1 130 22) + 1)), S4.2.1, S4.2.2.1, S4.2.2.2) v1 with
      | none => rw [h5] at hm; cases hm
      | some q6 =>
        obtain ⟨r7, S8⟩ := q6
        rw [h5] at hm
        dsimp only at hm
        refine ev_callV (N := mX11_partOf) (d' := dd) (bc := 0) (bs := 0) (bc' := 0) (bs' := 0) (as := [.int v1]) (rest := []) (a := 130) (ci := 11) (dcd tokX11_termOf rfl) okX11_partOf inX11_partOf seX11_partOf lk11_312 rfl (by omega) (Nat.le_of_ble_eq_true rfl) rfl ⟨by decide, rfl⟩ (hrec_X11_partOf ((u2 S4.1 130 22 ((S4.1 130 22) + 1)), S4.2.1, S4.2.2.1, S4.2.2.2) v1 _ _ h5) (fun v h' hq hn => ?_)
        obtain ⟨rfl, rfl⟩ := hq
        refine Ev.steps tokX11_termOf 3 (P := True) (pc' := 85) (lv' := [some (.ref 130), some (.int v1), some (.long v2), none, some (.int r3), some (.long r7), none]) (st' := [.int 42, .int r3]) (h' := mkS x S8) rfl trivial ?_
        cases h9 : gfX11_sign x S8 42 with
        | none => rw [h9] at hm; cases hm
        | some q10 =>
          obtain ⟨r11, S12⟩ := q10
          rw [h9] at hm
          dsimp only at hm
          refine ev_callS (N := mX11_sign) (d' := 1) (bc := 0) (bs := 0) (bc' := 0) (bs' := 0) (as := [.int 42]) (rest := [.int r3]) (dcd tokX11_termOf rfl) okX11_sign inX11_sign lk11_250 rfl (by omega) (Nat.le_of_ble_eq_true rfl) (gpX11_sign x S8 42 _ _ h9) (fun v h' hq hn => ?_)
          obtain ⟨rfl, rfl⟩ := hq
          refine Ev.steps tokX11_termOf 1 (P := True) (pc' := if r3 = r11 then 121 else 91) (lv' := [some (.ref 130), some (.int v1), some (.long v2), none, some (.int r3), some (.long r7), none]) (st' := []) (h' := mkS x S12) rfl trivial ?_
          refine Ev.ite (fun c13 => ?_) (fun c13 => ?_)
          · rw [if_pos c13] at hm
            exact bpX11_termOf_130_121 x (dd := dd) rec_X11_sumOf hrec_X11_sumOf rec_X11_termOf hrec_X11_termOf rec_X11_partOf hrec_X11_partOf hB k6 hk6 S12 v1 v2 r3 r7 _ _ hm
          · rw [if_neg c13] at hm
            refine Ev.steps tokX11_termOf 4 (P := True) (pc' := if ¬ (lg_cmp r7 0) = 0 then 121 else 98) (lv' := [some (.ref 130), some (.int v1), some (.long v2), none, some (.int r3), some (.long r7), none]) (st' := []) (h' := mkS x S12) rfl trivial ?_
            refine Ev.ite (fun c14 => ?_) (fun c14 => ?_)
            · rw [if_pos c14] at hm
              exact bpX11_termOf_130_121 x (dd := dd) rec_X11_sumOf hrec_X11_sumOf rec_X11_termOf hrec_X11_termOf rec_X11_partOf hrec_X11_partOf hB k6 hk6 S12 v1 v2 r3 r7 _ _ hm
            · rw [if_neg c14] at hm
              refine Ev.steps tokX11_termOf 4 (P := True) (pc' := if ¬ (S12.1 130 24) = 0 then 110 else 106) (lv' := [some (.ref 130), some (.int v1), some (.long v2), none, some (.int r3), some (.long r7), none]) (st' := [.ref 130]) (h' := mkS x S12) rfl trivial ?_
              refine Ev.ite (fun c15 => ?_) (fun c15 => ?_)
              · rw [if_pos c15] at hm
                refine Ev.fgt (lv' := [some (.ref 130), some (.int v1), some (.long v2), none, some (.int r3), none, none]) ⟨rfl, rfl, rfl, rfl, trivial⟩ ?_
                exact bpX11_termOf_130_110 x (dd := dd) rec_X11_sumOf hrec_X11_sumOf rec_X11_termOf hrec_X11_termOf rec_X11_partOf hrec_X11_partOf hB k6 hk6 S12 v1 v2 r3 _ _ hm
              · rw [if_neg c15] at hm
                refine Ev.steps tokX11_termOf 2 (P := True) (pc' := if v1 = 0 then 114 else 110) (lv' := [some (.ref 130), some (.int v1), some (.long v2), none, some (.int r3), some (.long r7), none]) (st' := [.ref 130]) (h' := mkS x S12) rfl trivial ?_
                refine Ev.ite (fun c16 => ?_) (fun c16 => ?_)
                · rw [if_pos c16] at hm
                  refine Ev.steps tokX11_termOf 1 (P := True) (pc' := 115) (lv' := [some (.ref 130), some (.int v1), some (.long v2), none, some (.int r3), some (.long r7), none]) (st' := [.int 0, .ref 130]) (h' := mkS x S12) rfl trivial ?_
                  refine Ev.fgt (lv' := [some (.ref 130), some (.int v1), some (.long v2), none, some (.int r3), none, none]) ⟨rfl, rfl, rfl, rfl, trivial⟩ ?_
                  exact bpX11_termOf_130_115 x (dd := dd) rec_X11_sumOf hrec_X11_sumOf rec_X11_termOf hrec_X11_termOf rec_X11_partOf hrec_X11_partOf hB k6 hk6 S12 v1 v2 r3 0 _ _ hm
                · rw [if_neg c16] at hm
                  refine Ev.fgt (lv' := [some (.ref 130), some (.int v1), some (.long v2), none, some (.int r3), none, none]) ⟨rfl, rfl, rfl, rfl, trivial⟩ ?_
                  exact bpX11_termOf_130_110 x (dd := dd) rec_X11_sumOf hrec_X11_sumOf rec_X11_termOf hrec_X11_termOf rec_X11_partOf hrec_X11_partOf hB k6 hk6 S12 v1 v2 r3 _ _ hm
set_option maxHeartbeats 4000000 in
set_option maxRecDepth 20000 in
theorem bpX11_termOf_130_6 (x : XT) {dd : Nat} (rec_X11_sumOf : ST → Int32 → Option (Int64 × ST)) (hrec_X11_sumOf : ∀ (S : ST) (z0 : Int32) (r : Int64) (S' : ST), rec_X11_sumOf S z0 = some (r, S') → Ct mX11_sumOf dd 0 0 [.ref 130, .int z0] (mkS x S) (fun v h => v = some (.long r) ∧ h = mkS x S')) (rec_X11_termOf : ST → Int32 → Option (Int64 × ST)) (hrec_X11_termOf : ∀ (S : ST) (z0 : Int32) (r : Int64) (S' : ST), rec_X11_termOf S z0 = some (r, S') → Ct mX11_termOf dd 0 0 [.ref 130, .int z0] (mkS x S) (fun v h => v = some (.long r) ∧ h = mkS x S')) (rec_X11_partOf : ST → Int32 → Option (Int64 × ST)) (hrec_X11_partOf : ∀ (S : ST) (z0 : Int32) (r : Int64) (S' : ST), rec_X11_partOf S z0 = some (r, S') → Ct mX11_partOf dd 0 0 [.ref 130, .int z0] (mkS x S) (fun v h => v = some (.long r) ∧ h = mkS x S')) (hB : 3 ≤ dd) (k6 : ST → Int32 → Int64 → Option (Int64 × ST)) (hk6 : ∀ (S : ST) (v1 : Int32) (v2 : Int64) (r : Int64) (S' : ST), k6 S v1 v2 = some (r, S') → Ev mX11_termOf (dd + 1) 0 0 6 [some (.ref 130), some (.int v1), some (.long v2), none, none, none, none] [] (mkS x S) (fun v h => v = some (.long r) ∧ h = mkS x S')) (S : ST) (v1 : Int32) (v2 : Int64) (r : Int64) (S' : ST) (hm : bfX11_termOf_130_6 x rec_X11_sumOf rec_X11_termOf rec_X11_partOf k6 S v1 v2 = some (r, S')) : Ev mX11_termOf (dd + 1) 0 0 6 [some (.ref 130), some (.int v1), some (.long v2), none, none, none, none] [] (mkS x S) (fun v h => v = some (.long r) ∧ h = mkS x S') := by
    unfold bfX11_termOf_130_6 at hm
    refine Ev.steps tokX11_termOf 3 (P := True) (pc' := 11) (lv' := [some (.ref 130), some (.int v1), some (.long v2), none, none, none, none]) (st' := [.int (S.1 130 22), .ref 130]) (h' := mkS x S) rfl trivial ?_
    cases h1 : gfX11_codeAt_130 x S (S.1 130 22) with
    | none => rw [h1] at hm; cases hm
    | some q2 =>
      obtain ⟨r3, S4⟩ := q2
      rw [h1] at hm
      dsimp only at hm
      refine ev_callV (N := mX11_codeAt) (d' := 1) (bc := 0) (bs := 0) (bc' := 0) (bs' := 0) (as := [.int (S.1 130 22)]) (rest := []) (a := 130) (ci := 11) (dcd tokX11_termOf rfl) okX11_codeAt inX11_codeAt seX11_codeAt lk11_294 rfl (by omega) (Nat.le_of_ble_eq_true rfl) rfl ⟨by decide, rfl⟩ (gpX11_codeAt_130 x S (S.1 130 22) _ _ h1) (fun v h' hq hn => ?_)
      obtain ⟨rfl, rfl⟩ := hq
      refine Ev.steps tokX11_termOf 1 (P := True) (pc' := 16) (lv' := [some (.ref 130), some (.int v1), some (.long v2), none, none, none, none]) (st' := [.int 42, .int r3]) (h' := mkS x S4) rfl trivial ?_
      cases h5 : gfX11_sign x S4 42 with
      | none => rw [h5] at hm; cases hm
      | some q6 =>
        obtain ⟨r7, S8⟩ := q6
        rw [h5] at hm
        dsimp only at hm
        refine ev_callS (N := mX11_sign) (d' := 1) (bc := 0) (bs := 0) (bc' := 0) (bs' := 0) (as := [.int 42]) (rest := [.int r3]) (dcd tokX11_termOf rfl) okX11_sign inX11_sign lk11_250 rfl (by omega) (Nat.le_of_ble_eq_true rfl) (gpX11_sign x S4 42 _ _ h5) (fun v h' hq hn => ?_)
        obtain ⟨rfl, rfl⟩ := hq
        refine Ev.steps tokX11_termOf 1 (P := True) (pc' := if r3 = r7 then 54 else 22) (lv' := [some (.ref 130), some (.int v1), some (.long v2), none, none, none, none]) (st' := []) (h' := mkS x S8) rfl trivial ?_
        refine Ev.ite (fun c9 => ?_) (fun c9 => ?_)
        · rw [if_pos c9] at hm
          exact bpX11_termOf_130_54 x (dd := dd) rec_X11_sumOf hrec_X11_sumOf rec_X11_termOf hrec_X11_termOf rec_X11_partOf hrec_X11_partOf hB k6 hk6 S8 v1 v2 _ _ hm
        · rw [if_neg c9] at hm
          refine Ev.steps tokX11_termOf 3 (P := True) (pc' := 27) (lv' := [some (.ref 130), some (.int v1), some (.long v2), none, none, none, none]) (st' := [.int (S8.1 130 22), .ref 130]) (h' := mkS x S8) rfl trivial ?_
          cases h10 : gfX11_codeAt_130 x S8 (S8.1 130 22) with
          | none => rw [h10] at hm; cases hm
          | some q11 =>
            obtain ⟨r12, S13⟩ := q11
            rw [h10] at hm
            dsimp only at hm
            refine ev_callV (N := mX11_codeAt) (d' := 1) (bc := 0) (bs := 0) (bc' := 0) (bs' := 0) (as := [.int (S8.1 130 22)]) (rest := []) (a := 130) (ci := 11) (dcd tokX11_termOf rfl) okX11_codeAt inX11_codeAt seX11_codeAt lk11_294 rfl (by omega) (Nat.le_of_ble_eq_true rfl) rfl ⟨by decide, rfl⟩ (gpX11_codeAt_130 x S8 (S8.1 130 22) _ _ h10) (fun v h' hq hn => ?_)
            obtain ⟨rfl, rfl⟩ := hq
            refine Ev.steps tokX11_termOf 1 (P := True) (pc' := 32) (lv' := [some (.ref 130), some (.int v1), some (.long v2), none, none, none, none]) (st' := [.int 47, .int r12]) (h' := mkS x S13) rfl trivial ?_
            cases h14 : gfX11_sign x S13 47 with
            | none => rw [h14] at hm; cases hm
            | some q15 =>
              obtain ⟨r16, S17⟩ := q15
              rw [h14] at hm
              dsimp only at hm
              refine ev_callS (N := mX11_sign) (d' := 1) (bc := 0) (bs := 0) (bc' := 0) (bs' := 0) (as := [.int 47]) (rest := [.int r12]) (dcd tokX11_termOf rfl) okX11_sign inX11_sign lk11_250 rfl (by omega) (Nat.le_of_ble_eq_true rfl) (gpX11_sign x S13 47 _ _ h14) (fun v h' hq hn => ?_)
              obtain ⟨rfl, rfl⟩ := hq
              refine Ev.steps tokX11_termOf 1 (P := True) (pc' := if r12 = r16 then 54 else 38) (lv' := [some (.ref 130), some (.int v1), some (.long v2), none, none, none, none]) (st' := []) (h' := mkS x S17) rfl trivial ?_
              refine Ev.ite (fun c18 => ?_) (fun c18 => ?_)
              · rw [if_pos c18] at hm
                exact bpX11_termOf_130_54 x (dd := dd) rec_X11_sumOf hrec_X11_sumOf rec_X11_termOf hrec_X11_termOf rec_X11_partOf hrec_X11_partOf hB k6 hk6 S17 v1 v2 _ _ hm
              · rw [if_neg c18] at hm
                refine Ev.steps tokX11_termOf 3 (P := True) (pc' := 43) (lv' := [some (.ref 130), some (.int v1), some (.long v2), none, none, none, none]) (st' := [.int (S17.1 130 22), .ref 130]) (h' := mkS x S17) rfl trivial ?_
                cases h19 : gfX11_codeAt_130 x S17 (S17.1 130 22) with
                | none => rw [h19] at hm; cases hm
                | some q20 =>
                  obtain ⟨r21, S22⟩ := q20
                  rw [h19] at hm
                  dsimp only at hm
                  refine ev_callV (N := mX11_codeAt) (d' := 1) (bc := 0) (bs := 0) (bc' := 0) (bs' := 0) (as := [.int (S17.1 130 22)]) (rest := []) (a := 130) (ci := 11) (dcd tokX11_termOf rfl) okX11_codeAt inX11_codeAt seX11_codeAt lk11_294 rfl (by omega) (Nat.le_of_ble_eq_true rfl) rfl ⟨by decide, rfl⟩ (gpX11_codeAt_130 x S17 (S17.1 130 22) _ _ h19) (fun v h' hq hn => ?_)
                  obtain ⟨rfl, rfl⟩ := hq
                  refine Ev.steps tokX11_termOf 1 (P := True) (pc' := 48) (lv' := [some (.ref 130), some (.int v1), some (.long v2), none, none, none, none]) (st' := [.int 37, .int r21]) (h' := mkS x S22) rfl trivial ?_
                  cases h23 : gfX11_sign x S22 37 with
                  | none => rw [h23] at hm; cases hm
                  | some q24 =>
                    obtain ⟨r25, S26⟩ := q24
                    rw [h23] at hm
                    dsimp only at hm
                    refine ev_callS (N := mX11_sign) (d' := 1) (bc := 0) (bs := 0) (bc' := 0) (bs' := 0) (as := [.int 37]) (rest := [.int r21]) (dcd tokX11_termOf rfl) okX11_sign inX11_sign lk11_250 rfl (by omega) (Nat.le_of_ble_eq_true rfl) (gpX11_sign x S22 37 _ _ h23) (fun v h' hq hn => ?_)
                    obtain ⟨rfl, rfl⟩ := hq
                    refine Ev.steps tokX11_termOf 1 (P := True) (pc' := if ¬ r21 = r25 then 168 else 54) (lv' := [some (.ref 130), some (.int v1), some (.long v2), none, none, none, none]) (st' := []) (h' := mkS x S26) rfl trivial ?_
                    refine Ev.ite (fun c27 => ?_) (fun c27 => ?_)
                    · rw [if_pos c27] at hm
                      refine Ev.steps tokX11_termOf 1 (P := True) (pc' := 169) (lv' := [some (.ref 130), some (.int v1), some (.long v2), none, none, none, none]) (st' := [.long v2]) (h' := mkS x S26) rfl trivial ?_
                      cases hm
                      exact Ev.retl tokX11_termOf rfl rfl ⟨rfl, rfl⟩
                    · rw [if_neg c27] at hm
                      exact bpX11_termOf_130_54 x (dd := dd) rec_X11_sumOf hrec_X11_sumOf rec_X11_termOf hrec_X11_termOf rec_X11_partOf hrec_X11_partOf hB k6 hk6 S26 v1 v2 _ _ hm
theorem lpX11_termOf_130_6 (x : XT) {dd : Nat} (rec_X11_sumOf : ST → Int32 → Option (Int64 × ST)) (hrec_X11_sumOf : ∀ (S : ST) (z0 : Int32) (r : Int64) (S' : ST), rec_X11_sumOf S z0 = some (r, S') → Ct mX11_sumOf dd 0 0 [.ref 130, .int z0] (mkS x S) (fun v h => v = some (.long r) ∧ h = mkS x S')) (rec_X11_termOf : ST → Int32 → Option (Int64 × ST)) (hrec_X11_termOf : ∀ (S : ST) (z0 : Int32) (r : Int64) (S' : ST), rec_X11_termOf S z0 = some (r, S') → Ct mX11_termOf dd 0 0 [.ref 130, .int z0] (mkS x S) (fun v h => v = some (.long r) ∧ h = mkS x S')) (rec_X11_partOf : ST → Int32 → Option (Int64 × ST)) (hrec_X11_partOf : ∀ (S : ST) (z0 : Int32) (r : Int64) (S' : ST), rec_X11_partOf S z0 = some (r, S') → Ct mX11_partOf dd 0 0 [.ref 130, .int z0] (mkS x S) (fun v h => v = some (.long r) ∧ h = mkS x S')) (hB : 3 ≤ dd)  : ∀ (n : Nat) (S : ST) (v1 : Int32) (v2 : Int64) (r : Int64) (S' : ST), lfX11_termOf_130_6 x rec_X11_sumOf rec_X11_termOf rec_X11_partOf  n S v1 v2 = some (r, S') → Ev mX11_termOf (dd + 1) 0 0 6 [some (.ref 130), some (.int v1), some (.long v2), none, none, none, none] [] (mkS x S) (fun v h => v = some (.long r) ∧ h = mkS x S')
  | 0, _, _, _, _, _, hm => by cases hm
  | n + 1, S, v1, v2, r, S', hm => bpX11_termOf_130_6 x (dd := dd) rec_X11_sumOf hrec_X11_sumOf rec_X11_termOf hrec_X11_termOf rec_X11_partOf hrec_X11_partOf hB (lfX11_termOf_130_6 x rec_X11_sumOf rec_X11_termOf rec_X11_partOf  n) (lpX11_termOf_130_6 x (dd := dd) rec_X11_sumOf hrec_X11_sumOf rec_X11_termOf hrec_X11_termOf rec_X11_partOf hrec_X11_partOf hB  n) S v1 v2 r S' hm
set_option maxHeartbeats 4000000 in
set_option maxRecDepth 20000 in
theorem bpX11_termOf_130_0 (x : XT) {dd : Nat} (rec_X11_sumOf : ST → Int32 → Option (Int64 × ST)) (hrec_X11_sumOf : ∀ (S : ST) (z0 : Int32) (r : Int64) (S' : ST), rec_X11_sumOf S z0 = some (r, S') → Ct mX11_sumOf dd 0 0 [.ref 130, .int z0] (mkS x S) (fun v h => v = some (.long r) ∧ h = mkS x S')) (rec_X11_termOf : ST → Int32 → Option (Int64 × ST)) (hrec_X11_termOf : ∀ (S : ST) (z0 : Int32) (r : Int64) (S' : ST), rec_X11_termOf S z0 = some (r, S') → Ct mX11_termOf dd 0 0 [.ref 130, .int z0] (mkS x S) (fun v h => v = some (.long r) ∧ h = mkS x S')) (rec_X11_partOf : ST → Int32 → Option (Int64 × ST)) (hrec_X11_partOf : ∀ (S : ST) (z0 : Int32) (r : Int64) (S' : ST), rec_X11_partOf S z0 = some (r, S') → Ct mX11_partOf dd 0 0 [.ref 130, .int z0] (mkS x S) (fun v h => v = some (.long r) ∧ h = mkS x S')) (hB : 3 ≤ dd)  (S : ST) (p1 : Int32) (r : Int64) (S' : ST) (hm : bfX11_termOf_130_0 x rec_X11_sumOf rec_X11_termOf rec_X11_partOf  S p1 = some (r, S')) : Ev mX11_termOf (dd + 1) 0 0 0 [some (.ref 130), some (.int p1), none, none, none, none, none] [] (mkS x S) (fun v h => v = some (.long r) ∧ h = mkS x S') := by
    unfold bfX11_termOf_130_0 at hm
    refine Ev.steps tokX11_termOf 2 (P := True) (pc' := 2) (lv' := [some (.ref 130), some (.int p1), none, none, none, none, none]) (st' := [.int p1, .ref 130]) (h' := mkS x S) rfl trivial ?_
    cases h1 : rec_X11_partOf S p1 with
    | none => rw [h1] at hm; cases hm
    | some q2 =>
      obtain ⟨r3, S4⟩ := q2
      rw [h1] at hm
      dsimp only at hm
      refine ev_callV (N := mX11_partOf) (d' := dd) (bc := 0) (bs := 0) (bc' := 0) (bs' := 0) (as := [.int p1]) (rest := []) (a := 130) (ci := 11) (dcd tokX11_termOf rfl) okX11_partOf inX11_partOf seX11_partOf lk11_312 rfl (by omega) (Nat.le_of_ble_eq_true rfl) rfl ⟨by decide, rfl⟩ (hrec_X11_partOf S p1 _ _ h1) (fun v h' hq hn => ?_)
      obtain ⟨rfl, rfl⟩ := hq
      refine Ev.steps tokX11_termOf 1 (P := True) (pc' := 6) (lv' := [some (.ref 130), some (.int p1), some (.long r3), none, none, none, none]) (st' := []) (h' := mkS x S4) rfl trivial ?_
      exact lpX11_termOf_130_6 x (dd := dd) rec_X11_sumOf hrec_X11_sumOf rec_X11_termOf hrec_X11_termOf rec_X11_partOf hrec_X11_partOf hB  20000 S4 p1 r3 _ _ hm
theorem grpX11_termOf_130 (x : XT) {dd : Nat} (rec_X11_sumOf : ST → Int32 → Option (Int64 × ST)) (hrec_X11_sumOf : ∀ (S : ST) (z0 : Int32) (r : Int64) (S' : ST), rec_X11_sumOf S z0 = some (r, S') → Ct mX11_sumOf dd 0 0 [.ref 130, .int z0] (mkS x S) (fun v h => v = some (.long r) ∧ h = mkS x S')) (rec_X11_termOf : ST → Int32 → Option (Int64 × ST)) (hrec_X11_termOf : ∀ (S : ST) (z0 : Int32) (r : Int64) (S' : ST), rec_X11_termOf S z0 = some (r, S') → Ct mX11_termOf dd 0 0 [.ref 130, .int z0] (mkS x S) (fun v h => v = some (.long r) ∧ h = mkS x S')) (rec_X11_partOf : ST → Int32 → Option (Int64 × ST)) (hrec_X11_partOf : ∀ (S : ST) (z0 : Int32) (r : Int64) (S' : ST), rec_X11_partOf S z0 = some (r, S') → Ct mX11_partOf dd 0 0 [.ref 130, .int z0] (mkS x S) (fun v h => v = some (.long r) ∧ h = mkS x S')) (hB : 3 ≤ dd) (S : ST) (p1 : Int32) (r : Int64) (S' : ST) (hm : grfX11_termOf_130 x rec_X11_sumOf rec_X11_termOf rec_X11_partOf S p1 = some (r, S')) : Ct mX11_termOf (dd + 1) 0 0 [.ref 130, .int p1] (mkS x S) (fun v h => v = some (.long r) ∧ h = mkS x S') :=
  Ct.of (lv := [some (.ref 130), some (.int p1), none, none, none, none, none]) rfl rfl rfl (show (_ : Nat) ≤ _ from Nat.le_of_ble_eq_true rfl) (fun G => rfl) (bpX11_termOf_130_0 x (dd := dd) rec_X11_sumOf hrec_X11_sumOf rec_X11_termOf hrec_X11_termOf rec_X11_partOf hrec_X11_partOf hB S p1 r S' hm)
set_option maxHeartbeats 4000000 in
set_option maxRecDepth 20000 in
theorem bpX11_partOf_130_111 (x : XT) {dd : Nat} (rec_X11_sumOf : ST → Int32 → Option (Int64 × ST)) (hrec_X11_sumOf : ∀ (S : ST) (z0 : Int32) (r : Int64) (S' : ST), rec_X11_sumOf S z0 = some (r, S') → Ct mX11_sumOf dd 0 0 [.ref 130, .int z0] (mkS x S) (fun v h => v = some (.long r) ∧ h = mkS x S')) (rec_X11_termOf : ST → Int32 → Option (Int64 × ST)) (hrec_X11_termOf : ∀ (S : ST) (z0 : Int32) (r : Int64) (S' : ST), rec_X11_termOf S z0 = some (r, S') → Ct mX11_termOf dd 0 0 [.ref 130, .int z0] (mkS x S) (fun v h => v = some (.long r) ∧ h = mkS x S')) (rec_X11_partOf : ST → Int32 → Option (Int64 × ST)) (hrec_X11_partOf : ∀ (S : ST) (z0 : Int32) (r : Int64) (S' : ST), rec_X11_partOf S z0 = some (r, S') → Ct mX11_partOf dd 0 0 [.ref 130, .int z0] (mkS x S) (fun v h => v = some (.long r) ∧ h = mkS x S')) (hB : 3 ≤ dd)  (S : ST)  (r : Int64) (S' : ST) (hm : bfX11_partOf_130_111 x rec_X11_sumOf rec_X11_termOf rec_X11_partOf  S  = some (r, S')) : Ev mX11_partOf (dd + 1) 0 0 111 [none, none, none, none] [] (mkS x S) (fun v h => v = some (.long r) ∧ h = mkS x S') := by
    unfold bfX11_partOf_130_111 at hm
    refine Ev.steps tokX11_partOf 1 (P := True) (pc' := 112) (lv' := [none, none, none, none]) (st' := [.long 0]) (h' := mkS x S) rfl trivial ?_
    cases hm
    exact Ev.retl tokX11_partOf rfl rfl ⟨rfl, rfl⟩
set_option maxHeartbeats 4000000 in
set_option maxRecDepth 20000 in
theorem bpX11_partOf_130_163 (x : XT) {dd : Nat} (rec_X11_sumOf : ST → Int32 → Option (Int64 × ST)) (hrec_X11_sumOf : ∀ (S : ST) (z0 : Int32) (r : Int64) (S' : ST), rec_X11_sumOf S z0 = some (r, S') → Ct mX11_sumOf dd 0 0 [.ref 130, .int z0] (mkS x S) (fun v h => v = some (.long r) ∧ h = mkS x S')) (rec_X11_termOf : ST → Int32 → Option (Int64 × ST)) (hrec_X11_termOf : ∀ (S : ST) (z0 : Int32) (r : Int64) (S' : ST), rec_X11_termOf S z0 = some (r, S') → Ct mX11_termOf dd 0 0 [.ref 130, .int z0] (mkS x S) (fun v h => v = some (.long r) ∧ h = mkS x S')) (rec_X11_partOf : ST → Int32 → Option (Int64 × ST)) (hrec_X11_partOf : ∀ (S : ST) (z0 : Int32) (r : Int64) (S' : ST), rec_X11_partOf S z0 = some (r, S') → Ct mX11_partOf dd 0 0 [.ref 130, .int z0] (mkS x S) (fun v h => v = some (.long r) ∧ h = mkS x S')) (hB : 3 ≤ dd)  (S : ST) (t0 : Int64) (r : Int64) (S' : ST) (hm : bfX11_partOf_130_163 x rec_X11_sumOf rec_X11_termOf rec_X11_partOf  S t0 = some (r, S')) : Ev mX11_partOf (dd + 1) 0 0 163 [none, none, none, none] [.long t0] (mkS x S) (fun v h => v = some (.long r) ∧ h = mkS x S') := by
    unfold bfX11_partOf_130_163 at hm
    cases hm
    exact Ev.retl tokX11_partOf rfl rfl ⟨rfl, rfl⟩
set_option maxHeartbeats 4000000 in
set_option maxRecDepth 20000 in
theorem bpX11_partOf_130_100 (x : XT) {dd : Nat} (rec_X11_sumOf : ST → Int32 → Option (Int64 × ST)) (hrec_X11_sumOf : ∀ (S : ST) (z0 : Int32) (r : Int64) (S' : ST), rec_X11_sumOf S z0 = some (r, S') → Ct mX11_sumOf dd 0 0 [.ref 130, .int z0] (mkS x S) (fun v h => v = some (.long r) ∧ h = mkS x S')) (rec_X11_termOf : ST → Int32 → Option (Int64 × ST)) (hrec_X11_termOf : ∀ (S : ST) (z0 : Int32) (r : Int64) (S' : ST), rec_X11_termOf S z0 = some (r, S') → Ct mX11_termOf dd 0 0 [.ref 130, .int z0] (mkS x S) (fun v h => v = some (.long r) ∧ h = mkS x S')) (rec_X11_partOf : ST → Int32 → Option (Int64 × ST)) (hrec_X11_partOf : ∀ (S : ST) (z0 : Int32) (r : Int64) (S' : ST), rec_X11_partOf S z0 = some (r, S') → Ct mX11_partOf dd 0 0 [.ref 130, .int z0] (mkS x S) (fun v h => v = some (.long r) ∧ h = mkS x S')) (hB : 3 ≤ dd)  (S : ST) (v1 : Int32) (v2 : Int32) (v3 : Int32) (r : Int64) (S' : ST) (hm : bfX11_partOf_130_100 x rec_X11_sumOf rec_X11_termOf rec_X11_partOf  S v1 v2 v3 = some (r, S')) : Ev mX11_partOf (dd + 1) 0 0 100 [some (.ref 130), some (.int v1), some (.int v2), some (.int v3)] [] (mkS x S) (fun v h => v = some (.long r) ∧ h = mkS x S') := by
    unfold bfX11_partOf_130_100 at hm
    refine Ev.steps tokX11_partOf 2 (P := True) (pc' := if v1 = 0 then 111 else 104) (lv' := [some (.ref 130), some (.int v1), some (.int v2), some (.int v3)]) (st' := []) (h' := mkS x S) rfl trivial ?_
    refine Ev.ite (fun c1 => ?_) (fun c1 => ?_)
    · rw [if_pos c1] at hm
      refine Ev.fgt (lv' := [none, none, none, none]) trivial ?_
      exact bpX11_partOf_130_111 x (dd := dd) rec_X11_sumOf hrec_X11_sumOf rec_X11_termOf hrec_X11_termOf rec_X11_partOf hrec_X11_partOf hB S _ _ hm
    · rw [if_neg c1] at hm
      refine Ev.steps tokX11_partOf 3 (P := True) (pc' := if (S.1 130 24) = 0 then 113 else 111) (lv' := [some (.ref 130), some (.int v1), some (.int v2), some (.int v3)]) (st' := []) (h' := mkS x S) rfl trivial ?_
      refine Ev.ite (fun c2 => ?_) (fun c2 => ?_)
      · rw [if_pos c2] at hm
        refine Ev.steps tokX11_partOf 3 (P := True) (pc' := if ¬ v2 = 50 then 136 else 119) (lv' := [some (.ref 130), some (.int v1), some (.int v2), some (.int v3)]) (st' := []) (h' := mkS x S) rfl trivial ?_
        refine Ev.ite (fun c3 => ?_) (fun c3 => ?_)
        · rw [if_pos c3] at hm
          refine Ev.steps tokX11_partOf 3 (P := True) (pc' := if (S.1 130 25) = 0 then 153 else 143) (lv' := [some (.ref 130), some (.int v1), some (.int v2), some (.int v3)]) (st' := []) (h' := mkS x S) rfl trivial ?_
          refine Ev.ite (fun c4 => ?_) (fun c4 => ?_)
          · rw [if_pos c4] at hm
            obtain ⟨o5, hm⟩ := oblk hm
            refine Ev.steps tokX11_partOf 7 (P := vp_in (v2 - 8) 8 ∧ True) (pc' := 163) (lv' := [some (.ref 130), some (.int v1), some (.int v2), some (.int v3)]) (st' := [.long ((S.2.1 142 ((v2 - 8).toNatClampNeg)).toInt64)]) (h' := mkS x S) rfl ⟨inb_ok o5, trivial⟩ ?_
            refine Ev.fgt (lv' := [none, none, none, none]) trivial ?_
            exact bpX11_partOf_130_163 x (dd := dd) rec_X11_sumOf hrec_X11_sumOf rec_X11_termOf hrec_X11_termOf rec_X11_partOf hrec_X11_partOf hB S ((S.2.1 142 ((v2 - 8).toNatClampNeg)).toInt64) _ _ hm
          · rw [if_neg c4] at hm
            refine Ev.steps tokX11_partOf 3 (P := True) (pc' := 146) (lv' := [some (.ref 130), some (.int v1), some (.int v2), some (.int v3)]) (st' := [.int v3, .int v2, .ref 130]) (h' := mkS x S) rfl trivial ?_
            cases h6 : gfX11_orderValue_130 x S v2 v3 with
            | none => rw [h6] at hm; cases hm
            | some q7 =>
              obtain ⟨r8, S9⟩ := q7
              rw [h6] at hm
              dsimp only at hm
              refine ev_callV (N := mX11_orderValue) (d' := 3) (bc := 0) (bs := 0) (bc' := 0) (bs' := 0) (as := [.int v2, .int v3]) (rest := []) (a := 130) (ci := 11) (dcd tokX11_partOf rfl) okX11_orderValue inX11_orderValue seX11_orderValue lk11_324 rfl (by omega) (Nat.le_of_ble_eq_true rfl) rfl ⟨by decide, rfl⟩ (gpX11_orderValue_130 x S v2 v3 _ _ h6) (fun v h' hq hn => ?_)
              obtain ⟨rfl, rfl⟩ := hq
              refine Ev.steps tokX11_partOf 2 (P := True) (pc' := 163) (lv' := [some (.ref 130), some (.int v1), some (.int v2), some (.int v3)]) (st' := [.long r8.toInt64]) (h' := mkS x S9) rfl trivial ?_
              refine Ev.fgt (lv' := [none, none, none, none]) trivial ?_
              exact bpX11_partOf_130_163 x (dd := dd) rec_X11_sumOf hrec_X11_sumOf rec_X11_termOf hrec_X11_termOf rec_X11_partOf hrec_X11_partOf hB S9 r8.toInt64 _ _ hm
        · rw [if_neg c3] at hm
          obtain ⟨o10, hm⟩ := oblk hm
          refine Ev.steps tokX11_partOf 10 (P := vp_in ((2903 + (S.1 130 22)) - 1) 5703 ∧ True) (pc' := 135) (lv' := [some (.ref 130), some (.int v1), some (.int v2), some (.int v3)]) (st' := [.long ((S.2.1 132 (((2903 + (S.1 130 22)) - 1).toNatClampNeg)).toInt64)]) (h' := mkS x S) rfl ⟨inb_ok o10, trivial⟩ ?_
          cases hm
          exact Ev.retl tokX11_partOf rfl rfl ⟨rfl, rfl⟩
      · rw [if_neg c2] at hm
        refine Ev.fgt (lv' := [none, none, none, none]) trivial ?_
        exact bpX11_partOf_130_111 x (dd := dd) rec_X11_sumOf hrec_X11_sumOf rec_X11_termOf hrec_X11_termOf rec_X11_partOf hrec_X11_partOf hB S _ _ hm
set_option maxHeartbeats 4000000 in
set_option maxRecDepth 20000 in
theorem bpX11_partOf_130_76 (x : XT) {dd : Nat} (rec_X11_sumOf : ST → Int32 → Option (Int64 × ST)) (hrec_X11_sumOf : ∀ (S : ST) (z0 : Int32) (r : Int64) (S' : ST), rec_X11_sumOf S z0 = some (r, S') → Ct mX11_sumOf dd 0 0 [.ref 130, .int z0] (mkS x S) (fun v h => v = some (.long r) ∧ h = mkS x S')) (rec_X11_termOf : ST → Int32 → Option (Int64 × ST)) (hrec_X11_termOf : ∀ (S : ST) (z0 : Int32) (r : Int64) (S' : ST), rec_X11_termOf S z0 = some (r, S') → Ct mX11_termOf dd 0 0 [.ref 130, .int z0] (mkS x S) (fun v h => v = some (.long r) ∧ h = mkS x S')) (rec_X11_partOf : ST → Int32 → Option (Int64 × ST)) (hrec_X11_partOf : ∀ (S : ST) (z0 : Int32) (r : Int64) (S' : ST), rec_X11_partOf S z0 = some (r, S') → Ct mX11_partOf dd 0 0 [.ref 130, .int z0] (mkS x S) (fun v h => v = some (.long r) ∧ h = mkS x S')) (hB : 3 ≤ dd)  (S : ST) (v1 : Int32) (v2 : Int32) (r : Int64) (S' : ST) (hm : bfX11_partOf_130_76 x rec_X11_sumOf rec_X11_termOf rec_X11_partOf  S v1 v2 = some (r, S')) : Ev mX11_partOf (dd + 1) 0 0 76 [some (.ref 130), some (.int v1), some (.int v2), none] [] (mkS x S) (fun v h => v = some (.long r) ∧ h = mkS x S') := by
    unfold bfX11_partOf_130_76 at hm
    obtain ⟨o1, hm⟩ := oblk hm
    refine Ev.steps tokX11_partOf 14 (P := vp_in (2903 + (S.1 130 22)) 5703 ∧ True) (pc' := 100) (lv' := [some (.ref 130), some (.int v1), some (.int v2), some (.int (S.2.1 132 ((2903 + (S.1 130 22)).toNatClampNeg)))]) (st' := []) (h' := mkS x ((u2 S.1 130 22 ((S.1 130 22) + 1)), S.2.1, S.2.2.1, S.2.2.2)) rfl ⟨inb_ok o1, trivial⟩ ?_
    exact bpX11_partOf_130_100 x (dd := dd) rec_X11_sumOf hrec_X11_sumOf rec_X11_termOf hrec_X11_termOf rec_X11_partOf hrec_X11_partOf hB ((u2 S.1 130 22 ((S.1 130 22) + 1)), S.2.1, S.2.2.1, S.2.2.2) v1 v2 (S.2.1 132 ((2903 + (S.1 130 22)).toNatClampNeg)) _ _ hm
set_option maxHeartbeats 4000000 in
set_option maxRecDepth 20000 in
theorem bpX11_partOf_130_0 (x : XT) {dd : Nat} (rec_X11_sumOf : ST → Int32 → Option (Int64 × ST)) (hrec_X11_sumOf : ∀ (S : ST) (z0 : Int32) (r : Int64) (S' : ST), rec_X11_sumOf S z0 = some (r, S') → Ct mX11_sumOf dd 0 0 [.ref 130, .int z0] (mkS x S) (fun v h => v = some (.long r) ∧ h = mkS x S')) (rec_X11_termOf : ST → Int32 → Option (Int64 × ST)) (hrec_X11_termOf : ∀ (S : ST) (z0 : Int32) (r : Int64) (S' : ST), rec_X11_termOf S z0 = some (r, S') → Ct mX11_termOf dd 0 0 [.ref 130, .int z0] (mkS x S) (fun v h => v = some (.long r) ∧ h = mkS x S')) (rec_X11_partOf : ST → Int32 → Option (Int64 × ST)) (hrec_X11_partOf : ∀ (S : ST) (z0 : Int32) (r : Int64) (S' : ST), rec_X11_partOf S z0 = some (r, S') → Ct mX11_partOf dd 0 0 [.ref 130, .int z0] (mkS x S) (fun v h => v = some (.long r) ∧ h = mkS x S')) (hB : 3 ≤ dd)  (S : ST) (p1 : Int32) (r : Int64) (S' : ST) (hm : bfX11_partOf_130_0 x rec_X11_sumOf rec_X11_termOf rec_X11_partOf  S p1 = some (r, S')) : Ev mX11_partOf (dd + 1) 0 0 0 [some (.ref 130), some (.int p1), none, none] [] (mkS x S) (fun v h => v = some (.long r) ∧ h = mkS x S') := by
    unfold bfX11_partOf_130_0 at hm
    refine Ev.steps tokX11_partOf 2 (P := True) (pc' := 3) (lv' := [some (.ref 130), some (.int p1), none, none]) (st' := [.int 91, .ref 130]) (h' := mkS x S) rfl trivial ?_
    cases h1 : gfX11_sign x S 91 with
    | none => rw [h1] at hm; cases hm
    | some q2 =>
      obtain ⟨r3, S4⟩ := q2
      rw [h1] at hm
      dsimp only at hm
      refine ev_callS (N := mX11_sign) (d' := 1) (bc := 0) (bs := 0) (bc' := 0) (bs' := 0) (as := [.int 91]) (rest := [.ref 130]) (dcd tokX11_partOf rfl) okX11_sign inX11_sign lk11_250 rfl (by omega) (Nat.le_of_ble_eq_true rfl) (gpX11_sign x S 91 _ _ h1) (fun v h' hq hn => ?_)
      obtain ⟨rfl, rfl⟩ := hq
      cases h5 : gfX11_passes0_130 x S4 r3 with
      | none => rw [h5] at hm; cases hm
      | some q6 =>
        obtain ⟨r7, S8⟩ := q6
        rw [h5] at hm
        dsimp only at hm
        refine ev_callV (N := mX11_passes0) (d' := 2) (bc := 0) (bs := 0) (bc' := 0) (bs' := 0) (as := [.int r3]) (rest := []) (a := 130) (ci := 11) (dcd tokX11_partOf rfl) okX11_passes0 inX11_passes0 seX11_passes0 lk11_315 rfl (by omega) (Nat.le_of_ble_eq_true rfl) rfl ⟨by decide, rfl⟩ (gpX11_passes0_130 x S4 r3 _ _ h5) (fun v h' hq hn => ?_)
        obtain ⟨rfl, rfl⟩ := hq
        refine Ev.steps tokX11_partOf 1 (P := True) (pc' := if r7 = 0 then 30 else 12) (lv' := [some (.ref 130), some (.int p1), none, none]) (st' := []) (h' := mkS x S8) rfl trivial ?_
        refine Ev.ite (fun c9 => ?_) (fun c9 => ?_)
        · rw [if_pos c9] at hm
          refine Ev.steps tokX11_partOf 3 (P := True) (pc' := 35) (lv' := [some (.ref 130), some (.int p1), none, none]) (st' := [.int (S8.1 130 22), .ref 130]) (h' := mkS x S8) rfl trivial ?_
          cases h10 : gfX11_codeAt_130 x S8 (S8.1 130 22) with
          | none => rw [h10] at hm; cases hm
          | some q11 =>
            obtain ⟨r12, S13⟩ := q11
            rw [h10] at hm
            dsimp only at hm
            refine ev_callV (N := mX11_codeAt) (d' := 1) (bc := 0) (bs := 0) (bc' := 0) (bs' := 0) (as := [.int (S8.1 130 22)]) (rest := []) (a := 130) (ci := 11) (dcd tokX11_partOf rfl) okX11_codeAt inX11_codeAt seX11_codeAt lk11_294 rfl (by omega) (Nat.le_of_ble_eq_true rfl) rfl ⟨by decide, rfl⟩ (gpX11_codeAt_130 x S8 (S8.1 130 22) _ _ h10) (fun v h' hq hn => ?_)
            obtain ⟨rfl, rfl⟩ := hq
            refine Ev.steps tokX11_partOf 12 (P := True) (pc' := if (S13.1 130 25) = 0 then 100 else 58) (lv' := [some (.ref 130), some (.int p1), some (.int r12), some (.int 0)]) (st' := []) (h' := mkS x ((u2 S13.1 130 22 ((S13.1 130 22) + 1)), S13.2.1, S13.2.2.1, S13.2.2.2)) rfl trivial ?_
            refine Ev.ite (fun c14 => ?_) (fun c14 => ?_)
            · rw [if_pos c14] at hm
              exact bpX11_partOf_130_100 x (dd := dd) rec_X11_sumOf hrec_X11_sumOf rec_X11_termOf hrec_X11_termOf rec_X11_partOf hrec_X11_partOf hB ((u2 S13.1 130 22 ((S13.1 130 22) + 1)), S13.2.1, S13.2.2.1, S13.2.2.2) p1 r12 0 _ _ hm
            · rw [if_neg c14] at hm
              refine Ev.steps tokX11_partOf 3 (P := True) (pc' := if r12 = 13 then 76 else 64) (lv' := [some (.ref 130), some (.int p1), some (.int r12), some (.int 0)]) (st' := []) (h' := mkS x ((u2 S13.1 130 22 ((S13.1 130 22) + 1)), S13.2.1, S13.2.2.1, S13.2.2.2)) rfl trivial ?_
              refine Ev.ite (fun c15 => ?_) (fun c15 => ?_)
              · rw [if_pos c15] at hm
                refine Ev.fgt (lv' := [some (.ref 130), some (.int p1), some (.int r12), none]) ⟨rfl, rfl, rfl, trivial⟩ ?_
                exact bpX11_partOf_130_76 x (dd := dd) rec_X11_sumOf hrec_X11_sumOf rec_X11_termOf hrec_X11_termOf rec_X11_partOf hrec_X11_partOf hB ((u2 S13.1 130 22 ((S13.1 130 22) + 1)), S13.2.1, S13.2.2.1, S13.2.2.2) p1 r12 _ _ hm
              · rw [if_neg c15] at hm
                refine Ev.steps tokX11_partOf 3 (P := True) (pc' := if r12 = 14 then 76 else 70) (lv' := [some (.ref 130), some (.int p1), some (.int r12), some (.int 0)]) (st' := []) (h' := mkS x ((u2 S13.1 130 22 ((S13.1 130 22) + 1)), S13.2.1, S13.2.2.1, S13.2.2.2)) rfl trivial ?_
                refine Ev.ite (fun c16 => ?_) (fun c16 => ?_)
                · rw [if_pos c16] at hm
                  refine Ev.fgt (lv' := [some (.ref 130), some (.int p1), some (.int r12), none]) ⟨rfl, rfl, rfl, trivial⟩ ?_
                  exact bpX11_partOf_130_76 x (dd := dd) rec_X11_sumOf hrec_X11_sumOf rec_X11_termOf hrec_X11_termOf rec_X11_partOf hrec_X11_partOf hB ((u2 S13.1 130 22 ((S13.1 130 22) + 1)), S13.2.1, S13.2.2.1, S13.2.2.2) p1 r12 _ _ hm
                · rw [if_neg c16] at hm
                  refine Ev.steps tokX11_partOf 3 (P := True) (pc' := if ¬ r12 = 19 then 100 else 76) (lv' := [some (.ref 130), some (.int p1), some (.int r12), some (.int 0)]) (st' := []) (h' := mkS x ((u2 S13.1 130 22 ((S13.1 130 22) + 1)), S13.2.1, S13.2.2.1, S13.2.2.2)) rfl trivial ?_
                  refine Ev.ite (fun c17 => ?_) (fun c17 => ?_)
                  · rw [if_pos c17] at hm
                    exact bpX11_partOf_130_100 x (dd := dd) rec_X11_sumOf hrec_X11_sumOf rec_X11_termOf hrec_X11_termOf rec_X11_partOf hrec_X11_partOf hB ((u2 S13.1 130 22 ((S13.1 130 22) + 1)), S13.2.1, S13.2.2.1, S13.2.2.2) p1 r12 0 _ _ hm
                  · rw [if_neg c17] at hm
                    refine Ev.fgt (lv' := [some (.ref 130), some (.int p1), some (.int r12), none]) ⟨rfl, rfl, rfl, trivial⟩ ?_
                    exact bpX11_partOf_130_76 x (dd := dd) rec_X11_sumOf hrec_X11_sumOf rec_X11_termOf hrec_X11_termOf rec_X11_partOf hrec_X11_partOf hB ((u2 S13.1 130 22 ((S13.1 130 22) + 1)), S13.2.1, S13.2.2.1, S13.2.2.2) p1 r12 _ _ hm
        · rw [if_neg c9] at hm
          refine Ev.steps tokX11_partOf 2 (P := True) (pc' := 14) (lv' := [some (.ref 130), some (.int p1), none, none]) (st' := [.int p1, .ref 130]) (h' := mkS x S8) rfl trivial ?_
          cases h18 : rec_X11_sumOf S8 p1 with
          | none => rw [h18] at hm; cases hm
          | some q19 =>
            obtain ⟨r20, S21⟩ := q19
            rw [h18] at hm
            dsimp only at hm
            refine ev_callV (N := mX11_sumOf) (d' := dd) (bc := 0) (bs := 0) (bc' := 0) (bs' := 0) (as := [.int p1]) (rest := []) (a := 130) (ci := 11) (dcd tokX11_partOf rfl) okX11_sumOf inX11_sumOf seX11_sumOf lk11_318 rfl (by omega) (Nat.le_of_ble_eq_true rfl) rfl ⟨by decide, rfl⟩ (hrec_X11_sumOf S8 p1 _ _ h18) (fun v h' hq hn => ?_)
            obtain ⟨rfl, rfl⟩ := hq
            refine Ev.steps tokX11_partOf 8 (P := True) (pc' := 29) (lv' := [some (.ref 130), some (.int p1), some (.long r20), none]) (st' := [.long r20]) (h' := mkS x ((u2 S21.1 130 22 ((S21.1 130 22) + 1)), S21.2.1, S21.2.2.1, S21.2.2.2)) rfl trivial ?_
            cases hm
            exact Ev.retl tokX11_partOf rfl rfl ⟨rfl, rfl⟩
theorem grpX11_partOf_130 (x : XT) {dd : Nat} (rec_X11_sumOf : ST → Int32 → Option (Int64 × ST)) (hrec_X11_sumOf : ∀ (S : ST) (z0 : Int32) (r : Int64) (S' : ST), rec_X11_sumOf S z0 = some (r, S') → Ct mX11_sumOf dd 0 0 [.ref 130, .int z0] (mkS x S) (fun v h => v = some (.long r) ∧ h = mkS x S')) (rec_X11_termOf : ST → Int32 → Option (Int64 × ST)) (hrec_X11_termOf : ∀ (S : ST) (z0 : Int32) (r : Int64) (S' : ST), rec_X11_termOf S z0 = some (r, S') → Ct mX11_termOf dd 0 0 [.ref 130, .int z0] (mkS x S) (fun v h => v = some (.long r) ∧ h = mkS x S')) (rec_X11_partOf : ST → Int32 → Option (Int64 × ST)) (hrec_X11_partOf : ∀ (S : ST) (z0 : Int32) (r : Int64) (S' : ST), rec_X11_partOf S z0 = some (r, S') → Ct mX11_partOf dd 0 0 [.ref 130, .int z0] (mkS x S) (fun v h => v = some (.long r) ∧ h = mkS x S')) (hB : 3 ≤ dd) (S : ST) (p1 : Int32) (r : Int64) (S' : ST) (hm : grfX11_partOf_130 x rec_X11_sumOf rec_X11_termOf rec_X11_partOf S p1 = some (r, S')) : Ct mX11_partOf (dd + 1) 0 0 [.ref 130, .int p1] (mkS x S) (fun v h => v = some (.long r) ∧ h = mkS x S') :=
  Ct.of (lv := [some (.ref 130), some (.int p1), none, none]) rfl rfl rfl (show (_ : Nat) ≤ _ from Nat.le_of_ble_eq_true rfl) (fun G => rfl) (bpX11_partOf_130_0 x (dd := dd) rec_X11_sumOf hrec_X11_sumOf rec_X11_termOf hrec_X11_termOf rec_X11_partOf hrec_X11_partOf hB S p1 r S' hm)
theorem gqpX11_sumOf_130 (x : XT) (n : Nat) : (∀ (S : ST) (a b : Int32) (r : Int64) (S' : ST), gqX11_sumOf_130 x n 0 S a b = some (r, S') → Ct mX11_sumOf (3 + n) 0 0 [.ref 130, .int a] (mkS x S) (fun v h => v = some (.long r) ∧ h = mkS x S')) ∧ (∀ (S : ST) (a b : Int32) (r : Int64) (S' : ST), gqX11_sumOf_130 x n 1 S a b = some (r, S') → Ct mX11_termOf (3 + n) 0 0 [.ref 130, .int a] (mkS x S) (fun v h => v = some (.long r) ∧ h = mkS x S')) ∧ (∀ (S : ST) (a b : Int32) (r : Int64) (S' : ST), gqX11_sumOf_130 x n 2 S a b = some (r, S') → Ct mX11_partOf (3 + n) 0 0 [.ref 130, .int a] (mkS x S) (fun v h => v = some (.long r) ∧ h = mkS x S')) := by
  induction n with
  | zero => exact ⟨(fun _ _ _ _ _ hm => (by cases hm)), (fun _ _ _ _ _ hm => (by cases hm)), (fun _ _ _ _ _ hm => (by cases hm))⟩
  | succ n ih =>
    refine ⟨?_, ?_, ?_⟩
    · intro S a b r S' hm
      rw [gqX11_sumOf_130] at hm
      rw [show Nat.beq 0 0 = true from rfl, cond_true] at hm
      exact grpX11_sumOf_130 x (dd := 3 + n) (fun S z0 => gqX11_sumOf_130 x n 0 S z0 0) (fun S z0 r S' h => ih.1 S z0 0 r S' h) (fun S z0 => gqX11_sumOf_130 x n 1 S z0 0) (fun S z0 r S' h => ih.2.1 S z0 0 r S' h) (fun S z0 => gqX11_sumOf_130 x n 2 S z0 0) (fun S z0 r S' h => ih.2.2 S z0 0 r S' h) (by omega) S a r S' hm
    · intro S a b r S' hm
      rw [gqX11_sumOf_130] at hm
      rw [show Nat.beq 1 0 = false from rfl, cond_false, show Nat.beq 1 1 = true from rfl, cond_true] at hm
      exact grpX11_termOf_130 x (dd := 3 + n) (fun S z0 => gqX11_sumOf_130 x n 0 S z0 0) (fun S z0 r S' h => ih.1 S z0 0 r S' h) (fun S z0 => gqX11_sumOf_130 x n 1 S z0 0) (fun S z0 r S' h => ih.2.1 S z0 0 r S' h) (fun S z0 => gqX11_sumOf_130 x n 2 S z0 0) (fun S z0 r S' h => ih.2.2 S z0 0 r S' h) (by omega) S a r S' hm
    · intro S a b r S' hm
      rw [gqX11_sumOf_130] at hm
      rw [show Nat.beq 2 0 = false from rfl, cond_false, show Nat.beq 2 1 = false from rfl, cond_false, show Nat.beq 2 2 = true from rfl, cond_true] at hm
      exact grpX11_partOf_130 x (dd := 3 + n) (fun S z0 => gqX11_sumOf_130 x n 0 S z0 0) (fun S z0 r S' h => ih.1 S z0 0 r S' h) (fun S z0 => gqX11_sumOf_130 x n 1 S z0 0) (fun S z0 r S' h => ih.2.1 S z0 0 r S' h) (fun S z0 => gqX11_sumOf_130 x n 2 S z0 0) (fun S z0 r S' h => ih.2.2 S z0 0 r S' h) (by omega) S a r S' hm
theorem gpX11_sumOf_130 (x : XT) (S : ST) (p1 : Int32) (r : Int64) (S' : ST) (hm : gfX11_sumOf_130 x S p1 = some (r, S')) : Ct mX11_sumOf 63 0 0 [.ref 130, .int p1] (mkS x S) (fun v h => v = some (.long r) ∧ h = mkS x S') :=
  (gqpX11_sumOf_130 x 60).1 S p1 0 r S' hm
theorem gpX11_termOf_130 (x : XT) (S : ST) (p1 : Int32) (r : Int64) (S' : ST) (hm : gfX11_termOf_130 x S p1 = some (r, S')) : Ct mX11_termOf 63 0 0 [.ref 130, .int p1] (mkS x S) (fun v h => v = some (.long r) ∧ h = mkS x S') :=
  (gqpX11_sumOf_130 x 60).2.1 S p1 0 r S' hm
theorem gpX11_partOf_130 (x : XT) (S : ST) (p1 : Int32) (r : Int64) (S' : ST) (hm : gfX11_partOf_130 x S p1 = some (r, S')) : Ct mX11_partOf 63 0 0 [.ref 130, .int p1] (mkS x S) (fun v h => v = some (.long r) ∧ h = mkS x S') :=
  (gqpX11_sumOf_130 x 60).2.2 S p1 0 r S' hm
end MIR
