section MIR
set_option maxHeartbeats 4000000 in
set_option maxRecDepth 20000 in
theorem bpX7_addSight_1_27 (x : XT)  (S : ST)  (r : Int32) (S' : ST) (hm : bfX7_addSight_1_27 x  S  = some (r, S')) : Ev mX7_addSight 2 0 0 27 [none, none, none, none] [] (mkS x S) (fun v h => v = some (.int r) ∧ h = mkS x S') := by
    unfold bfX7_addSight_1_27 at hm
    refine Ev.steps tokX7_addSight 1 (P := True) (pc' := 28) (lv' := [none, none, none, none]) (st' := [.int (-1)]) (h' := mkS x S) rfl trivial ?_
    cases hm
    exact Ev.reti tokX7_addSight rfl rfl ⟨rfl, rfl⟩
set_option maxHeartbeats 4000000 in
set_option maxRecDepth 20000 in
theorem bpX7_addSight_1_0 (x : XT)  (S : ST) (p1 : Int32) (p2 : Int32) (p3 : Int32) (r : Int32) (S' : ST) (hm : bfX7_addSight_1_0 x  S p1 p2 p3 = some (r, S')) : Ev mX7_addSight 2 0 0 0 [some (.ref 1), some (.int p1), some (.int p2), some (.int p3)] [] (mkS x S) (fun v h => v = some (.int r) ∧ h = mkS x S') := by
    unfold bfX7_addSight_1_0 at hm
    refine Ev.steps tokX7_addSight 2 (P := True) (pc' := 3) (lv' := [some (.ref 1), some (.int p1), some (.int p2), some (.int p3)]) (st' := [.int 10, .int p1]) (h' := mkS x S) rfl trivial ?_
    cases h1 : gfX10_within x S p1 10 with
    | none => rw [h1] at hm; cases hm
    | some q2 =>
      obtain ⟨r3, S4⟩ := q2
      rw [h1] at hm
      dsimp only at hm
      refine ev_callSN (N := mX10_within) (d' := 1) (bc := 0) (bs := 0) (bc' := 0) (bs' := 0) (as := [.int p1, .int 10]) (rest := []) (dcd tokX7_addSight rfl) okX10_within inX10_within lk7_78 rfl (by decide) (Nat.le_of_ble_eq_true rfl) (gpX10_within x S p1 10 _ _ h1) (fun v h' hq hn => ?_)
      obtain ⟨rfl, rfl⟩ := hq
      refine Ev.steps tokX7_addSight 1 (P := True) (pc' := if r3 = 0 then 27 else 9) (lv' := [some (.ref 1), some (.int p1), some (.int p2), some (.int p3)]) (st' := []) (h' := mkS x S4) rfl trivial ?_
      refine Ev.ite (fun c5 => ?_) (fun c5 => ?_)
      · rw [if_pos c5] at hm
        refine Ev.fgt (lv' := [none, none, none, none]) trivial ?_
        exact bpX7_addSight_1_27 x S4 _ _ hm
      · rw [if_neg c5] at hm
        refine Ev.steps tokX7_addSight 2 (P := True) (pc' := 12) (lv' := [some (.ref 1), some (.int p1), some (.int p2), some (.int p3)]) (st' := [.int 20, .int p2]) (h' := mkS x S4) rfl trivial ?_
        cases h6 : gfX10_within x S4 p2 20 with
        | none => rw [h6] at hm; cases hm
        | some q7 =>
          obtain ⟨r8, S9⟩ := q7
          rw [h6] at hm
          dsimp only at hm
          refine ev_callSN (N := mX10_within) (d' := 1) (bc := 0) (bs := 0) (bc' := 0) (bs' := 0) (as := [.int p2, .int 20]) (rest := []) (dcd tokX7_addSight rfl) okX10_within inX10_within lk7_78 rfl (by decide) (Nat.le_of_ble_eq_true rfl) (gpX10_within x S4 p2 20 _ _ h6) (fun v h' hq hn => ?_)
          obtain ⟨rfl, rfl⟩ := hq
          refine Ev.steps tokX7_addSight 1 (P := True) (pc' := if r8 = 0 then 27 else 18) (lv' := [some (.ref 1), some (.int p1), some (.int p2), some (.int p3)]) (st' := []) (h' := mkS x S9) rfl trivial ?_
          refine Ev.ite (fun c10 => ?_) (fun c10 => ?_)
          · rw [if_pos c10] at hm
            refine Ev.fgt (lv' := [none, none, none, none]) trivial ?_
            exact bpX7_addSight_1_27 x S9 _ _ hm
          · rw [if_neg c10] at hm
            refine Ev.steps tokX7_addSight 2 (P := True) (pc' := 21) (lv' := [some (.ref 1), some (.int p1), some (.int p2), some (.int p3)]) (st' := [.int 20, .int p3]) (h' := mkS x S9) rfl trivial ?_
            cases h11 : gfX10_within x S9 p3 20 with
            | none => rw [h11] at hm; cases hm
            | some q12 =>
              obtain ⟨r13, S14⟩ := q12
              rw [h11] at hm
              dsimp only at hm
              refine ev_callSN (N := mX10_within) (d' := 1) (bc := 0) (bs := 0) (bc' := 0) (bs' := 0) (as := [.int p3, .int 20]) (rest := []) (dcd tokX7_addSight rfl) okX10_within inX10_within lk7_78 rfl (by decide) (Nat.le_of_ble_eq_true rfl) (gpX10_within x S9 p3 20 _ _ h11) (fun v h' hq hn => ?_)
              obtain ⟨rfl, rfl⟩ := hq
              refine Ev.steps tokX7_addSight 1 (P := True) (pc' := if ¬ r13 = 0 then 29 else 27) (lv' := [some (.ref 1), some (.int p1), some (.int p2), some (.int p3)]) (st' := []) (h' := mkS x S14) rfl trivial ?_
              refine Ev.ite (fun c15 => ?_) (fun c15 => ?_)
              · rw [if_pos c15] at hm
                refine Ev.steps tokX7_addSight 4 (P := True) (pc' := if (S14.1 1 11) < 6 then 41 else 38) (lv' := [some (.ref 1), some (.int p1), some (.int p2), some (.int p3)]) (st' := []) (h' := mkS x S14) rfl trivial ?_
                refine Ev.ite (fun c16 => ?_) (fun c16 => ?_)
                · rw [if_pos c16] at hm
                  obtain ⟨o17, hm⟩ := oblk hm
                  obtain ⟨o18, hm⟩ := oblk hm
                  obtain ⟨o19, hm⟩ := oblk hm
                  refine Ev.steps tokX7_addSight 26 (P := vp_in (S14.1 1 11) 6 ∧ vp_in (S14.1 1 11) 6 ∧ vp_in (S14.1 1 11) 6 ∧ True) (pc' := 85) (lv' := [some (.ref 1), some (.int p1), some (.int p2), some (.int p3)]) (st' := [.int ((S14.1 1 11) + 1)]) (h' := mkS x ((u2 S14.1 1 11 ((S14.1 1 11) + 1)), (u2 (u2 (u2 S14.2.1 11 ((S14.1 1 11).toNatClampNeg) p1) 12 ((S14.1 1 11).toNatClampNeg) p2) 13 ((S14.1 1 11).toNatClampNeg) p3), S14.2.2.1, S14.2.2.2)) rfl ⟨inb_ok o17, inb_ok o18, inb_ok o19, trivial⟩ ?_
                  cases hm
                  exact Ev.reti tokX7_addSight rfl rfl ⟨rfl, rfl⟩
                · rw [if_neg c16] at hm
                  refine Ev.steps tokX7_addSight 1 (P := True) (pc' := 40) (lv' := [some (.ref 1), some (.int p1), some (.int p2), some (.int p3)]) (st' := [.int (-5)]) (h' := mkS x S14) rfl trivial ?_
                  cases hm
                  exact Ev.reti tokX7_addSight rfl rfl ⟨rfl, rfl⟩
              · rw [if_neg c15] at hm
                refine Ev.fgt (lv' := [none, none, none, none]) trivial ?_
                exact bpX7_addSight_1_27 x S14 _ _ hm
theorem gpX7_addSight_1 (x : XT) (S : ST) (p1 : Int32) (p2 : Int32) (p3 : Int32) (r : Int32) (S' : ST) (hm : gfX7_addSight_1 x S p1 p2 p3 = some (r, S')) : Ct mX7_addSight 2 0 0 [.ref 1, .int p1, .int p2, .int p3] (mkS x S) (fun v h => v = some (.int r) ∧ h = mkS x S') :=
  Ct.of (lv := [some (.ref 1), some (.int p1), some (.int p2), some (.int p3)]) rfl rfl rfl (show (_ : Nat) ≤ _ from Nat.le_of_ble_eq_true rfl) (fun G => rfl) (bpX7_addSight_1_0 x S p1 p2 p3 r S' hm)
set_option maxHeartbeats 4000000 in
set_option maxRecDepth 20000 in
theorem bpX10_seen_0_0 (x : XT)  (S : ST) (p1 : Int32) (p2 : Int32) (p3 : Int32) (r : Int32) (S' : ST) (hm : bfX10_seen_0_0 x  S p1 p2 p3 = some (r, S')) : Ev mX10_seen 3 0 0 0 [some (.ref 0), some (.int p1), some (.int p2), some (.int p3)] [] (mkS x S) (fun v h => v = some (.int r) ∧ h = mkS x S') := by
    unfold bfX10_seen_0_0 at hm
    refine Ev.steps tokX10_seen 6 (P := True) (pc' := 8) (lv' := [some (.ref 0), some (.int p1), some (.int p2), some (.int p3)]) (st' := [.int p3, .int p2, .int p1, .ref 1, .ref 0]) (h' := mkS x S) rfl trivial ?_
    cases h1 : gfX7_addSight_1 x S p1 p2 p3 with
    | none => rw [h1] at hm; cases hm
    | some q2 =>
      obtain ⟨r3, S4⟩ := q2
      rw [h1] at hm
      dsimp only at hm
      refine ev_callV (N := mX7_addSight) (d' := 2) (bc := 0) (bs := 0) (bc' := 0) (bs' := 0) (as := [.int p1, .int p2, .int p3]) (rest := [.ref 0]) (a := 1) (ci := 7) (dcd tokX10_seen rfl) okX7_addSight inX7_addSight seX7_addSight lk10_300 rfl (by decide) (Nat.le_of_ble_eq_true rfl) rfl ⟨by decide, rfl⟩ (gpX7_addSight_1 x S p1 p2 p3 _ _ h1) (fun v h' hq hn => ?_)
      obtain ⟨rfl, rfl⟩ := hq
      cases h5 : gfX10_told_0 x S4 r3 with
      | none => rw [h5] at hm; cases hm
      | some q6 =>
        obtain ⟨r7, S8⟩ := q6
        rw [h5] at hm
        dsimp only at hm
        refine ev_callV (N := mX10_told) (d' := 1) (bc := 0) (bs := 0) (bc' := 0) (bs' := 0) (as := [.int r3]) (rest := []) (a := 0) (ci := 10) (dcd tokX10_seen rfl) okX10_told inX10_told seX10_told lk10_178 rfl (by decide) (Nat.le_of_ble_eq_true rfl) rfl ⟨by decide, rfl⟩ (gpX10_told_0 x S4 r3 _ _ h5) (fun v h' hq hn => ?_)
        obtain ⟨rfl, rfl⟩ := hq
        cases hm
        exact Ev.reti tokX10_seen rfl rfl ⟨rfl, rfl⟩
theorem gpX10_seen_0 (x : XT) (S : ST) (p1 : Int32) (p2 : Int32) (p3 : Int32) (r : Int32) (S' : ST) (hm : gfX10_seen_0 x S p1 p2 p3 = some (r, S')) : Ct mX10_seen 3 0 0 [.ref 0, .int p1, .int p2, .int p3] (mkS x S) (fun v h => v = some (.int r) ∧ h = mkS x S') :=
  Ct.of (lv := [some (.ref 0), some (.int p1), some (.int p2), some (.int p3)]) rfl rfl rfl (show (_ : Nat) ≤ _ from Nat.le_of_ble_eq_true rfl) (fun G => rfl) (bpX10_seen_0_0 x S p1 p2 p3 r S' hm)
set_option maxHeartbeats 4000000 in
set_option maxRecDepth 20000 in
theorem bpX10_forget_0_0 (x : XT)  (S : ST)  (r : Int32) (S' : ST) (hm : bfX10_forget_0_0 x  S  = some (r, S')) : Ev mX10_forget 1 0 0 0 [some (.ref 0), none] [] (mkS x S) (fun v h => v = some (.int r) ∧ h = mkS x S') := by
    unfold bfX10_forget_0_0 at hm
    refine Ev.steps tokX10_forget 9 (P := True) (pc' := 17) (lv' := [some (.ref 0), some (.int (S.1 1 11))]) (st' := [.int (S.1 1 11)]) (h' := mkS x ((u2 S.1 1 11 0), S.2.1, S.2.2.1, S.2.2.2)) rfl trivial ?_
    cases hm
    exact Ev.reti tokX10_forget rfl rfl ⟨rfl, rfl⟩
theorem gpX10_forget_0 (x : XT) (S : ST)  (r : Int32) (S' : ST) (hm : gfX10_forget_0 x S  = some (r, S')) : Ct mX10_forget 1 0 0 [.ref 0] (mkS x S) (fun v h => v = some (.int r) ∧ h = mkS x S') :=
  Ct.of (lv := [some (.ref 0), none]) rfl rfl rfl (show (_ : Nat) ≤ _ from Nat.le_of_ble_eq_true rfl) (fun G => rfl) (bpX10_forget_0_0 x S  r S' hm)
set_option maxHeartbeats 4000000 in
set_option maxRecDepth 20000 in
theorem bpX3_comesOut_80_1_42 (x : XT)  (S : ST) (t0 : Int32) (r : Int32) (S' : ST) (hm : bfX3_comesOut_80_1_42 x  S t0 = some (r, S')) : Ev mX3_comesOut 4 0 0 42 [none, none, none, none, none] [.int t0] (mkS x S) (fun v h => v = some (.int r) ∧ h = mkS x S') := by
    unfold bfX3_comesOut_80_1_42 at hm
    cases hm
    exact Ev.reti tokX3_comesOut rfl rfl ⟨rfl, rfl⟩
set_option maxHeartbeats 4000000 in
set_option maxRecDepth 20000 in
theorem bpX3_comesOut_80_1_0 (x : XT)  (S : ST) (p2 : Int32) (p3 : Int32) (p4 : Int32) (r : Int32) (S' : ST) (hm : bfX3_comesOut_80_1_0 x  S p2 p3 p4 = some (r, S')) : Ev mX3_comesOut 4 0 0 0 [some (.ref 80), some (.ref 1), some (.int p2), some (.int p3), some (.int p4)] [] (mkS x S) (fun v h => v = some (.int r) ∧ h = mkS x S') := by
    unfold bfX3_comesOut_80_1_0 at hm
    refine Ev.steps tokX3_comesOut 6 (P := True) (pc' := 9) (lv' := [some (.ref 80), some (.ref 1), some (.int p2), some (.int p3), some (.int p4)]) (st' := [.int p4, .int p3, .int p2, .ref 1, .ref 20]) (h' := mkS x S) rfl trivial ?_
    cases h1 : gfX0_regardUnknown_20_1 x S p2 p3 p4 with
    | none => rw [h1] at hm; cases hm
    | some q2 =>
      obtain ⟨r3, S4⟩ := q2
      rw [h1] at hm
      dsimp only at hm
      refine ev_callV (N := mX0_regardUnknown) (d' := 1) (bc := 0) (bs := 0) (bc' := 0) (bs' := 0) (as := [.ref 1, .int p2, .int p3, .int p4]) (rest := []) (a := 20) (ci := 0) (dcd tokX3_comesOut rfl) okX0_regardUnknown inX0_regardUnknown seX0_regardUnknown lk3_23 rfl (by decide) (Nat.le_of_ble_eq_true rfl) rfl ⟨by decide, rfl⟩ (gpX0_regardUnknown_20_1 x S p2 p3 p4 _ _ h1) (fun v h' hq hn => ?_)
      obtain ⟨rfl, rfl⟩ := hq
      refine Ev.steps tokX3_comesOut 4 (P := True) (pc' := 20) (lv' := [some (.ref 80), some (.ref 1), some (.int p2), some (.int p3), some (.int p4)]) (st' := [.int 262, .ref 1, .ref 20]) (h' := mkS x S4) rfl trivial ?_
      cases h5 : gfX0_told_20_1 x S4 262 with
      | none => rw [h5] at hm; cases hm
      | some q6 =>
        obtain ⟨r7, S8⟩ := q6
        rw [h5] at hm
        dsimp only at hm
        refine ev_callV (N := mX0_told) (d' := 3) (bc := 0) (bs := 0) (bc' := 0) (bs' := 0) (as := [.ref 1, .int 262]) (rest := []) (a := 20) (ci := 0) (dcd tokX3_comesOut rfl) okX0_told inX0_told seX0_told lk3_29 rfl (by decide) (Nat.le_of_ble_eq_true rfl) rfl ⟨by decide, rfl⟩ (gpX0_told_20_1 x S4 262 _ _ h5) (fun v h' hq hn => ?_)
        obtain ⟨rfl, rfl⟩ := hq
        refine Ev.steps tokX3_comesOut 2 (P := True) (pc' := if ¬ r7 = 1 then 31 else 27) (lv' := [some (.ref 80), some (.ref 1), some (.int p2), some (.int p3), some (.int p4)]) (st' := []) (h' := mkS x S8) rfl trivial ?_
        refine Ev.ite (fun c9 => ?_) (fun c9 => ?_)
        · rw [if_pos c9] at hm
          refine Ev.steps tokX3_comesOut 4 (P := True) (pc' := 39) (lv' := [some (.ref 80), some (.ref 1), some (.int p2), some (.int p3), some (.int p4)]) (st' := [.int 260, .ref 1, .ref 20]) (h' := mkS x S8) rfl trivial ?_
          cases h10 : gfX0_told_20_1 x S8 260 with
          | none => rw [h10] at hm; cases hm
          | some q11 =>
            obtain ⟨r12, S13⟩ := q11
            rw [h10] at hm
            dsimp only at hm
            refine ev_callV (N := mX0_told) (d' := 3) (bc := 0) (bs := 0) (bc' := 0) (bs' := 0) (as := [.ref 1, .int 260]) (rest := []) (a := 20) (ci := 0) (dcd tokX3_comesOut rfl) okX0_told inX0_told seX0_told lk3_29 rfl (by decide) (Nat.le_of_ble_eq_true rfl) rfl ⟨by decide, rfl⟩ (gpX0_told_20_1 x S8 260 _ _ h10) (fun v h' hq hn => ?_)
            obtain ⟨rfl, rfl⟩ := hq
            refine Ev.fgt (lv' := [none, none, none, none, none]) trivial ?_
            exact bpX3_comesOut_80_1_42 x S13 r12 _ _ hm
        · rw [if_neg c9] at hm
          refine Ev.steps tokX3_comesOut 2 (P := True) (pc' := 42) (lv' := [some (.ref 80), some (.ref 1), some (.int p2), some (.int p3), some (.int p4)]) (st' := [.int (-1)]) (h' := mkS x S8) rfl trivial ?_
          refine Ev.fgt (lv' := [none, none, none, none, none]) trivial ?_
          exact bpX3_comesOut_80_1_42 x S8 (-1) _ _ hm
theorem gpX3_comesOut_80_1 (x : XT) (S : ST) (p2 : Int32) (p3 : Int32) (p4 : Int32) (r : Int32) (S' : ST) (hm : gfX3_comesOut_80_1 x S p2 p3 p4 = some (r, S')) : Ct mX3_comesOut 4 0 0 [.ref 80, .ref 1, .int p2, .int p3, .int p4] (mkS x S) (fun v h => v = some (.int r) ∧ h = mkS x S') :=
  Ct.of (lv := [some (.ref 80), some (.ref 1), some (.int p2), some (.int p3), some (.int p4)]) rfl rfl rfl (show (_ : Nat) ≤ _ from Nat.le_of_ble_eq_true rfl) (fun G => rfl) (bpX3_comesOut_80_1_0 x S p2 p3 p4 r S' hm)
set_option maxHeartbeats 4000000 in
set_option maxRecDepth 20000 in
theorem bpX3_possible_80_1_86 (x : XT) (k4 : ST → Int32 → Int32 → Option (Int32 × ST)) (hk4 : ∀ (S : ST) (v2 : Int32) (v3 : Int32) (r : Int32) (S' : ST), k4 S v2 v3 = some (r, S') → Ev mX3_possible 5 0 0 4 [some (.ref 80), some (.ref 1), some (.int v2), some (.int v3), none, none] [] (mkS x S) (fun v h => v = some (.int r) ∧ h = mkS x S')) (S : ST) (v3 : Int32) (t0 : Int32) (t1 : Int32) (r : Int32) (S' : ST) (hm : bfX3_possible_80_1_86 x k4 S v3 t0 t1 = some (r, S')) : Ev mX3_possible 5 0 0 86 [some (.ref 80), some (.ref 1), none, some (.int v3), none, none] [.int t1, .int t0] (mkS x S) (fun v h => v = some (.int r) ∧ h = mkS x S') := by
    unfold bfX3_possible_80_1_86 at hm
    refine Ev.steps tokX3_possible 4 (P := True) (pc' := 4) (lv' := [some (.ref 80), some (.ref 1), some (.int (t0 ||| t1)), some (.int (v3 + 1)), none, none]) (st' := []) (h' := mkS x S) rfl trivial ?_
    exact hk4 S (t0 ||| t1) (v3 + 1) _ _ hm
set_option maxHeartbeats 4000000 in
set_option maxRecDepth 20000 in
theorem bpX3_possible_80_1_73 (x : XT) (k4 : ST → Int32 → Int32 → Option (Int32 × ST)) (hk4 : ∀ (S : ST) (v2 : Int32) (v3 : Int32) (r : Int32) (S' : ST), k4 S v2 v3 = some (r, S') → Ev mX3_possible 5 0 0 4 [some (.ref 80), some (.ref 1), some (.int v2), some (.int v3), none, none] [] (mkS x S) (fun v h => v = some (.int r) ∧ h = mkS x S')) (S : ST) (v2 : Int32) (v3 : Int32) (v4 : Int32) (r : Int32) (S' : ST) (hm : bfX3_possible_80_1_73 x k4 S v2 v3 v4 = some (r, S')) : Ev mX3_possible 5 0 0 73 [some (.ref 80), some (.ref 1), some (.int v2), some (.int v3), some (.int v4), none] [] (mkS x S) (fun v h => v = some (.int r) ∧ h = mkS x S') := by
    unfold bfX3_possible_80_1_73 at hm
    refine Ev.steps tokX3_possible 3 (P := True) (pc' := if v4 = 0 then 85 else 79) (lv' := [some (.ref 80), some (.ref 1), some (.int v2), some (.int v3), some (.int v4), none]) (st' := [.int v2]) (h' := mkS x S) rfl trivial ?_
    refine Ev.ite (fun c1 => ?_) (fun c1 => ?_)
    · rw [if_pos c1] at hm
      refine Ev.steps tokX3_possible 1 (P := True) (pc' := 86) (lv' := [some (.ref 80), some (.ref 1), some (.int v2), some (.int v3), some (.int v4), none]) (st' := [.int 0, .int v2]) (h' := mkS x S) rfl trivial ?_
      refine Ev.fgt (lv' := [some (.ref 80), some (.ref 1), none, some (.int v3), none, none]) ⟨rfl, rfl, rfl, trivial⟩ ?_
      exact bpX3_possible_80_1_86 x k4 hk4 S v3 v2 0 _ _ hm
    · rw [if_neg c1] at hm
      refine Ev.steps tokX3_possible 4 (P := True) (pc' := 86) (lv' := [some (.ref 80), some (.ref 1), some (.int v2), some (.int v3), some (.int v4), none]) (st' := [.int (1 <<< (v3 &&& 31)), .int v2]) (h' := mkS x S) rfl trivial ?_
      refine Ev.fgt (lv' := [some (.ref 80), some (.ref 1), none, some (.int v3), none, none]) ⟨rfl, rfl, rfl, trivial⟩ ?_
      exact bpX3_possible_80_1_86 x k4 hk4 S v3 v2 (1 <<< (v3 &&& 31)) _ _ hm
set_option maxHeartbeats 4000000 in
set_option maxRecDepth 20000 in
theorem bpX3_possible_80_1_65 (x : XT) (k4 : ST → Int32 → Int32 → Option (Int32 × ST)) (hk4 : ∀ (S : ST) (v2 : Int32) (v3 : Int32) (r : Int32) (S' : ST), k4 S v2 v3 = some (r, S') → Ev mX3_possible 5 0 0 4 [some (.ref 80), some (.ref 1), some (.int v2), some (.int v3), none, none] [] (mkS x S) (fun v h => v = some (.int r) ∧ h = mkS x S')) (k16 : ST → Int32 → Int32 → Int32 → Int32 → Option (Int32 × ST)) (hk16 : ∀ (S : ST) (v2 : Int32) (v3 : Int32) (v4 : Int32) (v5 : Int32) (r : Int32) (S' : ST), k16 S v2 v3 v4 v5 = some (r, S') → Ev mX3_possible 5 0 0 16 [some (.ref 80), some (.ref 1), some (.int v2), some (.int v3), some (.int v4), some (.int v5)] [] (mkS x S) (fun v h => v = some (.int r) ∧ h = mkS x S')) (S : ST) (v2 : Int32) (v3 : Int32) (v5 : Int32) (t0 : Int32) (r : Int32) (S' : ST) (hm : bfX3_possible_80_1_65 x k4 k16 S v2 v3 v5 t0 = some (r, S')) : Ev mX3_possible 5 0 0 65 [some (.ref 80), some (.ref 1), some (.int v2), some (.int v3), none, some (.int v5)] [.int t0] (mkS x S) (fun v h => v = some (.int r) ∧ h = mkS x S') := by
    unfold bfX3_possible_80_1_65 at hm
    refine Ev.steps tokX3_possible 3 (P := True) (pc' := 16) (lv' := [some (.ref 80), some (.ref 1), some (.int v2), some (.int v3), some (.int t0), some (.int (v5 + 1))]) (st' := []) (h' := mkS x S) rfl trivial ?_
    exact hk16 S v2 v3 t0 (v5 + 1) _ _ hm
set_option maxHeartbeats 4000000 in
set_option maxRecDepth 20000 in
theorem bpX3_possible_80_1_16 (x : XT) (k4 : ST → Int32 → Int32 → Option (Int32 × ST)) (hk4 : ∀ (S : ST) (v2 : Int32) (v3 : Int32) (r : Int32) (S' : ST), k4 S v2 v3 = some (r, S') → Ev mX3_possible 5 0 0 4 [some (.ref 80), some (.ref 1), some (.int v2), some (.int v3), none, none] [] (mkS x S) (fun v h => v = some (.int r) ∧ h = mkS x S')) (k16 : ST → Int32 → Int32 → Int32 → Int32 → Option (Int32 × ST)) (hk16 : ∀ (S : ST) (v2 : Int32) (v3 : Int32) (v4 : Int32) (v5 : Int32) (r : Int32) (S' : ST), k16 S v2 v3 v4 v5 = some (r, S') → Ev mX3_possible 5 0 0 16 [some (.ref 80), some (.ref 1), some (.int v2), some (.int v3), some (.int v4), some (.int v5)] [] (mkS x S) (fun v h => v = some (.int r) ∧ h = mkS x S')) (S : ST) (v2 : Int32) (v3 : Int32) (v4 : Int32) (v5 : Int32) (r : Int32) (S' : ST) (hm : bfX3_possible_80_1_16 x k4 k16 S v2 v3 v4 v5 = some (r, S')) : Ev mX3_possible 5 0 0 16 [some (.ref 80), some (.ref 1), some (.int v2), some (.int v3), some (.int v4), some (.int v5)] [] (mkS x S) (fun v h => v = some (.int r) ∧ h = mkS x S') := by
    unfold bfX3_possible_80_1_16 at hm
    refine Ev.steps tokX3_possible 4 (P := True) (pc' := if (S.1 1 11) ≤ v5 then 73 else 25) (lv' := [some (.ref 80), some (.ref 1), some (.int v2), some (.int v3), some (.int v4), some (.int v5)]) (st' := []) (h' := mkS x S) rfl trivial ?_
    refine Ev.ite (fun c1 => ?_) (fun c1 => ?_)
    · rw [if_pos c1] at hm
      refine Ev.fgt (lv' := [some (.ref 80), some (.ref 1), some (.int v2), some (.int v3), some (.int v4), none]) ⟨rfl, rfl, rfl, rfl, rfl, trivial⟩ ?_
      exact bpX3_possible_80_1_73 x k4 hk4 S v2 v3 v4 _ _ hm
    · rw [if_neg c1] at hm
      refine Ev.steps tokX3_possible 2 (P := True) (pc' := if v4 = 0 then 73 else 30) (lv' := [some (.ref 80), some (.ref 1), some (.int v2), some (.int v3), some (.int v4), some (.int v5)]) (st' := []) (h' := mkS x S) rfl trivial ?_
      refine Ev.ite (fun c2 => ?_) (fun c2 => ?_)
      · rw [if_pos c2] at hm
        refine Ev.fgt (lv' := [some (.ref 80), some (.ref 1), some (.int v2), some (.int v3), some (.int v4), none]) ⟨rfl, rfl, rfl, rfl, rfl, trivial⟩ ?_
        exact bpX3_possible_80_1_73 x k4 hk4 S v2 v3 v4 _ _ hm
      · rw [if_neg c2] at hm
        obtain ⟨o3, hm⟩ := oblk hm
        obtain ⟨o4, hm⟩ := oblk hm
        refine Ev.steps tokX3_possible 11 (P := vp_in v5 6 ∧ vp_in v5 6 ∧ True) (pc' := 47) (lv' := [some (.ref 80), some (.ref 1), some (.int v2), some (.int v3), some (.int v4), some (.int v5)]) (st' := [.int (S.2.1 12 v5.toNatClampNeg), .int (S.2.1 11 v5.toNatClampNeg), .int v3, .ref 1, .ref 80]) (h' := mkS x S) rfl ⟨inb_ok o3, inb_ok o4, trivial⟩ ?_
        cases h5 : gfX3_comesOut_80_1 x S v3 (S.2.1 11 v5.toNatClampNeg) (S.2.1 12 v5.toNatClampNeg) with
        | none => rw [h5] at hm; cases hm
        | some q6 =>
          obtain ⟨r7, S8⟩ := q6
          rw [h5] at hm
          dsimp only at hm
          refine ev_callV (N := mX3_comesOut) (d' := 4) (bc := 0) (bs := 0) (bc' := 0) (bs' := 0) (as := [.ref 1, .int v3, .int (S.2.1 11 v5.toNatClampNeg), .int (S.2.1 12 v5.toNatClampNeg)]) (rest := []) (a := 80) (ci := 3) (dcd tokX3_possible rfl) okX3_comesOut inX3_comesOut seX3_comesOut lk3_45 rfl (by decide) (Nat.le_of_ble_eq_true rfl) rfl ⟨by decide, rfl⟩ (gpX3_comesOut_80_1 x S v3 (S.2.1 11 v5.toNatClampNeg) (S.2.1 12 v5.toNatClampNeg) _ _ h5) (fun v h' hq hn => ?_)
          obtain ⟨rfl, rfl⟩ := hq
          obtain ⟨o9, hm⟩ := oblk hm
          refine Ev.steps tokX3_possible 5 (P := vp_in v5 6 ∧ True) (pc' := if ¬ r7 = (S8.2.1 13 v5.toNatClampNeg) then 64 else 60) (lv' := [some (.ref 80), some (.ref 1), some (.int v2), some (.int v3), some (.int v4), some (.int v5)]) (st' := []) (h' := mkS x S8) rfl ⟨inb_ok o9, trivial⟩ ?_
          refine Ev.ite (fun c10 => ?_) (fun c10 => ?_)
          · rw [if_pos c10] at hm
            refine Ev.steps tokX3_possible 1 (P := True) (pc' := 65) (lv' := [some (.ref 80), some (.ref 1), some (.int v2), some (.int v3), some (.int v4), some (.int v5)]) (st' := [.int 0]) (h' := mkS x S8) rfl trivial ?_
            refine Ev.fgt (lv' := [some (.ref 80), some (.ref 1), some (.int v2), some (.int v3), none, some (.int v5)]) ⟨rfl, rfl, rfl, rfl, rfl, trivial⟩ ?_
            exact bpX3_possible_80_1_65 x k4 hk4 k16 hk16 S8 v2 v3 v5 0 _ _ hm
          · rw [if_neg c10] at hm
            refine Ev.steps tokX3_possible 2 (P := True) (pc' := 65) (lv' := [some (.ref 80), some (.ref 1), some (.int v2), some (.int v3), some (.int v4), some (.int v5)]) (st' := [.int 1]) (h' := mkS x S8) rfl trivial ?_
            refine Ev.fgt (lv' := [some (.ref 80), some (.ref 1), some (.int v2), some (.int v3), none, some (.int v5)]) ⟨rfl, rfl, rfl, rfl, rfl, trivial⟩ ?_
            exact bpX3_possible_80_1_65 x k4 hk4 k16 hk16 S8 v2 v3 v5 1 _ _ hm
theorem lpX3_possible_80_1_16 (x : XT) (k4 : ST → Int32 → Int32 → Option (Int32 × ST)) (hk4 : ∀ (S : ST) (v2 : Int32) (v3 : Int32) (r : Int32) (S' : ST), k4 S v2 v3 = some (r, S') → Ev mX3_possible 5 0 0 4 [some (.ref 80), some (.ref 1), some (.int v2), some (.int v3), none, none] [] (mkS x S) (fun v h => v = some (.int r) ∧ h = mkS x S')) : ∀ (n : Nat) (S : ST) (v2 : Int32) (v3 : Int32) (v4 : Int32) (v5 : Int32) (r : Int32) (S' : ST), lfX3_possible_80_1_16 x k4 n S v2 v3 v4 v5 = some (r, S') → Ev mX3_possible 5 0 0 16 [some (.ref 80), some (.ref 1), some (.int v2), some (.int v3), some (.int v4), some (.int v5)] [] (mkS x S) (fun v h => v = some (.int r) ∧ h = mkS x S')
  | 0, _, _, _, _, _, _, _, hm => by cases hm
  | n + 1, S, v2, v3, v4, v5, r, S', hm => bpX3_possible_80_1_16 x k4 hk4 (lfX3_possible_80_1_16 x k4 n) (lpX3_possible_80_1_16 x k4 hk4 n) S v2 v3 v4 v5 r S' hm
set_option maxHeartbeats 4000000 in
set_option maxRecDepth 20000 in
theorem bpX3_possible_80_1_4 (x : XT) (k4 : ST → Int32 → Int32 → Option (Int32 × ST)) (hk4 : ∀ (S : ST) (v2 : Int32) (v3 : Int32) (r : Int32) (S' : ST), k4 S v2 v3 = some (r, S') → Ev mX3_possible 5 0 0 4 [some (.ref 80), some (.ref 1), some (.int v2), some (.int v3), none, none] [] (mkS x S) (fun v h => v = some (.int r) ∧ h = mkS x S')) (S : ST) (v2 : Int32) (v3 : Int32) (r : Int32) (S' : ST) (hm : bfX3_possible_80_1_4 x k4 S v2 v3 = some (r, S')) : Ev mX3_possible 5 0 0 4 [some (.ref 80), some (.ref 1), some (.int v2), some (.int v3), none, none] [] (mkS x S) (fun v h => v = some (.int r) ∧ h = mkS x S') := by
    unfold bfX3_possible_80_1_4 at hm
    refine Ev.steps tokX3_possible 3 (P := True) (pc' := if 8 ≤ v3 then 94 else 10) (lv' := [some (.ref 80), some (.ref 1), some (.int v2), some (.int v3), none, none]) (st' := []) (h' := mkS x S) rfl trivial ?_
    refine Ev.ite (fun c1 => ?_) (fun c1 => ?_)
    · rw [if_pos c1] at hm
      refine Ev.steps tokX3_possible 1 (P := True) (pc' := 95) (lv' := [some (.ref 80), some (.ref 1), some (.int v2), some (.int v3), none, none]) (st' := [.int v2]) (h' := mkS x S) rfl trivial ?_
      cases hm
      exact Ev.reti tokX3_possible rfl rfl ⟨rfl, rfl⟩
    · rw [if_neg c1] at hm
      refine Ev.steps tokX3_possible 4 (P := True) (pc' := 16) (lv' := [some (.ref 80), some (.ref 1), some (.int v2), some (.int v3), some (.int 1), some (.int 0)]) (st' := []) (h' := mkS x S) rfl trivial ?_
      exact lpX3_possible_80_1_16 x k4 hk4 20000 S v2 v3 1 0 _ _ hm
theorem lpX3_possible_80_1_4 (x : XT)  : ∀ (n : Nat) (S : ST) (v2 : Int32) (v3 : Int32) (r : Int32) (S' : ST), lfX3_possible_80_1_4 x  n S v2 v3 = some (r, S') → Ev mX3_possible 5 0 0 4 [some (.ref 80), some (.ref 1), some (.int v2), some (.int v3), none, none] [] (mkS x S) (fun v h => v = some (.int r) ∧ h = mkS x S')
  | 0, _, _, _, _, _, hm => by cases hm
  | n + 1, S, v2, v3, r, S', hm => bpX3_possible_80_1_4 x (lfX3_possible_80_1_4 x  n) (lpX3_possible_80_1_4 x  n) S v2 v3 r S' hm
set_option maxHeartbeats 4000000 in
set_option maxRecDepth 20000 in
theorem bpX3_possible_80_1_0 (x : XT)  (S : ST)  (r : Int32) (S' : ST) (hm : bfX3_possible_80_1_0 x  S  = some (r, S')) : Ev mX3_possible 5 0 0 0 [some (.ref 80), some (.ref 1), none, none, none, none] [] (mkS x S) (fun v h => v = some (.int r) ∧ h = mkS x S') := by
    unfold bfX3_possible_80_1_0 at hm
    refine Ev.steps tokX3_possible 4 (P := True) (pc' := 4) (lv' := [some (.ref 80), some (.ref 1), some (.int 0), some (.int 0), none, none]) (st' := []) (h' := mkS x S) rfl trivial ?_
    exact lpX3_possible_80_1_4 x  20000 S 0 0 _ _ hm
theorem gpX3_possible_80_1 (x : XT) (S : ST)  (r : Int32) (S' : ST) (hm : gfX3_possible_80_1 x S  = some (r, S')) : Ct mX3_possible 5 0 0 [.ref 80, .ref 1] (mkS x S) (fun v h => v = some (.int r) ∧ h = mkS x S') :=
  Ct.of (lv := [some (.ref 80), some (.ref 1), none, none, none, none]) rfl rfl rfl (show (_ : Nat) ≤ _ from Nat.le_of_ble_eq_true rfl) (fun G => rfl) (bpX3_possible_80_1_0 x S  r S' hm)
set_option maxHeartbeats 4000000 in
set_option maxRecDepth 20000 in
theorem bpX10_kinds_0_0 (x : XT)  (S : ST)  (r : Int32) (S' : ST) (hm : bfX10_kinds_0_0 x  S  = some (r, S')) : Ev mX10_kinds 6 0 0 0 [some (.ref 0)] [] (mkS x S) (fun v h => v = some (.int r) ∧ h = mkS x S') := by
    unfold bfX10_kinds_0_0 at hm
    refine Ev.steps tokX10_kinds 4 (P := True) (pc' := 8) (lv' := [some (.ref 0)]) (st' := [.ref 1, .ref 80]) (h' := mkS x S) rfl trivial ?_
    cases h1 : gfX3_possible_80_1 x S with
    | none => rw [h1] at hm; cases hm
    | some q2 =>
      obtain ⟨r3, S4⟩ := q2
      rw [h1] at hm
      dsimp only at hm
      refine ev_callV (N := mX3_possible) (d' := 5) (bc := 0) (bs := 0) (bc' := 0) (bs' := 0) (as := [.ref 1]) (rest := []) (a := 80) (ci := 3) (dcd tokX10_kinds rfl) okX3_possible inX3_possible seX3_possible lk10_306 rfl (by decide) (Nat.le_of_ble_eq_true rfl) rfl ⟨by decide, rfl⟩ (gpX3_possible_80_1 x S _ _ h1) (fun v h' hq hn => ?_)
      obtain ⟨rfl, rfl⟩ := hq
      cases hm
      exact Ev.reti tokX10_kinds rfl rfl ⟨rfl, rfl⟩
theorem gpX10_kinds_0 (x : XT) (S : ST)  (r : Int32) (S' : ST) (hm : gfX10_kinds_0 x S  = some (r, S')) : Ct mX10_kinds 6 0 0 [.ref 0] (mkS x S) (fun v h => v = some (.int r) ∧ h = mkS x S') :=
  Ct.of (lv := [some (.ref 0)]) rfl rfl rfl (show (_ : Nat) ≤ _ from Nat.le_of_ble_eq_true rfl) (fun G => rfl) (bpX10_kinds_0_0 x S  r S' hm)
set_option maxHeartbeats 4000000 in
set_option maxRecDepth 20000 in
theorem bpX3_mostAlike_80_55 (x : XT) (k4 : ST → Int32 → Int32 → Option (Int32 × ST)) (hk4 : ∀ (S : ST) (v1 : Int32) (v2 : Int32) (r : Int32) (S' : ST), k4 S v1 v2 = some (r, S') → Ev mX3_mostAlike 1 0 0 4 [some (.ref 80), some (.int v1), some (.int v2), none, none] [] (mkS x S) (fun v h => v = some (.int r) ∧ h = mkS x S')) (k15 : ST → Int32 → Int32 → Int32 → Int32 → Option (Int32 × ST)) (hk15 : ∀ (S : ST) (v1 : Int32) (v2 : Int32) (v3 : Int32) (v4 : Int32) (r : Int32) (S' : ST), k15 S v1 v2 v3 v4 = some (r, S') → Ev mX3_mostAlike 1 0 0 15 [some (.ref 80), some (.int v1), some (.int v2), some (.int v3), some (.int v4)] [] (mkS x S) (fun v h => v = some (.int r) ∧ h = mkS x S')) (S : ST) (v1 : Int32) (v2 : Int32) (v4 : Int32) (t0 : Int32) (t1 : Int32) (r : Int32) (S' : ST) (hm : bfX3_mostAlike_80_55 x k4 k15 S v1 v2 v4 t0 t1 = some (r, S')) : Ev mX3_mostAlike 1 0 0 55 [some (.ref 80), some (.int v1), some (.int v2), none, some (.int v4)] [.int t1, .int t0] (mkS x S) (fun v h => v = some (.int r) ∧ h = mkS x S') := by
    unfold bfX3_mostAlike_80_55 at hm
    refine Ev.steps tokX3_mostAlike 4 (P := True) (pc' := 15) (lv' := [some (.ref 80), some (.int v1), some (.int v2), some (.int (t0 + t1)), some (.int (v4 + 1))]) (st' := []) (h' := mkS x S) rfl trivial ?_
    exact hk15 S v1 v2 (t0 + t1) (v4 + 1) _ _ hm
set_option maxHeartbeats 4000000 in
set_option maxRecDepth 20000 in
theorem bpX3_mostAlike_80_54 (x : XT) (k4 : ST → Int32 → Int32 → Option (Int32 × ST)) (hk4 : ∀ (S : ST) (v1 : Int32) (v2 : Int32) (r : Int32) (S' : ST), k4 S v1 v2 = some (r, S') → Ev mX3_mostAlike 1 0 0 4 [some (.ref 80), some (.int v1), some (.int v2), none, none] [] (mkS x S) (fun v h => v = some (.int r) ∧ h = mkS x S')) (k15 : ST → Int32 → Int32 → Int32 → Int32 → Option (Int32 × ST)) (hk15 : ∀ (S : ST) (v1 : Int32) (v2 : Int32) (v3 : Int32) (v4 : Int32) (r : Int32) (S' : ST), k15 S v1 v2 v3 v4 = some (r, S') → Ev mX3_mostAlike 1 0 0 15 [some (.ref 80), some (.int v1), some (.int v2), some (.int v3), some (.int v4)] [] (mkS x S) (fun v h => v = some (.int r) ∧ h = mkS x S')) (S : ST) (v1 : Int32) (v2 : Int32) (v4 : Int32) (t0 : Int32) (r : Int32) (S' : ST) (hm : bfX3_mostAlike_80_54 x k4 k15 S v1 v2 v4 t0 = some (r, S')) : Ev mX3_mostAlike 1 0 0 54 [some (.ref 80), some (.int v1), some (.int v2), none, some (.int v4)] [.int t0] (mkS x S) (fun v h => v = some (.int r) ∧ h = mkS x S') := by
    unfold bfX3_mostAlike_80_54 at hm
    refine Ev.steps tokX3_mostAlike 1 (P := True) (pc' := 55) (lv' := [some (.ref 80), some (.int v1), some (.int v2), none, some (.int v4)]) (st' := [.int 0, .int t0]) (h' := mkS x S) rfl trivial ?_
    exact bpX3_mostAlike_80_55 x k4 hk4 k15 hk15 S v1 v2 v4 t0 0 _ _ hm
set_option maxHeartbeats 4000000 in
set_option maxRecDepth 20000 in
theorem bpX3_mostAlike_80_15 (x : XT) (k4 : ST → Int32 → Int32 → Option (Int32 × ST)) (hk4 : ∀ (S : ST) (v1 : Int32) (v2 : Int32) (r : Int32) (S' : ST), k4 S v1 v2 = some (r, S') → Ev mX3_mostAlike 1 0 0 4 [some (.ref 80), some (.int v1), some (.int v2), none, none] [] (mkS x S) (fun v h => v = some (.int r) ∧ h = mkS x S')) (k15 : ST → Int32 → Int32 → Int32 → Int32 → Option (Int32 × ST)) (hk15 : ∀ (S : ST) (v1 : Int32) (v2 : Int32) (v3 : Int32) (v4 : Int32) (r : Int32) (S' : ST), k15 S v1 v2 v3 v4 = some (r, S') → Ev mX3_mostAlike 1 0 0 15 [some (.ref 80), some (.int v1), some (.int v2), some (.int v3), some (.int v4)] [] (mkS x S) (fun v h => v = some (.int r) ∧ h = mkS x S')) (S : ST) (v1 : Int32) (v2 : Int32) (v3 : Int32) (v4 : Int32) (r : Int32) (S' : ST) (hm : bfX3_mostAlike_80_15 x k4 k15 S v1 v2 v3 v4 = some (r, S')) : Ev mX3_mostAlike 1 0 0 15 [some (.ref 80), some (.int v1), some (.int v2), some (.int v3), some (.int v4)] [] (mkS x S) (fun v h => v = some (.int r) ∧ h = mkS x S') := by
    unfold bfX3_mostAlike_80_15 at hm
    refine Ev.steps tokX3_mostAlike 3 (P := True) (pc' := if 8 ≤ v4 then 63 else 22) (lv' := [some (.ref 80), some (.int v1), some (.int v2), some (.int v3), some (.int v4)]) (st' := []) (h' := mkS x S) rfl trivial ?_
    refine Ev.ite (fun c1 => ?_) (fun c1 => ?_)
    · rw [if_pos c1] at hm
      refine Ev.steps tokX3_mostAlike 2 (P := True) (pc' := 65) (lv' := [some (.ref 80), some (.int v1), some (.int v2), some (.int v3), some (.int v4)]) (st' := [.int v3, .int v1]) (h' := mkS x S) rfl trivial ?_
      refine ev_max (dcd tokX3_mostAlike rfl) lk3_60 mt_max.1 mt_in.1 mt_max.2 (by decide) (Nat.le_of_ble_eq_true rfl) ?_
      refine Ev.steps tokX3_mostAlike 3 (P := True) (pc' := 4) (lv' := [some (.ref 80), some (.int (if v1 < v3 then v3 else v1)), some (.int (v2 + 1)), some (.int v3), some (.int v4)]) (st' := []) (h' := mkS x S) rfl trivial ?_
      refine Ev.fgt (lv' := [some (.ref 80), some (.int (if v1 < v3 then v3 else v1)), some (.int (v2 + 1)), none, none]) ⟨rfl, rfl, rfl, trivial⟩ ?_
      exact hk4 S (if v1 < v3 then v3 else v1) (v2 + 1) _ _ hm
    · rw [if_neg c1] at hm
      obtain ⟨o2, hm⟩ := oblk hm
      obtain ⟨o3, hm⟩ := oblk hm
      refine Ev.steps tokX3_mostAlike 10 (P := vp_in v4 8 ∧ vp_in v2 8 ∧ True) (pc' := if ¬ (S.2.1 81 v4.toNatClampNeg) = (S.2.1 81 v2.toNatClampNeg) then 54 else 39) (lv' := [some (.ref 80), some (.int v1), some (.int v2), some (.int v3), some (.int v4)]) (st' := [.int v3]) (h' := mkS x S) rfl ⟨inb_ok o2, inb_ok o3, trivial⟩ ?_
      refine Ev.ite (fun c4 => ?_) (fun c4 => ?_)
      · rw [if_pos c4] at hm
        refine Ev.fgt (lv' := [some (.ref 80), some (.int v1), some (.int v2), none, some (.int v4)]) ⟨rfl, rfl, rfl, rfl, trivial⟩ ?_
        exact bpX3_mostAlike_80_54 x k4 hk4 k15 hk15 S v1 v2 v4 v3 _ _ hm
      · rw [if_neg c4] at hm
        obtain ⟨o5, hm⟩ := oblk hm
        refine Ev.steps tokX3_mostAlike 6 (P := vp_in v2 8 ∧ True) (pc' := if (S.2.1 81 v2.toNatClampNeg) = (-2) then 54 else 50) (lv' := [some (.ref 80), some (.int v1), some (.int v2), some (.int v3), some (.int v4)]) (st' := [.int v3]) (h' := mkS x S) rfl ⟨inb_ok o5, trivial⟩ ?_
        refine Ev.ite (fun c6 => ?_) (fun c6 => ?_)
        · rw [if_pos c6] at hm
          refine Ev.fgt (lv' := [some (.ref 80), some (.int v1), some (.int v2), none, some (.int v4)]) ⟨rfl, rfl, rfl, rfl, trivial⟩ ?_
          exact bpX3_mostAlike_80_54 x k4 hk4 k15 hk15 S v1 v2 v4 v3 _ _ hm
        · rw [if_neg c6] at hm
          refine Ev.steps tokX3_mostAlike 2 (P := True) (pc' := 55) (lv' := [some (.ref 80), some (.int v1), some (.int v2), some (.int v3), some (.int v4)]) (st' := [.int 1, .int v3]) (h' := mkS x S) rfl trivial ?_
          refine Ev.fgt (lv' := [some (.ref 80), some (.int v1), some (.int v2), none, some (.int v4)]) ⟨rfl, rfl, rfl, rfl, trivial⟩ ?_
          exact bpX3_mostAlike_80_55 x k4 hk4 k15 hk15 S v1 v2 v4 v3 1 _ _ hm
theorem lpX3_mostAlike_80_15 (x : XT) (k4 : ST → Int32 → Int32 → Option (Int32 × ST)) (hk4 : ∀ (S : ST) (v1 : Int32) (v2 : Int32) (r : Int32) (S' : ST), k4 S v1 v2 = some (r, S') → Ev mX3_mostAlike 1 0 0 4 [some (.ref 80), some (.int v1), some (.int v2), none, none] [] (mkS x S) (fun v h => v = some (.int r) ∧ h = mkS x S')) : ∀ (n : Nat) (S : ST) (v1 : Int32) (v2 : Int32) (v3 : Int32) (v4 : Int32) (r : Int32) (S' : ST), lfX3_mostAlike_80_15 x k4 n S v1 v2 v3 v4 = some (r, S') → Ev mX3_mostAlike 1 0 0 15 [some (.ref 80), some (.int v1), some (.int v2), some (.int v3), some (.int v4)] [] (mkS x S) (fun v h => v = some (.int r) ∧ h = mkS x S')
  | 0, _, _, _, _, _, _, _, hm => by cases hm
  | n + 1, S, v1, v2, v3, v4, r, S', hm => bpX3_mostAlike_80_15 x k4 hk4 (lfX3_mostAlike_80_15 x k4 n) (lpX3_mostAlike_80_15 x k4 hk4 n) S v1 v2 v3 v4 r S' hm
set_option maxHeartbeats 4000000 in
set_option maxRecDepth 20000 in
theorem bpX3_mostAlike_80_4 (x : XT) (k4 : ST → Int32 → Int32 → Option (Int32 × ST)) (hk4 : ∀ (S : ST) (v1 : Int32) (v2 : Int32) (r : Int32) (S' : ST), k4 S v1 v2 = some (r, S') → Ev mX3_mostAlike 1 0 0 4 [some (.ref 80), some (.int v1), some (.int v2), none, none] [] (mkS x S) (fun v h => v = some (.int r) ∧ h = mkS x S')) (S : ST) (v1 : Int32) (v2 : Int32) (r : Int32) (S' : ST) (hm : bfX3_mostAlike_80_4 x k4 S v1 v2 = some (r, S')) : Ev mX3_mostAlike 1 0 0 4 [some (.ref 80), some (.int v1), some (.int v2), none, none] [] (mkS x S) (fun v h => v = some (.int r) ∧ h = mkS x S') := by
    unfold bfX3_mostAlike_80_4 at hm
    refine Ev.steps tokX3_mostAlike 3 (P := True) (pc' := if 8 ≤ v2 then 75 else 10) (lv' := [some (.ref 80), some (.int v1), some (.int v2), none, none]) (st' := []) (h' := mkS x S) rfl trivial ?_
    refine Ev.ite (fun c1 => ?_) (fun c1 => ?_)
    · rw [if_pos c1] at hm
      refine Ev.steps tokX3_mostAlike 1 (P := True) (pc' := 76) (lv' := [some (.ref 80), some (.int v1), some (.int v2), none, none]) (st' := [.int v1]) (h' := mkS x S) rfl trivial ?_
      cases hm
      exact Ev.reti tokX3_mostAlike rfl rfl ⟨rfl, rfl⟩
    · rw [if_neg c1] at hm
      refine Ev.steps tokX3_mostAlike 4 (P := True) (pc' := 15) (lv' := [some (.ref 80), some (.int v1), some (.int v2), some (.int 0), some (.int 0)]) (st' := []) (h' := mkS x S) rfl trivial ?_
      exact lpX3_mostAlike_80_15 x k4 hk4 20000 S v1 v2 0 0 _ _ hm
theorem lpX3_mostAlike_80_4 (x : XT)  : ∀ (n : Nat) (S : ST) (v1 : Int32) (v2 : Int32) (r : Int32) (S' : ST), lfX3_mostAlike_80_4 x  n S v1 v2 = some (r, S') → Ev mX3_mostAlike 1 0 0 4 [some (.ref 80), some (.int v1), some (.int v2), none, none] [] (mkS x S) (fun v h => v = some (.int r) ∧ h = mkS x S')
  | 0, _, _, _, _, _, hm => by cases hm
  | n + 1, S, v1, v2, r, S', hm => bpX3_mostAlike_80_4 x (lfX3_mostAlike_80_4 x  n) (lpX3_mostAlike_80_4 x  n) S v1 v2 r S' hm
set_option maxHeartbeats 4000000 in
set_option maxRecDepth 20000 in
theorem bpX3_mostAlike_80_0 (x : XT)  (S : ST)  (r : Int32) (S' : ST) (hm : bfX3_mostAlike_80_0 x  S  = some (r, S')) : Ev mX3_mostAlike 1 0 0 0 [some (.ref 80), none, none, none, none] [] (mkS x S) (fun v h => v = some (.int r) ∧ h = mkS x S') := by
    unfold bfX3_mostAlike_80_0 at hm
    refine Ev.steps tokX3_mostAlike 4 (P := True) (pc' := 4) (lv' := [some (.ref 80), some (.int 0), some (.int 0), none, none]) (st' := []) (h' := mkS x S) rfl trivial ?_
    exact lpX3_mostAlike_80_4 x  20000 S 0 0 _ _ hm
theorem gpX3_mostAlike_80 (x : XT) (S : ST)  (r : Int32) (S' : ST) (hm : gfX3_mostAlike_80 x S  = some (r, S')) : Ct mX3_mostAlike 1 0 0 [.ref 80] (mkS x S) (fun v h => v = some (.int r) ∧ h = mkS x S') :=
  Ct.of (lv := [some (.ref 80), none, none, none, none]) rfl rfl rfl (show (_ : Nat) ≤ _ from Nat.le_of_ble_eq_true rfl) (fun G => rfl) (bpX3_mostAlike_80_0 x S  r S' hm)
set_option maxHeartbeats 4000000 in
set_option maxRecDepth 20000 in
theorem bpX3_bestTrial_80_1_118 (x : XT)  (S : ST) (t0 : Int32) (r : Int32) (S' : ST) (hm : bfX3_bestTrial_80_1_118 x  S t0 = some (r, S')) : Ev mX3_bestTrial 6 0 0 118 [none, none, none, none, none, none, none, none, none] [.int t0] (mkS x S) (fun v h => v = some (.int r) ∧ h = mkS x S') := by
    unfold bfX3_bestTrial_80_1_118 at hm
    cases hm
    exact Ev.reti tokX3_bestTrial rfl rfl ⟨rfl, rfl⟩
set_option maxHeartbeats 4000000 in
set_option maxRecDepth 20000 in
theorem bpX3_bestTrial_80_1_101 (x : XT) (k24 : ST → Int32 → Int32 → Int32 → Int32 → Int32 → Int32 → Option (Int32 × ST)) (hk24 : ∀ (S : ST) (v2 : Int32) (v3 : Int32) (v4 : Int32) (v5 : Int32) (v6 : Int32) (v7 : Int32) (r : Int32) (S' : ST), k24 S v2 v3 v4 v5 v6 v7 = some (r, S') → Ev mX3_bestTrial 6 0 0 24 [some (.ref 80), some (.ref 1), some (.int v2), some (.int v3), some (.int v4), some (.int v5), some (.int v6), some (.int v7), none] [] (mkS x S) (fun v h => v = some (.int r) ∧ h = mkS x S')) (S : ST) (v2 : Int32) (v3 : Int32) (v4 : Int32) (v5 : Int32) (v6 : Int32) (v7 : Int32) (r : Int32) (S' : ST) (hm : bfX3_bestTrial_80_1_101 x k24 S v2 v3 v4 v5 v6 v7 = some (r, S')) : Ev mX3_bestTrial 6 0 0 101 [some (.ref 80), some (.ref 1), some (.int v2), some (.int v3), some (.int v4), some (.int v5), some (.int v6), some (.int v7), none] [] (mkS x S) (fun v h => v = some (.int r) ∧ h = mkS x S') := by
    unfold bfX3_bestTrial_80_1_101 at hm
    refine Ev.steps tokX3_bestTrial 2 (P := True) (pc' := 24) (lv' := [some (.ref 80), some (.ref 1), some (.int v2), some (.int v3), some (.int v4), some (.int v5), some (.int v6), some (.int (v7 + 1)), none]) (st' := []) (h' := mkS x S) rfl trivial ?_
    exact hk24 S v2 v3 v4 v5 v6 (v7 + 1) _ _ hm
set_option maxHeartbeats 4000000 in
set_option maxRecDepth 20000 in
theorem bpX3_bestTrial_80_1_73 (x : XT) (k24 : ST → Int32 → Int32 → Int32 → Int32 → Int32 → Int32 → Option (Int32 × ST)) (hk24 : ∀ (S : ST) (v2 : Int32) (v3 : Int32) (v4 : Int32) (v5 : Int32) (v6 : Int32) (v7 : Int32) (r : Int32) (S' : ST), k24 S v2 v3 v4 v5 v6 v7 = some (r, S') → Ev mX3_bestTrial 6 0 0 24 [some (.ref 80), some (.ref 1), some (.int v2), some (.int v3), some (.int v4), some (.int v5), some (.int v6), some (.int v7), none] [] (mkS x S) (fun v h => v = some (.int r) ∧ h = mkS x S')) (k34 : ST → Int32 → Int32 → Int32 → Int32 → Int32 → Int32 → Int32 → Option (Int32 × ST)) (hk34 : ∀ (S : ST) (v2 : Int32) (v3 : Int32) (v4 : Int32) (v5 : Int32) (v6 : Int32) (v7 : Int32) (v8 : Int32) (r : Int32) (S' : ST), k34 S v2 v3 v4 v5 v6 v7 v8 = some (r, S') → Ev mX3_bestTrial 6 0 0 34 [some (.ref 80), some (.ref 1), some (.int v2), some (.int v3), some (.int v4), some (.int v5), some (.int v6), some (.int v7), some (.int v8)] [] (mkS x S) (fun v h => v = some (.int r) ∧ h = mkS x S')) (S : ST) (v2 : Int32) (v3 : Int32) (v4 : Int32) (v5 : Int32) (v6 : Int32) (v7 : Int32) (v8 : Int32) (t1 : Int32) (t2 : Int32) (r : Int32) (S' : ST) (hm : bfX3_bestTrial_80_1_73 x k24 k34 S v2 v3 v4 v5 v6 v7 v8 t1 t2 = some (r, S')) : Ev mX3_bestTrial 6 0 0 73 [some (.ref 80), some (.ref 1), some (.int v2), some (.int v3), some (.int v4), some (.int v5), some (.int v6), some (.int v7), some (.int v8)] [.int t2, .int t1, .ref 81] (mkS x S) (fun v h => v = some (.int r) ∧ h = mkS x S') := by
    unfold bfX3_bestTrial_80_1_73 at hm
    obtain ⟨o1, hm⟩ := oblk hm
    refine Ev.steps tokX3_bestTrial 3 (P := vp_in t1 8 ∧ True) (pc' := 34) (lv' := [some (.ref 80), some (.ref 1), some (.int v2), some (.int v3), some (.int v4), some (.int v5), some (.int v6), some (.int v7), some (.int (v8 + 1))]) (st' := []) (h' := mkS x (S.1, (u2 S.2.1 81 t1.toNatClampNeg t2), S.2.2.1, S.2.2.2)) rfl ⟨inb_ok o1, trivial⟩ ?_
    exact hk34 (S.1, (u2 S.2.1 81 t1.toNatClampNeg t2), S.2.2.1, S.2.2.2) v2 v3 v4 v5 v6 v7 (v8 + 1) _ _ hm
set_option maxHeartbeats 4000000 in
set_option maxRecDepth 20000 in
theorem bpX3_bestTrial_80_1_34 (x : XT) (k24 : ST → Int32 → Int32 → Int32 → Int32 → Int32 → Int32 → Option (Int32 × ST)) (hk24 : ∀ (S : ST) (v2 : Int32) (v3 : Int32) (v4 : Int32) (v5 : Int32) (v6 : Int32) (v7 : Int32) (r : Int32) (S' : ST), k24 S v2 v3 v4 v5 v6 v7 = some (r, S') → Ev mX3_bestTrial 6 0 0 24 [some (.ref 80), some (.ref 1), some (.int v2), some (.int v3), some (.int v4), some (.int v5), some (.int v6), some (.int v7), none] [] (mkS x S) (fun v h => v = some (.int r) ∧ h = mkS x S')) (k34 : ST → Int32 → Int32 → Int32 → Int32 → Int32 → Int32 → Int32 → Option (Int32 × ST)) (hk34 : ∀ (S : ST) (v2 : Int32) (v3 : Int32) (v4 : Int32) (v5 : Int32) (v6 : Int32) (v7 : Int32) (v8 : Int32) (r : Int32) (S' : ST), k34 S v2 v3 v4 v5 v6 v7 v8 = some (r, S') → Ev mX3_bestTrial 6 0 0 34 [some (.ref 80), some (.ref 1), some (.int v2), some (.int v3), some (.int v4), some (.int v5), some (.int v6), some (.int v7), some (.int v8)] [] (mkS x S) (fun v h => v = some (.int r) ∧ h = mkS x S')) (S : ST) (v2 : Int32) (v3 : Int32) (v4 : Int32) (v5 : Int32) (v6 : Int32) (v7 : Int32) (v8 : Int32) (r : Int32) (S' : ST) (hm : bfX3_bestTrial_80_1_34 x k24 k34 S v2 v3 v4 v5 v6 v7 v8 = some (r, S')) : Ev mX3_bestTrial 6 0 0 34 [some (.ref 80), some (.ref 1), some (.int v2), some (.int v3), some (.int v4), some (.int v5), some (.int v6), some (.int v7), some (.int v8)] [] (mkS x S) (fun v h => v = some (.int r) ∧ h = mkS x S') := by
    unfold bfX3_bestTrial_80_1_34 at hm
    refine Ev.steps tokX3_bestTrial 3 (P := True) (pc' := if 8 ≤ v8 then 80 else 41) (lv' := [some (.ref 80), some (.ref 1), some (.int v2), some (.int v3), some (.int v4), some (.int v5), some (.int v6), some (.int v7), some (.int v8)]) (st' := []) (h' := mkS x S) rfl trivial ?_
    refine Ev.ite (fun c1 => ?_) (fun c1 => ?_)
    · rw [if_pos c1] at hm
      refine Ev.steps tokX3_bestTrial 1 (P := True) (pc' := 81) (lv' := [some (.ref 80), some (.ref 1), some (.int v2), some (.int v3), some (.int v4), some (.int v5), some (.int v6), some (.int v7), some (.int v8)]) (st' := [.ref 80]) (h' := mkS x S) rfl trivial ?_
      cases h2 : gfX3_mostAlike_80 x S with
      | none => rw [h2] at hm; cases hm
      | some q3 =>
        obtain ⟨r4, S5⟩ := q3
        rw [h2] at hm
        dsimp only at hm
        refine ev_callV (N := mX3_mostAlike) (d' := 1) (bc := 0) (bs := 0) (bc' := 0) (bs' := 0) (as := []) (rest := []) (a := 80) (ci := 3) (dcd tokX3_bestTrial rfl) okX3_mostAlike inX3_mostAlike seX3_mostAlike lk3_56 rfl (by decide) (Nat.le_of_ble_eq_true rfl) rfl ⟨by decide, rfl⟩ (gpX3_mostAlike_80 x S _ _ h2) (fun v h' hq hn => ?_)
        obtain ⟨rfl, rfl⟩ := hq
        refine Ev.steps tokX3_bestTrial 4 (P := True) (pc' := if v6 ≤ r4 then 101 else 93) (lv' := [some (.ref 80), some (.ref 1), some (.int v2), some (.int v3), some (.int v4), some (.int v5), some (.int v6), some (.int v7), some (.int r4)]) (st' := []) (h' := mkS x S5) rfl trivial ?_
        refine Ev.ite (fun c6 => ?_) (fun c6 => ?_)
        · rw [if_pos c6] at hm
          refine Ev.fgt (lv' := [some (.ref 80), some (.ref 1), some (.int v2), some (.int v3), some (.int v4), some (.int v5), some (.int v6), some (.int v7), none]) ⟨rfl, rfl, rfl, rfl, rfl, rfl, rfl, rfl, trivial⟩ ?_
          exact bpX3_bestTrial_80_1_101 x k24 hk24 S5 v2 v3 v4 v5 v6 v7 _ _ hm
        · rw [if_neg c6] at hm
          refine Ev.steps tokX3_bestTrial 4 (P := True) (pc' := 101) (lv' := [some (.ref 80), some (.ref 1), some (.int v2), some (.int v3), some (.int v4), some (.int v7), some (.int r4), some (.int v7), some (.int r4)]) (st' := []) (h' := mkS x S5) rfl trivial ?_
          refine Ev.fgt (lv' := [some (.ref 80), some (.ref 1), some (.int v2), some (.int v3), some (.int v4), some (.int v7), some (.int r4), some (.int v7), none]) ⟨rfl, rfl, rfl, rfl, rfl, rfl, rfl, rfl, trivial⟩ ?_
          exact bpX3_bestTrial_80_1_101 x k24 hk24 S5 v2 v3 v4 v7 r4 v7 _ _ hm
    · rw [if_neg c1] at hm
      refine Ev.steps tokX3_bestTrial 10 (P := True) (pc' := if ¬ ((v4 >>> (v8 &&& 31)) &&& 1) = 1 then 71 else 58) (lv' := [some (.ref 80), some (.ref 1), some (.int v2), some (.int v3), some (.int v4), some (.int v5), some (.int v6), some (.int v7), some (.int v8)]) (st' := [.int v8, .ref 81]) (h' := mkS x S) rfl trivial ?_
      refine Ev.ite (fun c7 => ?_) (fun c7 => ?_)
      · rw [if_pos c7] at hm
        refine Ev.steps tokX3_bestTrial 1 (P := True) (pc' := 73) (lv' := [some (.ref 80), some (.ref 1), some (.int v2), some (.int v3), some (.int v4), some (.int v5), some (.int v6), some (.int v7), some (.int v8)]) (st' := [.int (-2), .int v8, .ref 81]) (h' := mkS x S) rfl trivial ?_
        exact bpX3_bestTrial_80_1_73 x k24 hk24 k34 hk34 S v2 v3 v4 v5 v6 v7 v8 v8 (-2) _ _ hm
      · rw [if_neg c7] at hm
        refine Ev.steps tokX3_bestTrial 5 (P := True) (pc' := 65) (lv' := [some (.ref 80), some (.ref 1), some (.int v2), some (.int v3), some (.int v4), some (.int v5), some (.int v6), some (.int v7), some (.int v8)]) (st' := [.int v7, .int v2, .int v8, .ref 1, .ref 80, .int v8, .ref 81]) (h' := mkS x S) rfl trivial ?_
        cases h8 : gfX3_comesOut_80_1 x S v8 v2 v7 with
        | none => rw [h8] at hm; cases hm
        | some q9 =>
          obtain ⟨r10, S11⟩ := q9
          rw [h8] at hm
          dsimp only at hm
          refine ev_callV (N := mX3_comesOut) (d' := 4) (bc := 0) (bs := 0) (bc' := 0) (bs' := 0) (as := [.ref 1, .int v8, .int v2, .int v7]) (rest := [.int v8, .ref 81]) (a := 80) (ci := 3) (dcd tokX3_bestTrial rfl) okX3_comesOut inX3_comesOut seX3_comesOut lk3_45 rfl (by decide) (Nat.le_of_ble_eq_true rfl) rfl ⟨by decide, rfl⟩ (gpX3_comesOut_80_1 x S v8 v2 v7 _ _ h8) (fun v h' hq hn => ?_)
          obtain ⟨rfl, rfl⟩ := hq
          refine Ev.steps tokX3_bestTrial 1 (P := True) (pc' := 73) (lv' := [some (.ref 80), some (.ref 1), some (.int v2), some (.int v3), some (.int v4), some (.int v5), some (.int v6), some (.int v7), some (.int v8)]) (st' := [.int r10, .int v8, .ref 81]) (h' := mkS x S11) rfl trivial ?_
          exact bpX3_bestTrial_80_1_73 x k24 hk24 k34 hk34 S11 v2 v3 v4 v5 v6 v7 v8 v8 r10 _ _ hm
theorem lpX3_bestTrial_80_1_34 (x : XT) (k24 : ST → Int32 → Int32 → Int32 → Int32 → Int32 → Int32 → Option (Int32 × ST)) (hk24 : ∀ (S : ST) (v2 : Int32) (v3 : Int32) (v4 : Int32) (v5 : Int32) (v6 : Int32) (v7 : Int32) (r : Int32) (S' : ST), k24 S v2 v3 v4 v5 v6 v7 = some (r, S') → Ev mX3_bestTrial 6 0 0 24 [some (.ref 80), some (.ref 1), some (.int v2), some (.int v3), some (.int v4), some (.int v5), some (.int v6), some (.int v7), none] [] (mkS x S) (fun v h => v = some (.int r) ∧ h = mkS x S')) : ∀ (n : Nat) (S : ST) (v2 : Int32) (v3 : Int32) (v4 : Int32) (v5 : Int32) (v6 : Int32) (v7 : Int32) (v8 : Int32) (r : Int32) (S' : ST), lfX3_bestTrial_80_1_34 x k24 n S v2 v3 v4 v5 v6 v7 v8 = some (r, S') → Ev mX3_bestTrial 6 0 0 34 [some (.ref 80), some (.ref 1), some (.int v2), some (.int v3), some (.int v4), some (.int v5), some (.int v6), some (.int v7), some (.int v8)] [] (mkS x S) (fun v h => v = some (.int r) ∧ h = mkS x S')
  | 0, _, _, _, _, _, _, _, _, _, _, hm => by cases hm
  | n + 1, S, v2, v3, v4, v5, v6, v7, v8, r, S', hm => bpX3_bestTrial_80_1_34 x k24 hk24 (lfX3_bestTrial_80_1_34 x k24 n) (lpX3_bestTrial_80_1_34 x k24 hk24 n) S v2 v3 v4 v5 v6 v7 v8 r S' hm
set_option maxHeartbeats 4000000 in
set_option maxRecDepth 20000 in
theorem bpX3_bestTrial_80_1_24 (x : XT) (k24 : ST → Int32 → Int32 → Int32 → Int32 → Int32 → Int32 → Option (Int32 × ST)) (hk24 : ∀ (S : ST) (v2 : Int32) (v3 : Int32) (v4 : Int32) (v5 : Int32) (v6 : Int32) (v7 : Int32) (r : Int32) (S' : ST), k24 S v2 v3 v4 v5 v6 v7 = some (r, S') → Ev mX3_bestTrial 6 0 0 24 [some (.ref 80), some (.ref 1), some (.int v2), some (.int v3), some (.int v4), some (.int v5), some (.int v6), some (.int v7), none] [] (mkS x S) (fun v h => v = some (.int r) ∧ h = mkS x S')) (S : ST) (v2 : Int32) (v3 : Int32) (v4 : Int32) (v5 : Int32) (v6 : Int32) (v7 : Int32) (r : Int32) (S' : ST) (hm : bfX3_bestTrial_80_1_24 x k24 S v2 v3 v4 v5 v6 v7 = some (r, S')) : Ev mX3_bestTrial 6 0 0 24 [some (.ref 80), some (.ref 1), some (.int v2), some (.int v3), some (.int v4), some (.int v5), some (.int v6), some (.int v7), none] [] (mkS x S) (fun v h => v = some (.int r) ∧ h = mkS x S') := by
    unfold bfX3_bestTrial_80_1_24 at hm
    refine Ev.steps tokX3_bestTrial 3 (P := True) (pc' := if 20 ≤ v7 then 107 else 31) (lv' := [some (.ref 80), some (.ref 1), some (.int v2), some (.int v3), some (.int v4), some (.int v5), some (.int v6), some (.int v7), none]) (st' := []) (h' := mkS x S) rfl trivial ?_
    refine Ev.ite (fun c1 => ?_) (fun c1 => ?_)
    · rw [if_pos c1] at hm
      refine Ev.steps tokX3_bestTrial 2 (P := True) (pc' := if v3 = 0 then 116 else 111) (lv' := [some (.ref 80), some (.ref 1), some (.int v2), some (.int v3), some (.int v4), some (.int v5), some (.int v6), some (.int v7), none]) (st' := []) (h' := mkS x S) rfl trivial ?_
      refine Ev.ite (fun c2 => ?_) (fun c2 => ?_)
      · rw [if_pos c2] at hm
        refine Ev.steps tokX3_bestTrial 1 (P := True) (pc' := 118) (lv' := [some (.ref 80), some (.ref 1), some (.int v2), some (.int v3), some (.int v4), some (.int v5), some (.int v6), some (.int v7), none]) (st' := [.int v6]) (h' := mkS x S) rfl trivial ?_
        refine Ev.fgt (lv' := [none, none, none, none, none, none, none, none, none]) trivial ?_
        exact bpX3_bestTrial_80_1_118 x S v6 _ _ hm
      · rw [if_neg c2] at hm
        refine Ev.steps tokX3_bestTrial 2 (P := True) (pc' := 118) (lv' := [some (.ref 80), some (.ref 1), some (.int v2), some (.int v3), some (.int v4), some (.int v5), some (.int v6), some (.int v7), none]) (st' := [.int v5]) (h' := mkS x S) rfl trivial ?_
        refine Ev.fgt (lv' := [none, none, none, none, none, none, none, none, none]) trivial ?_
        exact bpX3_bestTrial_80_1_118 x S v5 _ _ hm
    · rw [if_neg c1] at hm
      refine Ev.steps tokX3_bestTrial 2 (P := True) (pc' := 34) (lv' := [some (.ref 80), some (.ref 1), some (.int v2), some (.int v3), some (.int v4), some (.int v5), some (.int v6), some (.int v7), some (.int 0)]) (st' := []) (h' := mkS x S) rfl trivial ?_
      exact lpX3_bestTrial_80_1_34 x k24 hk24 20000 S v2 v3 v4 v5 v6 v7 0 _ _ hm
theorem lpX3_bestTrial_80_1_24 (x : XT)  : ∀ (n : Nat) (S : ST) (v2 : Int32) (v3 : Int32) (v4 : Int32) (v5 : Int32) (v6 : Int32) (v7 : Int32) (r : Int32) (S' : ST), lfX3_bestTrial_80_1_24 x  n S v2 v3 v4 v5 v6 v7 = some (r, S') → Ev mX3_bestTrial 6 0 0 24 [some (.ref 80), some (.ref 1), some (.int v2), some (.int v3), some (.int v4), some (.int v5), some (.int v6), some (.int v7), none] [] (mkS x S) (fun v h => v = some (.int r) ∧ h = mkS x S')
  | 0, _, _, _, _, _, _, _, _, _, hm => by cases hm
  | n + 1, S, v2, v3, v4, v5, v6, v7, r, S', hm => bpX3_bestTrial_80_1_24 x (lfX3_bestTrial_80_1_24 x  n) (lpX3_bestTrial_80_1_24 x  n) S v2 v3 v4 v5 v6 v7 r S' hm
set_option maxHeartbeats 4000000 in
set_option maxRecDepth 20000 in
theorem bpX3_bestTrial_80_1_0 (x : XT)  (S : ST) (p2 : Int32) (p3 : Int32) (r : Int32) (S' : ST) (hm : bfX3_bestTrial_80_1_0 x  S p2 p3 = some (r, S')) : Ev mX3_bestTrial 6 0 0 0 [some (.ref 80), some (.ref 1), some (.int p2), some (.int p3), none, none, none, none, none] [] (mkS x S) (fun v h => v = some (.int r) ∧ h = mkS x S') := by
    unfold bfX3_bestTrial_80_1_0 at hm
    refine Ev.steps tokX3_bestTrial 2 (P := True) (pc' := 2) (lv' := [some (.ref 80), some (.ref 1), some (.int p2), some (.int p3), none, none, none, none, none]) (st' := [.ref 1, .ref 80]) (h' := mkS x S) rfl trivial ?_
    cases h1 : gfX3_possible_80_1 x S with
    | none => rw [h1] at hm; cases hm
    | some q2 =>
      obtain ⟨r3, S4⟩ := q2
      rw [h1] at hm
      dsimp only at hm
      refine ev_callV (N := mX3_possible) (d' := 5) (bc := 0) (bs := 0) (bc' := 0) (bs' := 0) (as := [.ref 1]) (rest := []) (a := 80) (ci := 3) (dcd tokX3_bestTrial rfl) okX3_possible inX3_possible seX3_possible lk3_52 rfl (by decide) (Nat.le_of_ble_eq_true rfl) rfl ⟨by decide, rfl⟩ (gpX3_possible_80_1 x S _ _ h1) (fun v h' hq hn => ?_)
      obtain ⟨rfl, rfl⟩ := hq
      refine Ev.steps tokX3_bestTrial 3 (P := True) (pc' := if ¬ r3 = 0 then 14 else 12) (lv' := [some (.ref 80), some (.ref 1), some (.int p2), some (.int p3), some (.int r3), none, none, none, none]) (st' := []) (h' := mkS x S4) rfl trivial ?_
      refine Ev.ite (fun c5 => ?_) (fun c5 => ?_)
      · rw [if_pos c5] at hm
        refine Ev.steps tokX3_bestTrial 6 (P := True) (pc' := 24) (lv' := [some (.ref 80), some (.ref 1), some (.int p2), some (.int p3), some (.int r3), some (.int (-1)), some (.int 9), some (.int 0), none]) (st' := []) (h' := mkS x S4) rfl trivial ?_
        exact lpX3_bestTrial_80_1_24 x  20000 S4 p2 p3 r3 (-1) 9 0 _ _ hm
      · rw [if_neg c5] at hm
        refine Ev.steps tokX3_bestTrial 1 (P := True) (pc' := 13) (lv' := [some (.ref 80), some (.ref 1), some (.int p2), some (.int p3), some (.int r3), none, none, none, none]) (st' := [.int (-1)]) (h' := mkS x S4) rfl trivial ?_
        cases hm
        exact Ev.reti tokX3_bestTrial rfl rfl ⟨rfl, rfl⟩
theorem gpX3_bestTrial_80_1 (x : XT) (S : ST) (p2 : Int32) (p3 : Int32) (r : Int32) (S' : ST) (hm : gfX3_bestTrial_80_1 x S p2 p3 = some (r, S')) : Ct mX3_bestTrial 6 0 0 [.ref 80, .ref 1, .int p2, .int p3] (mkS x S) (fun v h => v = some (.int r) ∧ h = mkS x S') :=
  Ct.of (lv := [some (.ref 80), some (.ref 1), some (.int p2), some (.int p3), none, none, none, none, none]) rfl rfl rfl (show (_ : Nat) ≤ _ from Nat.le_of_ble_eq_true rfl) (fun G => rfl) (bpX3_bestTrial_80_1_0 x S p2 p3 r S' hm)
set_option maxHeartbeats 4000000 in
set_option maxRecDepth 20000 in
theorem bpX10_ask_0_17 (x : XT)  (S : ST)  (r : Int32) (S' : ST) (hm : bfX10_ask_0_17 x  S  = some (r, S')) : Ev mX10_ask 7 0 0 17 [none, none, none] [] (mkS x S) (fun v h => v = some (.int r) ∧ h = mkS x S') := by
    unfold bfX10_ask_0_17 at hm
    refine Ev.steps tokX10_ask 1 (P := True) (pc' := 18) (lv' := [none, none, none]) (st' := [.int (-1)]) (h' := mkS x S) rfl trivial ?_
    cases hm
    exact Ev.reti tokX10_ask rfl rfl ⟨rfl, rfl⟩
set_option maxHeartbeats 4000000 in
set_option maxRecDepth 20000 in
theorem bpX10_ask_0_37 (x : XT)  (S : ST) (t2 : Int32) (t3 : Int32) (r : Int32) (S' : ST) (hm : bfX10_ask_0_37 x  S t2 t3 = some (r, S')) : Ev mX10_ask 7 0 0 37 [none, none, none] [.int t3, .int t2, .ref 1, .ref 80] (mkS x S) (fun v h => v = some (.int r) ∧ h = mkS x S') := by
    unfold bfX10_ask_0_37 at hm
    cases h1 : gfX3_bestTrial_80_1 x S t2 t3 with
    | none => rw [h1] at hm; cases hm
    | some q2 =>
      obtain ⟨r3, S4⟩ := q2
      rw [h1] at hm
      dsimp only at hm
      refine ev_callV (N := mX3_bestTrial) (d' := 6) (bc := 0) (bs := 0) (bc' := 0) (bs' := 0) (as := [.ref 1, .int t2, .int t3]) (rest := []) (a := 80) (ci := 3) (dcd tokX10_ask rfl) okX3_bestTrial inX3_bestTrial seX3_bestTrial lk10_310 rfl (by decide) (Nat.le_of_ble_eq_true rfl) rfl ⟨by decide, rfl⟩ (gpX3_bestTrial_80_1 x S t2 t3 _ _ h1) (fun v h' hq hn => ?_)
      obtain ⟨rfl, rfl⟩ := hq
      cases hm
      exact Ev.reti tokX10_ask rfl rfl ⟨rfl, rfl⟩
set_option maxHeartbeats 4000000 in
set_option maxRecDepth 20000 in
theorem bpX10_ask_0_0 (x : XT)  (S : ST) (p1 : Int32) (p2 : Int32) (r : Int32) (S' : ST) (hm : bfX10_ask_0_0 x  S p1 p2 = some (r, S')) : Ev mX10_ask 7 0 0 0 [some (.ref 0), some (.int p1), some (.int p2)] [] (mkS x S) (fun v h => v = some (.int r) ∧ h = mkS x S') := by
    unfold bfX10_ask_0_0 at hm
    refine Ev.steps tokX10_ask 2 (P := True) (pc' := 3) (lv' := [some (.ref 0), some (.int p1), some (.int p2)]) (st' := [.int 10, .int p1]) (h' := mkS x S) rfl trivial ?_
    cases h1 : gfX10_within x S p1 10 with
    | none => rw [h1] at hm; cases hm
    | some q2 =>
      obtain ⟨r3, S4⟩ := q2
      rw [h1] at hm
      dsimp only at hm
      refine ev_callS (N := mX10_within) (d' := 1) (bc := 0) (bs := 0) (bc' := 0) (bs' := 0) (as := [.int p1, .int 10]) (rest := []) (dcd tokX10_ask rfl) okX10_within inX10_within lk10_153 rfl (by decide) (Nat.le_of_ble_eq_true rfl) (gpX10_within x S p1 10 _ _ h1) (fun v h' hq hn => ?_)
      obtain ⟨rfl, rfl⟩ := hq
      refine Ev.steps tokX10_ask 1 (P := True) (pc' := if r3 = 0 then 17 else 9) (lv' := [some (.ref 0), some (.int p1), some (.int p2)]) (st' := []) (h' := mkS x S4) rfl trivial ?_
      refine Ev.ite (fun c5 => ?_) (fun c5 => ?_)
      · rw [if_pos c5] at hm
        refine Ev.fgt (lv' := [none, none, none]) trivial ?_
        exact bpX10_ask_0_17 x S4 _ _ hm
      · rw [if_neg c5] at hm
        refine Ev.steps tokX10_ask 2 (P := True) (pc' := 11) (lv' := [some (.ref 0), some (.int p1), some (.int p2)]) (st' := [.int 2, .int p2]) (h' := mkS x S4) rfl trivial ?_
        cases h6 : gfX10_within x S4 p2 2 with
        | none => rw [h6] at hm; cases hm
        | some q7 =>
          obtain ⟨r8, S9⟩ := q7
          rw [h6] at hm
          dsimp only at hm
          refine ev_callS (N := mX10_within) (d' := 1) (bc := 0) (bs := 0) (bc' := 0) (bs' := 0) (as := [.int p2, .int 2]) (rest := []) (dcd tokX10_ask rfl) okX10_within inX10_within lk10_153 rfl (by decide) (Nat.le_of_ble_eq_true rfl) (gpX10_within x S4 p2 2 _ _ h6) (fun v h' hq hn => ?_)
          obtain ⟨rfl, rfl⟩ := hq
          refine Ev.steps tokX10_ask 1 (P := True) (pc' := if ¬ r8 = 0 then 19 else 17) (lv' := [some (.ref 0), some (.int p1), some (.int p2)]) (st' := []) (h' := mkS x S9) rfl trivial ?_
          refine Ev.ite (fun c10 => ?_) (fun c10 => ?_)
          · rw [if_pos c10] at hm
            refine Ev.steps tokX10_ask 7 (P := True) (pc' := if ¬ p2 = 0 then 36 else 32) (lv' := [some (.ref 0), some (.int p1), some (.int p2)]) (st' := [.int p1, .ref 1, .ref 80]) (h' := mkS x S9) rfl trivial ?_
            refine Ev.ite (fun c11 => ?_) (fun c11 => ?_)
            · rw [if_pos c11] at hm
              refine Ev.steps tokX10_ask 1 (P := True) (pc' := 37) (lv' := [some (.ref 0), some (.int p1), some (.int p2)]) (st' := [.int 0, .int p1, .ref 1, .ref 80]) (h' := mkS x S9) rfl trivial ?_
              refine Ev.fgt (lv' := [none, none, none]) trivial ?_
              exact bpX10_ask_0_37 x S9 p1 0 _ _ hm
            · rw [if_neg c11] at hm
              refine Ev.steps tokX10_ask 2 (P := True) (pc' := 37) (lv' := [some (.ref 0), some (.int p1), some (.int p2)]) (st' := [.int 1, .int p1, .ref 1, .ref 80]) (h' := mkS x S9) rfl trivial ?_
              refine Ev.fgt (lv' := [none, none, none]) trivial ?_
              exact bpX10_ask_0_37 x S9 p1 1 _ _ hm
          · rw [if_neg c10] at hm
            refine Ev.fgt (lv' := [none, none, none]) trivial ?_
            exact bpX10_ask_0_17 x S9 _ _ hm
theorem gpX10_ask_0 (x : XT) (S : ST) (p1 : Int32) (p2 : Int32) (r : Int32) (S' : ST) (hm : gfX10_ask_0 x S p1 p2 = some (r, S')) : Ct mX10_ask 7 0 0 [.ref 0, .int p1, .int p2] (mkS x S) (fun v h => v = some (.int r) ∧ h = mkS x S') :=
  Ct.of (lv := [some (.ref 0), some (.int p1), some (.int p2)]) rfl rfl rfl (show (_ : Nat) ≤ _ from Nat.le_of_ble_eq_true rfl) (fun G => rfl) (bpX10_ask_0_0 x S p1 p2 r S' hm)
end MIR
