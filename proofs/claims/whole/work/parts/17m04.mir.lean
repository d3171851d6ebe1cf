section MIR
set_option maxHeartbeats 4000000 in
set_option maxRecDepth 20000 in
theorem bpX4_times_24_47 (x : XT)  (S : ST)  (r : Int32) (S' : ST) (hm : bfX4_times_24_47 x  S  = some (r, S')) : Ev mX4_times 2 0 0 47 [some (.ref 24), none] [] (mkS x S) (fun v h => v = some (.int r) ∧ h = mkS x S') := by
    unfold bfX4_times_24_47 at hm
    refine Ev.steps tokX4_times 1 (P := True) (pc' := 48) (lv' := [some (.ref 24), none]) (st' := [.ref 24]) (h' := mkS x S) rfl trivial ?_
    cases h1 : gfX4_faulty_24 x S with
    | none => rw [h1] at hm; cases hm
    | some q2 =>
      obtain ⟨r3, S4⟩ := q2
      rw [h1] at hm
      dsimp only at hm
      refine ev_callV (N := mX4_faulty) (d' := 1) (bc := 0) (bs := 0) (bc' := 0) (bs' := 0) (as := []) (rest := []) (a := 24) (ci := 4) (dcd tokX4_times rfl) okX4_faulty inX4_faulty seX4_faulty lk4_62 rfl (by decide) (Nat.le_of_ble_eq_true rfl) rfl ⟨by decide, rfl⟩ (gpX4_faulty_24 x S _ _ h1) (fun v h' hq hn => ?_)
      obtain ⟨rfl, rfl⟩ := hq
      obtain ⟨o5, hm⟩ := oblk hm
      cases hm
      exact Ev.retz tokX4_times rfl rfl (bbz_ok o5) ⟨rfl, rfl⟩
set_option maxHeartbeats 4000000 in
set_option maxRecDepth 20000 in
theorem bpX4_times_24_0 (x : XT)  (S : ST) (p1 : Int32) (r : Int32) (S' : ST) (hm : bfX4_times_24_0 x  S p1 = some (r, S')) : Ev mX4_times 2 0 0 0 [some (.ref 24), some (.int p1)] [] (mkS x S) (fun v h => v = some (.int r) ∧ h = mkS x S') := by
    unfold bfX4_times_24_0 at hm
    refine Ev.steps tokX4_times 7 (P := True) (pc' := 11) (lv' := [some (.ref 24), some (.int p1)]) (st' := [.ref 24]) (h' := mkS x ((u2 S.1 24 6 ((S.1 24 6) + 1)), S.2.1, S.2.2.1, S.2.2.2)) rfl trivial ?_
    cases h1 : gfX4_here_24 x ((u2 S.1 24 6 ((S.1 24 6) + 1)), S.2.1, S.2.2.1, S.2.2.2) with
    | none => rw [h1] at hm; cases hm
    | some q2 =>
      obtain ⟨r3, S4⟩ := q2
      rw [h1] at hm
      dsimp only at hm
      refine ev_callV (N := mX4_here) (d' := 1) (bc := 0) (bs := 0) (bc' := 0) (bs' := 0) (as := []) (rest := []) (a := 24) (ci := 4) (dcd tokX4_times rfl) okX4_here inX4_here seX4_here lk4_58 rfl (by decide) (Nat.le_of_ble_eq_true rfl) rfl ⟨by decide, rfl⟩ (gpX4_here_24 x ((u2 S.1 24 6 ((S.1 24 6) + 1)), S.2.1, S.2.2.1, S.2.2.2) _ _ h1) (fun v h' hq hn => ?_)
      obtain ⟨rfl, rfl⟩ := hq
      refine Ev.steps tokX4_times 2 (P := True) (pc' := if ¬ r3 = 256 then 47 else 20) (lv' := [some (.ref 24), some (.int p1)]) (st' := []) (h' := mkS x S4) rfl trivial ?_
      refine Ev.ite (fun c5 => ?_) (fun c5 => ?_)
      · rw [if_pos c5] at hm
        refine Ev.fgt (lv' := [some (.ref 24), none]) ⟨rfl, trivial⟩ ?_
        exact bpX4_times_24_47 x S4 _ _ hm
      · rw [if_neg c5] at hm
        obtain ⟨o6, hm⟩ := oblk hm
        refine Ev.steps tokX4_times 7 (P := vp_in (S4.1 24 6) 401 ∧ True) (pc' := if (S4.2.1 31 ((S4.1 24 6).toNatClampNeg)) < 1 then 47 else 33) (lv' := [some (.ref 24), some (.int p1)]) (st' := []) (h' := mkS x S4) rfl ⟨inb_ok o6, trivial⟩ ?_
        refine Ev.ite (fun c7 => ?_) (fun c7 => ?_)
        · rw [if_pos c7] at hm
          refine Ev.fgt (lv' := [some (.ref 24), none]) ⟨rfl, trivial⟩ ?_
          exact bpX4_times_24_47 x S4 _ _ hm
        · rw [if_neg c7] at hm
          obtain ⟨o8, hm⟩ := oblk hm
          refine Ev.steps tokX4_times 7 (P := vp_in (S4.1 24 6) 401 ∧ True) (pc' := if (S4.2.1 31 ((S4.1 24 6).toNatClampNeg)) ≤ 20 then 52 else 47) (lv' := [some (.ref 24), some (.int p1)]) (st' := []) (h' := mkS x S4) rfl ⟨inb_ok o8, trivial⟩ ?_
          refine Ev.ite (fun c9 => ?_) (fun c9 => ?_)
          · rw [if_pos c9] at hm
            obtain ⟨o10, hm⟩ := oblk hm
            obtain ⟨o11, hm⟩ := oblk hm
            refine Ev.steps tokX4_times 17 (P := vp_in (S4.1 24 6) 401 ∧ vp_in p1 12 ∧ True) (pc' := 81) (lv' := [some (.ref 24), some (.int p1)]) (st' := [.int 1]) (h' := mkS x ((u2 S4.1 24 6 ((S4.1 24 6) + 1)), (u2 S4.2.1 27 p1.toNatClampNeg (S4.2.1 31 ((S4.1 24 6).toNatClampNeg))), S4.2.2.1, S4.2.2.2)) rfl ⟨inb_ok o10, inb_ok o11, trivial⟩ ?_
            cases hm
            exact Ev.retz tokX4_times rfl rfl (Or.inr rfl) ⟨rfl, rfl⟩
          · rw [if_neg c9] at hm
            refine Ev.fgt (lv' := [some (.ref 24), none]) ⟨rfl, trivial⟩ ?_
            exact bpX4_times_24_47 x S4 _ _ hm
theorem gpX4_times_24 (x : XT) (S : ST) (p1 : Int32) (r : Int32) (S' : ST) (hm : gfX4_times_24 x S p1 = some (r, S')) : Ct mX4_times 2 0 0 [.ref 24, .int p1] (mkS x S) (fun v h => v = some (.int r) ∧ h = mkS x S') :=
  Ct.of (lv := [some (.ref 24), some (.int p1)]) rfl rfl rfl (show (_ : Nat) ≤ _ from Nat.le_of_ble_eq_true rfl) (fun G => rfl) (bpX4_times_24_0 x S p1 r S' hm)
set_option maxHeartbeats 4000000 in
set_option maxRecDepth 20000 in
theorem bpX4_clause_24_57 (x : XT)  (S : ST)  (r : Int32) (S' : ST) (hm : bfX4_clause_24_57 x  S  = some (r, S')) : Ev mX4_clause 64 0 0 57 [some (.ref 24), none, none] [] (mkS x S) (fun v h => v = some (.int r) ∧ h = mkS x S') := by
    unfold bfX4_clause_24_57 at hm
    refine Ev.steps tokX4_clause 1 (P := True) (pc' := 58) (lv' := [some (.ref 24), none, none]) (st' := [.ref 24]) (h' := mkS x S) rfl trivial ?_
    cases h1 : gfX4_faulty_24 x S with
    | none => rw [h1] at hm; cases hm
    | some q2 =>
      obtain ⟨r3, S4⟩ := q2
      rw [h1] at hm
      dsimp only at hm
      refine ev_callV (N := mX4_faulty) (d' := 1) (bc := 0) (bs := 0) (bc' := 0) (bs' := 0) (as := []) (rest := []) (a := 24) (ci := 4) (dcd tokX4_clause rfl) okX4_faulty inX4_faulty seX4_faulty lk4_62 rfl (by decide) (Nat.le_of_ble_eq_true rfl) rfl ⟨by decide, rfl⟩ (gpX4_faulty_24 x S _ _ h1) (fun v h' hq hn => ?_)
      obtain ⟨rfl, rfl⟩ := hq
      obtain ⟨o5, hm⟩ := oblk hm
      cases hm
      exact Ev.retz tokX4_clause rfl rfl (bbz_ok o5) ⟨rfl, rfl⟩
set_option maxHeartbeats 4000000 in
set_option maxRecDepth 20000 in
theorem bpX4_clause_24_286 (x : XT)  (S : ST) (v1 : Int32) (r : Int32) (S' : ST) (hm : bfX4_clause_24_286 x  S v1 = some (r, S')) : Ev mX4_clause 64 0 0 286 [some (.ref 24), some (.int v1), none] [] (mkS x S) (fun v h => v = some (.int r) ∧ h = mkS x S') := by
    unfold bfX4_clause_24_286 at hm
    obtain ⟨o1, hm⟩ := oblk hm
    refine Ev.steps tokX4_clause 20 (P := vp_in ((4 * v1) + 3) 48 ∧ True) (pc' := 320) (lv' := [some (.ref 24), some (.int v1), none]) (st' := [.int 1]) (h' := mkS x ((u2 S.1 25 0 ((S.1 25 0) + 1)), (u2 S.2.1 28 (((4 * v1) + 3).toNatClampNeg) (S.1 25 1)), S.2.2.1, S.2.2.2)) rfl ⟨inb_ok o1, trivial⟩ ?_
    cases hm
    exact Ev.retz tokX4_clause rfl rfl (Or.inr rfl) ⟨rfl, rfl⟩
set_option maxHeartbeats 4000000 in
set_option maxRecDepth 20000 in
theorem bpX4_clause_24_253 (x : XT)  (S : ST) (v1 : Int32) (r : Int32) (S' : ST) (hm : bfX4_clause_24_253 x  S v1 = some (r, S')) : Ev mX4_clause 64 0 0 253 [some (.ref 24), some (.int v1), none] [] (mkS x S) (fun v h => v = some (.int r) ∧ h = mkS x S') := by
    unfold bfX4_clause_24_253 at hm
    refine Ev.steps tokX4_clause 1 (P := True) (pc' := 254) (lv' := [some (.ref 24), some (.int v1), none]) (st' := [.ref 24]) (h' := mkS x S) rfl trivial ?_
    cases h1 : gfX4_here_24 x S with
    | none => rw [h1] at hm; cases hm
    | some q2 =>
      obtain ⟨r3, S4⟩ := q2
      rw [h1] at hm
      dsimp only at hm
      refine ev_callV (N := mX4_here) (d' := 1) (bc := 0) (bs := 0) (bc' := 0) (bs' := 0) (as := []) (rest := []) (a := 24) (ci := 4) (dcd tokX4_clause rfl) okX4_here inX4_here seX4_here lk4_58 rfl (by decide) (Nat.le_of_ble_eq_true rfl) rfl ⟨by decide, rfl⟩ (gpX4_here_24 x S _ _ h1) (fun v h' hq hn => ?_)
      obtain ⟨rfl, rfl⟩ := hq
      refine Ev.steps tokX4_clause 2 (P := True) (pc' := if ¬ r3 = 267 then 286 else 263) (lv' := [some (.ref 24), some (.int v1), none]) (st' := []) (h' := mkS x S4) rfl trivial ?_
      refine Ev.ite (fun c5 => ?_) (fun c5 => ?_)
      · rw [if_pos c5] at hm
        exact bpX4_clause_24_286 x S4 v1 _ _ hm
      · rw [if_neg c5] at hm
        refine Ev.steps tokX4_clause 9 (P := True) (pc' := 278) (lv' := [some (.ref 24), some (.int v1), none]) (st' := [.int 271, .int 0, .ref 24]) (h' := mkS x ((u2 S4.1 24 6 ((S4.1 24 6) + 1)), S4.2.1, S4.2.2.1, S4.2.2.2)) rfl trivial ?_
        cases h6 : gfX4_test_24 x ((u2 S4.1 24 6 ((S4.1 24 6) + 1)), S4.2.1, S4.2.2.1, S4.2.2.2) 0 271 with
        | none => rw [h6] at hm; cases hm
        | some q7 =>
          obtain ⟨r8, S9⟩ := q7
          rw [h6] at hm
          dsimp only at hm
          refine ev_callV (N := mX4_test) (d' := 63) (bc := 0) (bs := 0) (bc' := 0) (bs' := 0) (as := [.int 0, .int 271]) (rest := []) (a := 24) (ci := 4) (dcd tokX4_clause rfl) okX4_test inX4_test seX4_test lk4_129 rfl (by decide) (Nat.le_of_ble_eq_true rfl) rfl ⟨by decide, rfl⟩ (gpX4_test_24 x ((u2 S4.1 24 6 ((S4.1 24 6) + 1)), S4.2.1, S4.2.2.1, S4.2.2.2) 0 271 _ _ h6) (fun v h' hq hn => ?_)
          obtain ⟨rfl, rfl⟩ := hq
          refine Ev.steps tokX4_clause 1 (P := True) (pc' := if ¬ r8 = 0 then 286 else 284) (lv' := [some (.ref 24), some (.int v1), none]) (st' := []) (h' := mkS x S9) rfl trivial ?_
          refine Ev.ite (fun c10 => ?_) (fun c10 => ?_)
          · rw [if_pos c10] at hm
            exact bpX4_clause_24_286 x S9 v1 _ _ hm
          · rw [if_neg c10] at hm
            refine Ev.steps tokX4_clause 1 (P := True) (pc' := 285) (lv' := [some (.ref 24), some (.int v1), none]) (st' := [.int 0]) (h' := mkS x S9) rfl trivial ?_
            cases hm
            exact Ev.retz tokX4_clause rfl rfl (Or.inl rfl) ⟨rfl, rfl⟩
set_option maxHeartbeats 4000000 in
set_option maxRecDepth 20000 in
theorem bpX4_clause_24_206 (x : XT)  (S : ST) (v1 : Int32) (r : Int32) (S' : ST) (hm : bfX4_clause_24_206 x  S v1 = some (r, S')) : Ev mX4_clause 64 0 0 206 [some (.ref 24), some (.int v1), none] [] (mkS x S) (fun v h => v = some (.int r) ∧ h = mkS x S') := by
    unfold bfX4_clause_24_206 at hm
    obtain ⟨o1, hm⟩ := oblk hm
    refine Ev.steps tokX4_clause 15 (P := vp_in ((4 * v1) + 2) 48 ∧ True) (pc' := if (S.1 24 8) = 0 then 253 else 233) (lv' := [some (.ref 24), some (.int v1), none]) (st' := []) (h' := mkS x (S.1, (u2 S.2.1 28 (((4 * v1) + 2).toNatClampNeg) (S.1 25 1)), S.2.2.1, S.2.2.2)) rfl ⟨inb_ok o1, trivial⟩ ?_
    refine Ev.ite (fun c2 => ?_) (fun c2 => ?_)
    · rw [if_pos c2] at hm
      exact bpX4_clause_24_253 x (S.1, (u2 S.2.1 28 (((4 * v1) + 2).toNatClampNeg) (S.1 25 1)), S.2.2.1, S.2.2.2) v1 _ _ hm
    · rw [if_neg c2] at hm
      refine Ev.steps tokX4_clause 1 (P := True) (pc' := 234) (lv' := [some (.ref 24), some (.int v1), none]) (st' := [.ref 24]) (h' := mkS x (S.1, (u2 S.2.1 28 (((4 * v1) + 2).toNatClampNeg) (S.1 25 1)), S.2.2.1, S.2.2.2)) rfl trivial ?_
      cases h3 : gfX4_here_24 x (S.1, (u2 S.2.1 28 (((4 * v1) + 2).toNatClampNeg) (S.1 25 1)), S.2.2.1, S.2.2.2) with
      | none => rw [h3] at hm; cases hm
      | some q4 =>
        obtain ⟨r5, S6⟩ := q4
        rw [h3] at hm
        dsimp only at hm
        refine ev_callV (N := mX4_here) (d' := 1) (bc := 0) (bs := 0) (bc' := 0) (bs' := 0) (as := []) (rest := []) (a := 24) (ci := 4) (dcd tokX4_clause rfl) okX4_here inX4_here seX4_here lk4_58 rfl (by decide) (Nat.le_of_ble_eq_true rfl) rfl ⟨by decide, rfl⟩ (gpX4_here_24 x (S.1, (u2 S.2.1 28 (((4 * v1) + 2).toNatClampNeg) (S.1 25 1)), S.2.2.1, S.2.2.2) _ _ h3) (fun v h' hq hn => ?_)
        obtain ⟨rfl, rfl⟩ := hq
        refine Ev.steps tokX4_clause 2 (P := True) (pc' := if ¬ r5 = 270 then 253 else 243) (lv' := [some (.ref 24), some (.int v1), none]) (st' := []) (h' := mkS x S6) rfl trivial ?_
        refine Ev.ite (fun c7 => ?_) (fun c7 => ?_)
        · rw [if_pos c7] at hm
          exact bpX4_clause_24_253 x S6 v1 _ _ hm
        · rw [if_neg c7] at hm
          refine Ev.steps tokX4_clause 2 (P := True) (pc' := 245) (lv' := [some (.ref 24), some (.int v1), none]) (st' := [.int v1, .ref 24]) (h' := mkS x S6) rfl trivial ?_
          cases h8 : gfX4_times_24 x S6 v1 with
          | none => rw [h8] at hm; cases hm
          | some q9 =>
            obtain ⟨r10, S11⟩ := q9
            rw [h8] at hm
            dsimp only at hm
            refine ev_callV (N := mX4_times) (d' := 2) (bc := 0) (bs := 0) (bc' := 0) (bs' := 0) (as := [.int v1]) (rest := []) (a := 24) (ci := 4) (dcd tokX4_clause rfl) okX4_times inX4_times seX4_times lk4_127 rfl (by decide) (Nat.le_of_ble_eq_true rfl) rfl ⟨by decide, rfl⟩ (gpX4_times_24 x S6 v1 _ _ h8) (fun v h' hq hn => ?_)
            obtain ⟨rfl, rfl⟩ := hq
            refine Ev.steps tokX4_clause 1 (P := True) (pc' := if ¬ r10 = 0 then 253 else 251) (lv' := [some (.ref 24), some (.int v1), none]) (st' := []) (h' := mkS x S11) rfl trivial ?_
            refine Ev.ite (fun c12 => ?_) (fun c12 => ?_)
            · rw [if_pos c12] at hm
              exact bpX4_clause_24_253 x S11 v1 _ _ hm
            · rw [if_neg c12] at hm
              refine Ev.steps tokX4_clause 1 (P := True) (pc' := 252) (lv' := [some (.ref 24), some (.int v1), none]) (st' := [.int 0]) (h' := mkS x S11) rfl trivial ?_
              cases hm
              exact Ev.retz tokX4_clause rfl rfl (Or.inl rfl) ⟨rfl, rfl⟩
set_option maxHeartbeats 4000000 in
set_option maxRecDepth 20000 in
theorem bpX4_clause_24_204 (x : XT)  (S : ST)  (r : Int32) (S' : ST) (hm : bfX4_clause_24_204 x  S  = some (r, S')) : Ev mX4_clause 64 0 0 204 [none, none, none] [] (mkS x S) (fun v h => v = some (.int r) ∧ h = mkS x S') := by
    unfold bfX4_clause_24_204 at hm
    refine Ev.steps tokX4_clause 1 (P := True) (pc' := 205) (lv' := [none, none, none]) (st' := [.int 0]) (h' := mkS x S) rfl trivial ?_
    cases hm
    exact Ev.retz tokX4_clause rfl rfl (Or.inl rfl) ⟨rfl, rfl⟩
set_option maxHeartbeats 4000000 in
set_option maxRecDepth 20000 in
theorem bpX4_clause_24_179 (x : XT)  (S : ST) (v1 : Int32) (v2 : Int32) (r : Int32) (S' : ST) (hm : bfX4_clause_24_179 x  S v1 v2 = some (r, S')) : Ev mX4_clause 64 0 0 179 [some (.ref 24), some (.int v1), some (.int v2)] [] (mkS x S) (fun v h => v = some (.int r) ∧ h = mkS x S') := by
    unfold bfX4_clause_24_179 at hm
    refine Ev.steps tokX4_clause 3 (P := True) (pc' := if ¬ v2 = 265 then 206 else 186) (lv' := [some (.ref 24), some (.int v1), some (.int v2)]) (st' := []) (h' := mkS x S) rfl trivial ?_
    refine Ev.ite (fun c1 => ?_) (fun c1 => ?_)
    · rw [if_pos c1] at hm
      refine Ev.fgt (lv' := [some (.ref 24), some (.int v1), none]) ⟨rfl, rfl, trivial⟩ ?_
      exact bpX4_clause_24_206 x S v1 _ _ hm
    · rw [if_neg c1] at hm
      refine Ev.steps tokX4_clause 2 (P := True) (pc' := 190) (lv' := [some (.ref 24), some (.int v1), some (.int v2)]) (st' := [.int 269, .ref 24]) (h' := mkS x S) rfl trivial ?_
      cases h2 : gfX4_take_24 x S 269 with
      | none => rw [h2] at hm; cases hm
      | some q3 =>
        obtain ⟨r4, S5⟩ := q3
        rw [h2] at hm
        dsimp only at hm
        refine ev_callV (N := mX4_take) (d' := 2) (bc := 0) (bs := 0) (bc' := 0) (bs' := 0) (as := [.int 269]) (rest := []) (a := 24) (ci := 4) (dcd tokX4_clause rfl) okX4_take inX4_take seX4_take lk4_124 rfl (by decide) (Nat.le_of_ble_eq_true rfl) rfl ⟨by decide, rfl⟩ (gpX4_take_24 x S 269 _ _ h2) (fun v h' hq hn => ?_)
        obtain ⟨rfl, rfl⟩ := hq
        refine Ev.steps tokX4_clause 1 (P := True) (pc' := if r4 = 0 then 204 else 196) (lv' := [some (.ref 24), some (.int v1), some (.int v2)]) (st' := []) (h' := mkS x S5) rfl trivial ?_
        refine Ev.ite (fun c6 => ?_) (fun c6 => ?_)
        · rw [if_pos c6] at hm
          refine Ev.fgt (lv' := [none, none, none]) trivial ?_
          exact bpX4_clause_24_204 x S5 _ _ hm
        · rw [if_neg c6] at hm
          refine Ev.steps tokX4_clause 2 (P := True) (pc' := 198) (lv' := [some (.ref 24), some (.int v1), some (.int v2)]) (st' := [.int 0, .ref 24]) (h' := mkS x S5) rfl trivial ?_
          cases h7 : gfX4_sum_24 x S5 0 with
          | none => rw [h7] at hm; cases hm
          | some q8 =>
            obtain ⟨r9, S10⟩ := q8
            rw [h7] at hm
            dsimp only at hm
            refine ev_callV (N := mX4_sum) (d' := 63) (bc := 0) (bs := 0) (bc' := 0) (bs' := 0) (as := [.int 0]) (rest := []) (a := 24) (ci := 4) (dcd tokX4_clause rfl) okX4_sum inX4_sum seX4_sum lk4_120 rfl (by decide) (Nat.le_of_ble_eq_true rfl) rfl ⟨by decide, rfl⟩ (gpX4_sum_24 x S5 0 _ _ h7) (fun v h' hq hn => ?_)
            obtain ⟨rfl, rfl⟩ := hq
            refine Ev.steps tokX4_clause 1 (P := True) (pc' := if ¬ r9 = 0 then 206 else 204) (lv' := [some (.ref 24), some (.int v1), some (.int v2)]) (st' := []) (h' := mkS x S10) rfl trivial ?_
            refine Ev.ite (fun c11 => ?_) (fun c11 => ?_)
            · rw [if_pos c11] at hm
              refine Ev.fgt (lv' := [some (.ref 24), some (.int v1), none]) ⟨rfl, rfl, trivial⟩ ?_
              exact bpX4_clause_24_206 x S10 v1 _ _ hm
            · rw [if_neg c11] at hm
              refine Ev.fgt (lv' := [none, none, none]) trivial ?_
              exact bpX4_clause_24_204 x S10 _ _ hm
set_option maxHeartbeats 4000000 in
set_option maxRecDepth 20000 in
theorem bpX4_clause_24_134 (x : XT)  (S : ST) (v1 : Int32) (v2 : Int32) (r : Int32) (S' : ST) (hm : bfX4_clause_24_134 x  S v1 v2 = some (r, S')) : Ev mX4_clause 64 0 0 134 [some (.ref 24), some (.int v1), some (.int v2)] [] (mkS x S) (fun v h => v = some (.int r) ∧ h = mkS x S') := by
    unfold bfX4_clause_24_134 at hm
    obtain ⟨o1, hm⟩ := oblk hm
    refine Ev.steps tokX4_clause 15 (P := vp_in ((4 * v1) + 1) 48 ∧ True) (pc' := if ¬ v2 = 263 then 179 else 161) (lv' := [some (.ref 24), some (.int v1), some (.int v2)]) (st' := []) (h' := mkS x (S.1, (u2 S.2.1 28 (((4 * v1) + 1).toNatClampNeg) (S.1 25 1)), S.2.2.1, S.2.2.2)) rfl ⟨inb_ok o1, trivial⟩ ?_
    refine Ev.ite (fun c2 => ?_) (fun c2 => ?_)
    · rw [if_pos c2] at hm
      exact bpX4_clause_24_179 x (S.1, (u2 S.2.1 28 (((4 * v1) + 1).toNatClampNeg) (S.1 25 1)), S.2.2.1, S.2.2.2) v1 v2 _ _ hm
    · rw [if_neg c2] at hm
      refine Ev.steps tokX4_clause 2 (P := True) (pc' := 165) (lv' := [some (.ref 24), some (.int v1), some (.int v2)]) (st' := [.int 268, .ref 24]) (h' := mkS x (S.1, (u2 S.2.1 28 (((4 * v1) + 1).toNatClampNeg) (S.1 25 1)), S.2.2.1, S.2.2.2)) rfl trivial ?_
      cases h3 : gfX4_take_24 x (S.1, (u2 S.2.1 28 (((4 * v1) + 1).toNatClampNeg) (S.1 25 1)), S.2.2.1, S.2.2.2) 268 with
      | none => rw [h3] at hm; cases hm
      | some q4 =>
        obtain ⟨r5, S6⟩ := q4
        rw [h3] at hm
        dsimp only at hm
        refine ev_callV (N := mX4_take) (d' := 2) (bc := 0) (bs := 0) (bc' := 0) (bs' := 0) (as := [.int 268]) (rest := []) (a := 24) (ci := 4) (dcd tokX4_clause rfl) okX4_take inX4_take seX4_take lk4_124 rfl (by decide) (Nat.le_of_ble_eq_true rfl) rfl ⟨by decide, rfl⟩ (gpX4_take_24 x (S.1, (u2 S.2.1 28 (((4 * v1) + 1).toNatClampNeg) (S.1 25 1)), S.2.2.1, S.2.2.2) 268 _ _ h3) (fun v h' hq hn => ?_)
        obtain ⟨rfl, rfl⟩ := hq
        refine Ev.steps tokX4_clause 1 (P := True) (pc' := if r5 = 0 then 204 else 171) (lv' := [some (.ref 24), some (.int v1), some (.int v2)]) (st' := []) (h' := mkS x S6) rfl trivial ?_
        refine Ev.ite (fun c7 => ?_) (fun c7 => ?_)
        · rw [if_pos c7] at hm
          refine Ev.fgt (lv' := [none, none, none]) trivial ?_
          exact bpX4_clause_24_204 x S6 _ _ hm
        · rw [if_neg c7] at hm
          refine Ev.steps tokX4_clause 2 (P := True) (pc' := 173) (lv' := [some (.ref 24), some (.int v1), some (.int v2)]) (st' := [.int 0, .ref 24]) (h' := mkS x S6) rfl trivial ?_
          cases h8 : gfX4_sum_24 x S6 0 with
          | none => rw [h8] at hm; cases hm
          | some q9 =>
            obtain ⟨r10, S11⟩ := q9
            rw [h8] at hm
            dsimp only at hm
            refine ev_callV (N := mX4_sum) (d' := 63) (bc := 0) (bs := 0) (bc' := 0) (bs' := 0) (as := [.int 0]) (rest := []) (a := 24) (ci := 4) (dcd tokX4_clause rfl) okX4_sum inX4_sum seX4_sum lk4_120 rfl (by decide) (Nat.le_of_ble_eq_true rfl) rfl ⟨by decide, rfl⟩ (gpX4_sum_24 x S6 0 _ _ h8) (fun v h' hq hn => ?_)
            obtain ⟨rfl, rfl⟩ := hq
            refine Ev.steps tokX4_clause 1 (P := True) (pc' := if r10 = 0 then 204 else 179) (lv' := [some (.ref 24), some (.int v1), some (.int v2)]) (st' := []) (h' := mkS x S11) rfl trivial ?_
            refine Ev.ite (fun c12 => ?_) (fun c12 => ?_)
            · rw [if_pos c12] at hm
              refine Ev.fgt (lv' := [none, none, none]) trivial ?_
              exact bpX4_clause_24_204 x S11 _ _ hm
            · rw [if_neg c12] at hm
              exact bpX4_clause_24_179 x S11 v1 v2 _ _ hm
set_option maxHeartbeats 4000000 in
set_option maxRecDepth 20000 in
theorem bpX4_clause_24_62 (x : XT)  (S : ST) (v1 : Int32) (v2 : Int32) (r : Int32) (S' : ST) (hm : bfX4_clause_24_62 x  S v1 v2 = some (r, S')) : Ev mX4_clause 64 0 0 62 [some (.ref 24), some (.int v1), some (.int v2)] [] (mkS x S) (fun v h => v = some (.int r) ∧ h = mkS x S') := by
    unfold bfX4_clause_24_62 at hm
    obtain ⟨o1, hm⟩ := oblk hm
    obtain ⟨o2, hm⟩ := oblk hm
    obtain ⟨o3, hm⟩ := oblk hm
    refine Ev.steps tokX4_clause 31 (P := vp_in v1 12 ∧ vp_in v1 12 ∧ vp_in (4 * v1) 48 ∧ True) (pc' := if v2 = 262 then 134 else 117) (lv' := [some (.ref 24), some (.int v1), some (.int v2)]) (st' := []) (h' := mkS x ((u2 S.1 24 6 ((S.1 24 6) + 1)), (u2 (u2 (u2 S.2.1 26 v1.toNatClampNeg v2) 27 v1.toNatClampNeg 1) 28 ((4 * v1).toNatClampNeg) (S.1 25 1)), S.2.2.1, S.2.2.2)) rfl ⟨inb_ok o1, inb_ok o2, inb_ok o3, trivial⟩ ?_
    refine Ev.ite (fun c4 => ?_) (fun c4 => ?_)
    · rw [if_pos c4] at hm
      exact bpX4_clause_24_134 x ((u2 S.1 24 6 ((S.1 24 6) + 1)), (u2 (u2 (u2 S.2.1 26 v1.toNatClampNeg v2) 27 v1.toNatClampNeg 1) 28 ((4 * v1).toNatClampNeg) (S.1 25 1)), S.2.2.1, S.2.2.2) v1 v2 _ _ hm
    · rw [if_neg c4] at hm
      refine Ev.steps tokX4_clause 3 (P := True) (pc' := if v2 = 266 then 134 else 124) (lv' := [some (.ref 24), some (.int v1), some (.int v2)]) (st' := []) (h' := mkS x ((u2 S.1 24 6 ((S.1 24 6) + 1)), (u2 (u2 (u2 S.2.1 26 v1.toNatClampNeg v2) 27 v1.toNatClampNeg 1) 28 ((4 * v1).toNatClampNeg) (S.1 25 1)), S.2.2.1, S.2.2.2)) rfl trivial ?_
      refine Ev.ite (fun c5 => ?_) (fun c5 => ?_)
      · rw [if_pos c5] at hm
        exact bpX4_clause_24_134 x ((u2 S.1 24 6 ((S.1 24 6) + 1)), (u2 (u2 (u2 S.2.1 26 v1.toNatClampNeg v2) 27 v1.toNatClampNeg 1) 28 ((4 * v1).toNatClampNeg) (S.1 25 1)), S.2.2.1, S.2.2.2) v1 v2 _ _ hm
      · rw [if_neg c5] at hm
        refine Ev.steps tokX4_clause 2 (P := True) (pc' := 126) (lv' := [some (.ref 24), some (.int v1), some (.int v2)]) (st' := [.int 0, .ref 24]) (h' := mkS x ((u2 S.1 24 6 ((S.1 24 6) + 1)), (u2 (u2 (u2 S.2.1 26 v1.toNatClampNeg v2) 27 v1.toNatClampNeg 1) 28 ((4 * v1).toNatClampNeg) (S.1 25 1)), S.2.2.1, S.2.2.2)) rfl trivial ?_
        cases h6 : gfX4_sum_24 x ((u2 S.1 24 6 ((S.1 24 6) + 1)), (u2 (u2 (u2 S.2.1 26 v1.toNatClampNeg v2) 27 v1.toNatClampNeg 1) 28 ((4 * v1).toNatClampNeg) (S.1 25 1)), S.2.2.1, S.2.2.2) 0 with
        | none => rw [h6] at hm; cases hm
        | some q7 =>
          obtain ⟨r8, S9⟩ := q7
          rw [h6] at hm
          dsimp only at hm
          refine ev_callV (N := mX4_sum) (d' := 63) (bc := 0) (bs := 0) (bc' := 0) (bs' := 0) (as := [.int 0]) (rest := []) (a := 24) (ci := 4) (dcd tokX4_clause rfl) okX4_sum inX4_sum seX4_sum lk4_120 rfl (by decide) (Nat.le_of_ble_eq_true rfl) rfl ⟨by decide, rfl⟩ (gpX4_sum_24 x ((u2 S.1 24 6 ((S.1 24 6) + 1)), (u2 (u2 (u2 S.2.1 26 v1.toNatClampNeg v2) 27 v1.toNatClampNeg 1) 28 ((4 * v1).toNatClampNeg) (S.1 25 1)), S.2.2.1, S.2.2.2) 0 _ _ h6) (fun v h' hq hn => ?_)
          obtain ⟨rfl, rfl⟩ := hq
          refine Ev.steps tokX4_clause 1 (P := True) (pc' := if ¬ r8 = 0 then 134 else 132) (lv' := [some (.ref 24), some (.int v1), some (.int v2)]) (st' := []) (h' := mkS x S9) rfl trivial ?_
          refine Ev.ite (fun c10 => ?_) (fun c10 => ?_)
          · rw [if_pos c10] at hm
            exact bpX4_clause_24_134 x S9 v1 v2 _ _ hm
          · rw [if_neg c10] at hm
            refine Ev.steps tokX4_clause 1 (P := True) (pc' := 133) (lv' := [some (.ref 24), some (.int v1), some (.int v2)]) (st' := [.int 0]) (h' := mkS x S9) rfl trivial ?_
            cases hm
            exact Ev.retz tokX4_clause rfl rfl (Or.inl rfl) ⟨rfl, rfl⟩
set_option maxHeartbeats 4000000 in
set_option maxRecDepth 20000 in
theorem bpX4_clause_24_0 (x : XT)  (S : ST)  (r : Int32) (S' : ST) (hm : bfX4_clause_24_0 x  S  = some (r, S')) : Ev mX4_clause 64 0 0 0 [some (.ref 24), none, none] [] (mkS x S) (fun v h => v = some (.int r) ∧ h = mkS x S') := by
    unfold bfX4_clause_24_0 at hm
    refine Ev.steps tokX4_clause 5 (P := True) (pc' := 9) (lv' := [some (.ref 24), some (.int (S.1 25 0)), none]) (st' := [.ref 24]) (h' := mkS x S) rfl trivial ?_
    cases h1 : gfX4_here_24 x S with
    | none => rw [h1] at hm; cases hm
    | some q2 =>
      obtain ⟨r3, S4⟩ := q2
      rw [h1] at hm
      dsimp only at hm
      refine ev_callV (N := mX4_here) (d' := 1) (bc := 0) (bs := 0) (bc' := 0) (bs' := 0) (as := []) (rest := []) (a := 24) (ci := 4) (dcd tokX4_clause rfl) okX4_here inX4_here seX4_here lk4_58 rfl (by decide) (Nat.le_of_ble_eq_true rfl) rfl ⟨by decide, rfl⟩ (gpX4_here_24 x S _ _ h1) (fun v h' hq hn => ?_)
      obtain ⟨rfl, rfl⟩ := hq
      refine Ev.steps tokX4_clause 4 (P := True) (pc' := if 12 ≤ (S.1 25 0) then 57 else 19) (lv' := [some (.ref 24), some (.int (S.1 25 0)), some (.int r3)]) (st' := []) (h' := mkS x S4) rfl trivial ?_
      refine Ev.ite (fun c5 => ?_) (fun c5 => ?_)
      · rw [if_pos c5] at hm
        refine Ev.fgt (lv' := [some (.ref 24), none, none]) ⟨rfl, trivial⟩ ?_
        exact bpX4_clause_24_57 x S4 _ _ hm
      · rw [if_neg c5] at hm
        refine Ev.steps tokX4_clause 3 (P := True) (pc' := if (S4.1 24 8) = 0 then 43 else 26) (lv' := [some (.ref 24), some (.int (S.1 25 0)), some (.int r3)]) (st' := []) (h' := mkS x S4) rfl trivial ?_
        refine Ev.ite (fun c6 => ?_) (fun c6 => ?_)
        · rw [if_pos c6] at hm
          refine Ev.steps tokX4_clause 3 (P := True) (pc' := if r3 < 260 then 57 else 50) (lv' := [some (.ref 24), some (.int (S.1 25 0)), some (.int r3)]) (st' := []) (h' := mkS x S4) rfl trivial ?_
          refine Ev.ite (fun c7 => ?_) (fun c7 => ?_)
          · rw [if_pos c7] at hm
            refine Ev.fgt (lv' := [some (.ref 24), none, none]) ⟨rfl, trivial⟩ ?_
            exact bpX4_clause_24_57 x S4 _ _ hm
          · rw [if_neg c7] at hm
            refine Ev.steps tokX4_clause 3 (P := True) (pc' := if r3 ≤ 262 then 62 else 57) (lv' := [some (.ref 24), some (.int (S.1 25 0)), some (.int r3)]) (st' := []) (h' := mkS x S4) rfl trivial ?_
            refine Ev.ite (fun c8 => ?_) (fun c8 => ?_)
            · rw [if_pos c8] at hm
              exact bpX4_clause_24_62 x S4 (S.1 25 0) r3 _ _ hm
            · rw [if_neg c8] at hm
              refine Ev.fgt (lv' := [some (.ref 24), none, none]) ⟨rfl, trivial⟩ ?_
              exact bpX4_clause_24_57 x S4 _ _ hm
        · rw [if_neg c6] at hm
          refine Ev.steps tokX4_clause 3 (P := True) (pc' := if r3 < 263 then 57 else 33) (lv' := [some (.ref 24), some (.int (S.1 25 0)), some (.int r3)]) (st' := []) (h' := mkS x S4) rfl trivial ?_
          refine Ev.ite (fun c9 => ?_) (fun c9 => ?_)
          · rw [if_pos c9] at hm
            refine Ev.fgt (lv' := [some (.ref 24), none, none]) ⟨rfl, trivial⟩ ?_
            exact bpX4_clause_24_57 x S4 _ _ hm
          · rw [if_neg c9] at hm
            refine Ev.steps tokX4_clause 3 (P := True) (pc' := if r3 ≤ 266 then 62 else 40) (lv' := [some (.ref 24), some (.int (S.1 25 0)), some (.int r3)]) (st' := []) (h' := mkS x S4) rfl trivial ?_
            refine Ev.ite (fun c10 => ?_) (fun c10 => ?_)
            · rw [if_pos c10] at hm
              exact bpX4_clause_24_62 x S4 (S.1 25 0) r3 _ _ hm
            · rw [if_neg c10] at hm
              refine Ev.steps tokX4_clause 1 (P := True) (pc' := 57) (lv' := [some (.ref 24), some (.int (S.1 25 0)), some (.int r3)]) (st' := []) (h' := mkS x S4) rfl trivial ?_
              refine Ev.fgt (lv' := [some (.ref 24), none, none]) ⟨rfl, trivial⟩ ?_
              exact bpX4_clause_24_57 x S4 _ _ hm
theorem gpX4_clause_24 (x : XT) (S : ST)  (r : Int32) (S' : ST) (hm : gfX4_clause_24 x S  = some (r, S')) : Ct mX4_clause 64 0 0 [.ref 24] (mkS x S) (fun v h => v = some (.int r) ∧ h = mkS x S') :=
  Ct.of (lv := [some (.ref 24), none, none]) rfl rfl rfl (show (_ : Nat) ≤ _ from Nat.le_of_ble_eq_true rfl) (fun G => rfl) (bpX4_clause_24_0 x S  r S' hm)
set_option maxHeartbeats 4000000 in
set_option maxRecDepth 20000 in
theorem bpX4_sortOf_33 (x : XT)  (S : ST) (t0 : Int32) (r : Int32) (S' : ST) (hm : bfX4_sortOf_33 x  S t0 = some (r, S')) : Ev mX4_sortOf 1 0 0 33 [none] [.int t0] (mkS x S) (fun v h => v = some (.int r) ∧ h = mkS x S') := by
    unfold bfX4_sortOf_33 at hm
    cases hm
    exact Ev.reti tokX4_sortOf rfl rfl ⟨rfl, rfl⟩
set_option maxHeartbeats 4000000 in
set_option maxRecDepth 20000 in
theorem bpX4_sortOf_32 (x : XT)  (S : ST)  (r : Int32) (S' : ST) (hm : bfX4_sortOf_32 x  S  = some (r, S')) : Ev mX4_sortOf 1 0 0 32 [none] [] (mkS x S) (fun v h => v = some (.int r) ∧ h = mkS x S') := by
    unfold bfX4_sortOf_32 at hm
    refine Ev.steps tokX4_sortOf 1 (P := True) (pc' := 33) (lv' := [none]) (st' := [.int 3]) (h' := mkS x S) rfl trivial ?_
    exact bpX4_sortOf_33 x S 3 _ _ hm
set_option maxHeartbeats 4000000 in
set_option maxRecDepth 20000 in
theorem bpX4_sortOf_16 (x : XT)  (S : ST) (v0 : Int32) (r : Int32) (S' : ST) (hm : bfX4_sortOf_16 x  S v0 = some (r, S')) : Ev mX4_sortOf 1 0 0 16 [some (.int v0)] [] (mkS x S) (fun v h => v = some (.int r) ∧ h = mkS x S') := by
    unfold bfX4_sortOf_16 at hm
    refine Ev.steps tokX4_sortOf 3 (P := True) (pc' := if v0 < 48 then 32 else 22) (lv' := [some (.int v0)]) (st' := []) (h' := mkS x S) rfl trivial ?_
    refine Ev.ite (fun c1 => ?_) (fun c1 => ?_)
    · rw [if_pos c1] at hm
      refine Ev.fgt (lv' := [none]) trivial ?_
      exact bpX4_sortOf_32 x S _ _ hm
    · rw [if_neg c1] at hm
      refine Ev.steps tokX4_sortOf 3 (P := True) (pc' := if 57 < v0 then 32 else 28) (lv' := [some (.int v0)]) (st' := []) (h' := mkS x S) rfl trivial ?_
      refine Ev.ite (fun c2 => ?_) (fun c2 => ?_)
      · rw [if_pos c2] at hm
        refine Ev.fgt (lv' := [none]) trivial ?_
        exact bpX4_sortOf_32 x S _ _ hm
      · rw [if_neg c2] at hm
        refine Ev.steps tokX4_sortOf 2 (P := True) (pc' := 33) (lv' := [some (.int v0)]) (st' := [.int 2]) (h' := mkS x S) rfl trivial ?_
        refine Ev.fgt (lv' := [none]) trivial ?_
        exact bpX4_sortOf_33 x S 2 _ _ hm
set_option maxHeartbeats 4000000 in
set_option maxRecDepth 20000 in
theorem bpX4_sortOf_0 (x : XT)  (S : ST) (p0 : Int32) (r : Int32) (S' : ST) (hm : bfX4_sortOf_0 x  S p0 = some (r, S')) : Ev mX4_sortOf 1 0 0 0 [some (.int p0)] [] (mkS x S) (fun v h => v = some (.int r) ∧ h = mkS x S') := by
    unfold bfX4_sortOf_0 at hm
    refine Ev.steps tokX4_sortOf 3 (P := True) (pc' := if p0 < 97 then 16 else 6) (lv' := [some (.int p0)]) (st' := []) (h' := mkS x S) rfl trivial ?_
    refine Ev.ite (fun c1 => ?_) (fun c1 => ?_)
    · rw [if_pos c1] at hm
      exact bpX4_sortOf_16 x S p0 _ _ hm
    · rw [if_neg c1] at hm
      refine Ev.steps tokX4_sortOf 3 (P := True) (pc' := if 122 < p0 then 16 else 12) (lv' := [some (.int p0)]) (st' := []) (h' := mkS x S) rfl trivial ?_
      refine Ev.ite (fun c2 => ?_) (fun c2 => ?_)
      · rw [if_pos c2] at hm
        exact bpX4_sortOf_16 x S p0 _ _ hm
      · rw [if_neg c2] at hm
        refine Ev.steps tokX4_sortOf 2 (P := True) (pc' := 33) (lv' := [some (.int p0)]) (st' := [.int 1]) (h' := mkS x S) rfl trivial ?_
        refine Ev.fgt (lv' := [none]) trivial ?_
        exact bpX4_sortOf_33 x S 1 _ _ hm
theorem gpX4_sortOf (x : XT) (S : ST) (p0 : Int32) (r : Int32) (S' : ST) (hm : gfX4_sortOf x S p0 = some (r, S')) : Ct mX4_sortOf 1 0 0 [.int p0] (mkS x S) (fun v h => v = some (.int r) ∧ h = mkS x S') :=
  Ct.of (lv := [some (.int p0)]) rfl rfl rfl (show (_ : Nat) ≤ _ from Nat.le_of_ble_eq_true rfl) (fun G => rfl) (bpX4_sortOf_0 x S p0 r S' hm)
set_option maxHeartbeats 4000000 in
set_option maxRecDepth 20000 in
theorem bpX4_behindToken_24_18_49 (x : XT)  (S : ST) (v4 : Int32) (r : Int32) (S' : ST) (hm : bfX4_behindToken_24_18_49 x  S v4 = some (r, S')) : Ev mX4_behindToken 2 0 0 49 [none, none, none, none, some (.int v4)] [] (mkS x S) (fun v h => v = some (.int r) ∧ h = mkS x S') := by
    unfold bfX4_behindToken_24_18_49 at hm
    refine Ev.steps tokX4_behindToken 1 (P := True) (pc' := 51) (lv' := [none, none, none, none, some (.int v4)]) (st' := [.int v4]) (h' := mkS x S) rfl trivial ?_
    cases hm
    exact Ev.reti tokX4_behindToken rfl rfl ⟨rfl, rfl⟩
set_option maxHeartbeats 4000000 in
set_option maxRecDepth 20000 in
theorem bpX4_behindToken_24_18_15 (x : XT) (k15 : ST → Int32 → Int32 → Option (Int32 × ST)) (hk15 : ∀ (S : ST) (v3 : Int32) (v4 : Int32) (r : Int32) (S' : ST), k15 S v3 v4 = some (r, S') → Ev mX4_behindToken 2 0 0 15 [none, some (.ref 18), none, some (.int v3), some (.int v4)] [] (mkS x S) (fun v h => v = some (.int r) ∧ h = mkS x S')) (S : ST) (v3 : Int32) (v4 : Int32) (r : Int32) (S' : ST) (hm : bfX4_behindToken_24_18_15 x k15 S v3 v4 = some (r, S')) : Ev mX4_behindToken 2 0 0 15 [none, some (.ref 18), none, some (.int v3), some (.int v4)] [] (mkS x S) (fun v h => v = some (.int r) ∧ h = mkS x S') := by
    unfold bfX4_behindToken_24_18_15 at hm
    refine Ev.steps tokX4_behindToken 3 (P := True) (pc' := if v3 = 3 then 49 else 20) (lv' := [none, some (.ref 18), none, some (.int v3), some (.int v4)]) (st' := []) (h' := mkS x S) rfl trivial ?_
    refine Ev.ite (fun c1 => ?_) (fun c1 => ?_)
    · rw [if_pos c1] at hm
      refine Ev.fgt (lv' := [none, none, none, none, some (.int v4)]) ⟨rfl, trivial⟩ ?_
      exact bpX4_behindToken_24_18_49 x S v4 _ _ hm
    · rw [if_neg c1] at hm
      refine Ev.steps tokX4_behindToken 4 (P := True) (pc' := if (S.1 18 1) ≤ v4 then 49 else 29) (lv' := [none, some (.ref 18), none, some (.int v3), some (.int v4)]) (st' := []) (h' := mkS x S) rfl trivial ?_
      refine Ev.ite (fun c2 => ?_) (fun c2 => ?_)
      · rw [if_pos c2] at hm
        refine Ev.fgt (lv' := [none, none, none, none, some (.int v4)]) ⟨rfl, trivial⟩ ?_
        exact bpX4_behindToken_24_18_49 x S v4 _ _ hm
      · rw [if_neg c2] at hm
        obtain ⟨o3, hm⟩ := oblk hm
        refine Ev.steps tokX4_behindToken 4 (P := vp_in v4 400 ∧ True) (pc' := 36) (lv' := [none, some (.ref 18), none, some (.int v3), some (.int v4)]) (st' := [.int (S.2.1 19 v4.toNatClampNeg)]) (h' := mkS x S) rfl ⟨inb_ok o3, trivial⟩ ?_
        cases h4 : gfX4_sortOf x S (S.2.1 19 v4.toNatClampNeg) with
        | none => rw [h4] at hm; cases hm
        | some q5 =>
          obtain ⟨r6, S7⟩ := q5
          rw [h4] at hm
          dsimp only at hm
          refine ev_callS (N := mX4_sortOf) (d' := 1) (bc := 0) (bs := 0) (bc' := 0) (bs' := 0) (as := [.int (S.2.1 19 v4.toNatClampNeg)]) (rest := []) (dcd tokX4_behindToken rfl) okX4_sortOf inX4_sortOf lk4_81 rfl (by decide) (Nat.le_of_ble_eq_true rfl) (gpX4_sortOf x S (S.2.1 19 v4.toNatClampNeg) _ _ h4) (fun v h' hq hn => ?_)
          obtain ⟨rfl, rfl⟩ := hq
          refine Ev.steps tokX4_behindToken 2 (P := True) (pc' := if ¬ r6 = v3 then 49 else 43) (lv' := [none, some (.ref 18), none, some (.int v3), some (.int v4)]) (st' := []) (h' := mkS x S7) rfl trivial ?_
          refine Ev.ite (fun c8 => ?_) (fun c8 => ?_)
          · rw [if_pos c8] at hm
            refine Ev.fgt (lv' := [none, none, none, none, some (.int v4)]) ⟨rfl, trivial⟩ ?_
            exact bpX4_behindToken_24_18_49 x S7 v4 _ _ hm
          · rw [if_neg c8] at hm
            refine Ev.steps tokX4_behindToken 2 (P := True) (pc' := 15) (lv' := [none, some (.ref 18), none, some (.int v3), some (.int (v4 + 1))]) (st' := []) (h' := mkS x S7) rfl trivial ?_
            exact hk15 S7 v3 (v4 + 1) _ _ hm
theorem lpX4_behindToken_24_18_15 (x : XT)  : ∀ (n : Nat) (S : ST) (v3 : Int32) (v4 : Int32) (r : Int32) (S' : ST), lfX4_behindToken_24_18_15 x  n S v3 v4 = some (r, S') → Ev mX4_behindToken 2 0 0 15 [none, some (.ref 18), none, some (.int v3), some (.int v4)] [] (mkS x S) (fun v h => v = some (.int r) ∧ h = mkS x S')
  | 0, _, _, _, _, _, hm => by cases hm
  | n + 1, S, v3, v4, r, S', hm => bpX4_behindToken_24_18_15 x (lfX4_behindToken_24_18_15 x  n) (lpX4_behindToken_24_18_15 x  n) S v3 v4 r S' hm
set_option maxHeartbeats 4000000 in
set_option maxRecDepth 20000 in
theorem bpX4_behindToken_24_18_0 (x : XT)  (S : ST) (p2 : Int32) (r : Int32) (S' : ST) (hm : bfX4_behindToken_24_18_0 x  S p2 = some (r, S')) : Ev mX4_behindToken 2 0 0 0 [some (.ref 24), some (.ref 18), some (.int p2), none, none] [] (mkS x S) (fun v h => v = some (.int r) ∧ h = mkS x S') := by
    unfold bfX4_behindToken_24_18_0 at hm
    obtain ⟨o1, hm⟩ := oblk hm
    refine Ev.steps tokX4_behindToken 4 (P := vp_in p2 400 ∧ True) (pc' := 6) (lv' := [some (.ref 24), some (.ref 18), some (.int p2), none, none]) (st' := [.int (S.2.1 19 p2.toNatClampNeg)]) (h' := mkS x S) rfl ⟨inb_ok o1, trivial⟩ ?_
    cases h2 : gfX4_sortOf x S (S.2.1 19 p2.toNatClampNeg) with
    | none => rw [h2] at hm; cases hm
    | some q3 =>
      obtain ⟨r4, S5⟩ := q3
      rw [h2] at hm
      dsimp only at hm
      refine ev_callS (N := mX4_sortOf) (d' := 1) (bc := 0) (bs := 0) (bc' := 0) (bs' := 0) (as := [.int (S.2.1 19 p2.toNatClampNeg)]) (rest := []) (dcd tokX4_behindToken rfl) okX4_sortOf inX4_sortOf lk4_81 rfl (by decide) (Nat.le_of_ble_eq_true rfl) (gpX4_sortOf x S (S.2.1 19 p2.toNatClampNeg) _ _ h2) (fun v h' hq hn => ?_)
      obtain ⟨rfl, rfl⟩ := hq
      refine Ev.steps tokX4_behindToken 5 (P := True) (pc' := 15) (lv' := [some (.ref 24), some (.ref 18), some (.int p2), some (.int r4), some (.int (p2 + 1))]) (st' := []) (h' := mkS x S5) rfl trivial ?_
      refine Ev.fgt (lv' := [none, some (.ref 18), none, some (.int r4), some (.int (p2 + 1))]) ⟨rfl, rfl, rfl, trivial⟩ ?_
      exact lpX4_behindToken_24_18_15 x  20000 S5 r4 (p2 + 1) _ _ hm
theorem gpX4_behindToken_24_18 (x : XT) (S : ST) (p2 : Int32) (r : Int32) (S' : ST) (hm : gfX4_behindToken_24_18 x S p2 = some (r, S')) : Ct mX4_behindToken 2 0 0 [.ref 24, .ref 18, .int p2] (mkS x S) (fun v h => v = some (.int r) ∧ h = mkS x S') :=
  Ct.of (lv := [some (.ref 24), some (.ref 18), some (.int p2), none, none]) rfl rfl rfl (show (_ : Nat) ≤ _ from Nat.le_of_ble_eq_true rfl) (fun G => rfl) (bpX4_behindToken_24_18_0 x S p2 r S' hm)
set_option maxHeartbeats 4000000 in
set_option maxRecDepth 20000 in
theorem bpX4_wordOf_18_97 (x : XT) (k13 : ST → Int32 → Int32 → Int32 → Int32 → Int32 → Int32 → Option (Int32 × ST)) (hk13 : ∀ (S : ST) (v1 : Int32) (v2 : Int32) (v3 : Int32) (v4 : Int32) (v5 : Int32) (v6 : Int32) (r : Int32) (S' : ST), k13 S v1 v2 v3 v4 v5 v6 = some (r, S') → Ev mX4_wordOf 5 0 0 13 [some (.ref 18), some (.int v1), some (.int v2), some (.int v3), some (.int v4), some (.int v5), some (.int v6), none] [] (mkS x S) (fun v h => v = some (.int r) ∧ h = mkS x S')) (S : ST) (v1 : Int32) (v2 : Int32) (v3 : Int32) (v4 : Int32) (v5 : Int32) (v6 : Int32) (r : Int32) (S' : ST) (hm : bfX4_wordOf_18_97 x k13 S v1 v2 v3 v4 v5 v6 = some (r, S')) : Ev mX4_wordOf 5 0 0 97 [some (.ref 18), some (.int v1), some (.int v2), some (.int v3), some (.int v4), some (.int v5), some (.int v6), none] [] (mkS x S) (fun v h => v = some (.int r) ∧ h = mkS x S') := by
    unfold bfX4_wordOf_18_97 at hm
    refine Ev.steps tokX4_wordOf 2 (P := True) (pc' := 13) (lv' := [some (.ref 18), some (.int v1), some (.int v2), some (.int v3), some (.int v4), some (.int v5), some (.int (v6 + 1)), none]) (st' := []) (h' := mkS x S) rfl trivial ?_
    exact hk13 S v1 v2 v3 v4 v5 (v6 + 1) _ _ hm
set_option maxHeartbeats 4000000 in
set_option maxRecDepth 20000 in
theorem bpX4_wordOf_18_92 (x : XT) (k13 : ST → Int32 → Int32 → Int32 → Int32 → Int32 → Int32 → Option (Int32 × ST)) (hk13 : ∀ (S : ST) (v1 : Int32) (v2 : Int32) (v3 : Int32) (v4 : Int32) (v5 : Int32) (v6 : Int32) (r : Int32) (S' : ST), k13 S v1 v2 v3 v4 v5 v6 = some (r, S') → Ev mX4_wordOf 5 0 0 13 [some (.ref 18), some (.int v1), some (.int v2), some (.int v3), some (.int v4), some (.int v5), some (.int v6), none] [] (mkS x S) (fun v h => v = some (.int r) ∧ h = mkS x S')) (S : ST) (v1 : Int32) (v2 : Int32) (v3 : Int32) (v4 : Int32) (v6 : Int32) (t0 : Int32) (r : Int32) (S' : ST) (hm : bfX4_wordOf_18_92 x k13 S v1 v2 v3 v4 v6 t0 = some (r, S')) : Ev mX4_wordOf 5 0 0 92 [some (.ref 18), some (.int v1), some (.int v2), some (.int v3), some (.int v4), none, some (.int v6), none] [.int t0] (mkS x S) (fun v h => v = some (.int r) ∧ h = mkS x S') := by
    unfold bfX4_wordOf_18_92 at hm
    refine Ev.steps tokX4_wordOf 2 (P := True) (pc' := 97) (lv' := [some (.ref 18), some (.int v1), some (.int v2), some (.int v3), some (.int (v4 + 1)), some (.int t0), some (.int v6), none]) (st' := []) (h' := mkS x S) rfl trivial ?_
    exact bpX4_wordOf_18_97 x k13 hk13 S v1 v2 v3 (v4 + 1) t0 v6 _ _ hm
set_option maxHeartbeats 4000000 in
set_option maxRecDepth 20000 in
theorem bpX4_wordOf_18_91 (x : XT) (k13 : ST → Int32 → Int32 → Int32 → Int32 → Int32 → Int32 → Option (Int32 × ST)) (hk13 : ∀ (S : ST) (v1 : Int32) (v2 : Int32) (v3 : Int32) (v4 : Int32) (v5 : Int32) (v6 : Int32) (r : Int32) (S' : ST), k13 S v1 v2 v3 v4 v5 v6 = some (r, S') → Ev mX4_wordOf 5 0 0 13 [some (.ref 18), some (.int v1), some (.int v2), some (.int v3), some (.int v4), some (.int v5), some (.int v6), none] [] (mkS x S) (fun v h => v = some (.int r) ∧ h = mkS x S')) (S : ST) (v1 : Int32) (v2 : Int32) (v3 : Int32) (v4 : Int32) (v6 : Int32) (r : Int32) (S' : ST) (hm : bfX4_wordOf_18_91 x k13 S v1 v2 v3 v4 v6 = some (r, S')) : Ev mX4_wordOf 5 0 0 91 [some (.ref 18), some (.int v1), some (.int v2), some (.int v3), some (.int v4), none, some (.int v6), none] [] (mkS x S) (fun v h => v = some (.int r) ∧ h = mkS x S') := by
    unfold bfX4_wordOf_18_91 at hm
    refine Ev.steps tokX4_wordOf 1 (P := True) (pc' := 92) (lv' := [some (.ref 18), some (.int v1), some (.int v2), some (.int v3), some (.int v4), none, some (.int v6), none]) (st' := [.int 0]) (h' := mkS x S) rfl trivial ?_
    exact bpX4_wordOf_18_92 x k13 hk13 S v1 v2 v3 v4 v6 0 _ _ hm
set_option maxHeartbeats 4000000 in
set_option maxRecDepth 20000 in
theorem bpX4_wordOf_18_52 (x : XT) (k13 : ST → Int32 → Int32 → Int32 → Int32 → Int32 → Int32 → Option (Int32 × ST)) (hk13 : ∀ (S : ST) (v1 : Int32) (v2 : Int32) (v3 : Int32) (v4 : Int32) (v5 : Int32) (v6 : Int32) (r : Int32) (S' : ST), k13 S v1 v2 v3 v4 v5 v6 = some (r, S') → Ev mX4_wordOf 5 0 0 13 [some (.ref 18), some (.int v1), some (.int v2), some (.int v3), some (.int v4), some (.int v5), some (.int v6), none] [] (mkS x S) (fun v h => v = some (.int r) ∧ h = mkS x S')) (S : ST) (v1 : Int32) (v2 : Int32) (v3 : Int32) (v6 : Int32) (r : Int32) (S' : ST) (hm : bfX4_wordOf_18_52 x k13 S v1 v2 v3 v6 = some (r, S')) : Ev mX4_wordOf 5 0 0 52 [some (.ref 18), some (.int v1), some (.int v2), some (.int v3), none, none, some (.int v6), none] [] (mkS x S) (fun v h => v = some (.int r) ∧ h = mkS x S') := by
    unfold bfX4_wordOf_18_52 at hm
    refine Ev.steps tokX4_wordOf 6 (P := True) (pc' := 97) (lv' := [some (.ref 18), some (.int v1), some (.int v2), some (.int (v3 + 1)), some (.int v1), some (.int 1), some (.int v6), none]) (st' := []) (h' := mkS x S) rfl trivial ?_
    exact bpX4_wordOf_18_97 x k13 hk13 S v1 v2 (v3 + 1) v1 1 v6 _ _ hm
set_option maxHeartbeats 4000000 in
set_option maxRecDepth 20000 in
theorem bpX4_wordOf_18_13 (x : XT) (k13 : ST → Int32 → Int32 → Int32 → Int32 → Int32 → Int32 → Option (Int32 × ST)) (hk13 : ∀ (S : ST) (v1 : Int32) (v2 : Int32) (v3 : Int32) (v4 : Int32) (v5 : Int32) (v6 : Int32) (r : Int32) (S' : ST), k13 S v1 v2 v3 v4 v5 v6 = some (r, S') → Ev mX4_wordOf 5 0 0 13 [some (.ref 18), some (.int v1), some (.int v2), some (.int v3), some (.int v4), some (.int v5), some (.int v6), none] [] (mkS x S) (fun v h => v = some (.int r) ∧ h = mkS x S')) (S : ST) (v1 : Int32) (v2 : Int32) (v3 : Int32) (v4 : Int32) (v5 : Int32) (v6 : Int32) (r : Int32) (S' : ST) (hm : bfX4_wordOf_18_13 x k13 S v1 v2 v3 v4 v5 v6 = some (r, S')) : Ev mX4_wordOf 5 0 0 13 [some (.ref 18), some (.int v1), some (.int v2), some (.int v3), some (.int v4), some (.int v5), some (.int v6), none] [] (mkS x S) (fun v h => v = some (.int r) ∧ h = mkS x S') := by
    unfold bfX4_wordOf_18_13 at hm
    refine Ev.steps tokX4_wordOf 1 (P := True) (pc' := 15) (lv' := [some (.ref 18), some (.int v1), some (.int v2), some (.int v3), some (.int v4), some (.int v5), some (.int v6), none]) (st' := [.int v6]) (h' := mkS x S) rfl trivial ?_
    refine ev_ldcS (dcd tokX4_wordOf rfl) rfl ?_
    refine ev_callStr (N := mJ0_length_8abf5) (d' := 2) (bc := 0) (bs := 0) (bc' := 0) (bs' := 0) (as := []) (rest := [.int v6]) (dcd tokX4_wordOf rfl) okJ0_length_8abf5 rfl inJ0_length_8abf5 seJ0_length_8abf5 lk4_97 rfl (by decide) (Nat.le_of_ble_eq_true rfl) (ct_strlen _) (fun v h' hq hn => ?_)
    obtain ⟨rfl, rfl⟩ := hq
    refine Ev.steps tokX4_wordOf 1 (P := True) (pc' := if 122 ≤ v6 then 103 else 23) (lv' := [some (.ref 18), some (.int v1), some (.int v2), some (.int v3), some (.int v4), some (.int v5), some (.int v6), none]) (st' := []) (h' := mkS x S) rfl trivial ?_
    refine Ev.ite (fun c1 => ?_) (fun c1 => ?_)
    · rw [if_pos c1] at hm
      refine Ev.steps tokX4_wordOf 1 (P := True) (pc' := 106) (lv' := [some (.ref 18), some (.int v1), some (.int v2), some (.int v3), some (.int v4), some (.int v5), some (.int v6), none]) (st' := [.int 258]) (h' := mkS x S) rfl trivial ?_
      cases hm
      exact Ev.reti tokX4_wordOf rfl rfl ⟨rfl, rfl⟩
    · rw [if_neg c1] at hm
      refine ev_ldcS (dcd tokX4_wordOf rfl) rfl ?_
      refine Ev.steps tokX4_wordOf 1 (P := True) (pc' := 27) (lv' := [some (.ref 18), some (.int v1), some (.int v2), some (.int v3), some (.int v4), some (.int v5), some (.int v6), none]) (st' := [.int v6, .ref 1000001]) (h' := mkS x S) rfl trivial ?_
      obtain ⟨o2, hm⟩ := oblk hm
      refine ev_callStr (N := mJ0_charAt_5068e) (d' := 4) (bc := 0) (bs := 0) (bc' := 0) (bs' := 0) (as := [.int v6]) (rest := []) (dcd tokX4_wordOf rfl) okJ0_charAt_5068e rfl inJ0_charAt_5068e seJ0_charAt_5068e lk4_101 rfl (by decide) (Nat.le_of_ble_eq_true rfl) (ct_charAt _ _ (inc_ok o2)) (fun v h' hq hn => ?_)
      obtain ⟨rfl, rfl⟩ := hq
      refine Ev.steps tokX4_wordOf 4 (P := True) (pc' := if ¬ (chA v6) = 32 then 64 else 39) (lv' := [some (.ref 18), some (.int v1), some (.int v2), some (.int v3), some (.int v4), some (.int v5), some (.int v6), some (.int (chA v6))]) (st' := []) (h' := mkS x S) rfl trivial ?_
      refine Ev.ite (fun c3 => ?_) (fun c3 => ?_)
      · rw [if_pos c3] at hm
        refine Ev.steps tokX4_wordOf 2 (P := True) (pc' := if v5 = 0 then 91 else 69) (lv' := [some (.ref 18), some (.int v1), some (.int v2), some (.int v3), some (.int v4), some (.int v5), some (.int v6), some (.int (chA v6))]) (st' := []) (h' := mkS x S) rfl trivial ?_
        refine Ev.ite (fun c4 => ?_) (fun c4 => ?_)
        · rw [if_pos c4] at hm
          refine Ev.fgt (lv' := [some (.ref 18), some (.int v1), some (.int v2), some (.int v3), some (.int v4), none, some (.int v6), none]) ⟨rfl, rfl, rfl, rfl, rfl, rfl, trivial⟩ ?_
          exact bpX4_wordOf_18_91 x k13 hk13 S v1 v2 v3 v4 v6 _ _ hm
        · rw [if_neg c4] at hm
          refine Ev.steps tokX4_wordOf 3 (P := True) (pc' := if v2 ≤ v4 then 91 else 75) (lv' := [some (.ref 18), some (.int v1), some (.int v2), some (.int v3), some (.int v4), some (.int v5), some (.int v6), some (.int (chA v6))]) (st' := []) (h' := mkS x S) rfl trivial ?_
          refine Ev.ite (fun c5 => ?_) (fun c5 => ?_)
          · rw [if_pos c5] at hm
            refine Ev.fgt (lv' := [some (.ref 18), some (.int v1), some (.int v2), some (.int v3), some (.int v4), none, some (.int v6), none]) ⟨rfl, rfl, rfl, rfl, rfl, rfl, trivial⟩ ?_
            exact bpX4_wordOf_18_91 x k13 hk13 S v1 v2 v3 v4 v6 _ _ hm
          · rw [if_neg c5] at hm
            obtain ⟨o6, hm⟩ := oblk hm
            refine Ev.steps tokX4_wordOf 6 (P := vp_in v4 400 ∧ True) (pc' := if ¬ (S.2.1 19 v4.toNatClampNeg) = (chA v6) then 91 else 87) (lv' := [some (.ref 18), some (.int v1), some (.int v2), some (.int v3), some (.int v4), some (.int v5), some (.int v6), some (.int (chA v6))]) (st' := []) (h' := mkS x S) rfl ⟨inb_ok o6, trivial⟩ ?_
            refine Ev.ite (fun c7 => ?_) (fun c7 => ?_)
            · rw [if_pos c7] at hm
              refine Ev.fgt (lv' := [some (.ref 18), some (.int v1), some (.int v2), some (.int v3), some (.int v4), none, some (.int v6), none]) ⟨rfl, rfl, rfl, rfl, rfl, rfl, trivial⟩ ?_
              exact bpX4_wordOf_18_91 x k13 hk13 S v1 v2 v3 v4 v6 _ _ hm
            · rw [if_neg c7] at hm
              refine Ev.steps tokX4_wordOf 2 (P := True) (pc' := 92) (lv' := [some (.ref 18), some (.int v1), some (.int v2), some (.int v3), some (.int v4), some (.int v5), some (.int v6), some (.int (chA v6))]) (st' := [.int 1]) (h' := mkS x S) rfl trivial ?_
              refine Ev.fgt (lv' := [some (.ref 18), some (.int v1), some (.int v2), some (.int v3), some (.int v4), none, some (.int v6), none]) ⟨rfl, rfl, rfl, rfl, rfl, rfl, trivial⟩ ?_
              exact bpX4_wordOf_18_92 x k13 hk13 S v1 v2 v3 v4 v6 1 _ _ hm
      · rw [if_neg c3] at hm
        refine Ev.steps tokX4_wordOf 2 (P := True) (pc' := if v5 = 0 then 52 else 44) (lv' := [some (.ref 18), some (.int v1), some (.int v2), some (.int v3), some (.int v4), some (.int v5), some (.int v6), some (.int (chA v6))]) (st' := []) (h' := mkS x S) rfl trivial ?_
        refine Ev.ite (fun c8 => ?_) (fun c8 => ?_)
        · rw [if_pos c8] at hm
          refine Ev.fgt (lv' := [some (.ref 18), some (.int v1), some (.int v2), some (.int v3), none, none, some (.int v6), none]) ⟨rfl, rfl, rfl, rfl, rfl, trivial⟩ ?_
          exact bpX4_wordOf_18_52 x k13 hk13 S v1 v2 v3 v6 _ _ hm
        · rw [if_neg c8] at hm
          refine Ev.steps tokX4_wordOf 3 (P := True) (pc' := if ¬ v4 = v2 then 52 else 50) (lv' := [some (.ref 18), some (.int v1), some (.int v2), some (.int v3), some (.int v4), some (.int v5), some (.int v6), some (.int (chA v6))]) (st' := []) (h' := mkS x S) rfl trivial ?_
          refine Ev.ite (fun c9 => ?_) (fun c9 => ?_)
          · rw [if_pos c9] at hm
            refine Ev.fgt (lv' := [some (.ref 18), some (.int v1), some (.int v2), some (.int v3), none, none, some (.int v6), none]) ⟨rfl, rfl, rfl, rfl, rfl, trivial⟩ ?_
            exact bpX4_wordOf_18_52 x k13 hk13 S v1 v2 v3 v6 _ _ hm
          · rw [if_neg c9] at hm
            refine Ev.steps tokX4_wordOf 1 (P := True) (pc' := 51) (lv' := [some (.ref 18), some (.int v1), some (.int v2), some (.int v3), some (.int v4), some (.int v5), some (.int v6), some (.int (chA v6))]) (st' := [.int v3]) (h' := mkS x S) rfl trivial ?_
            cases hm
            exact Ev.reti tokX4_wordOf rfl rfl ⟨rfl, rfl⟩
theorem lpX4_wordOf_18_13 (x : XT)  : ∀ (n : Nat) (S : ST) (v1 : Int32) (v2 : Int32) (v3 : Int32) (v4 : Int32) (v5 : Int32) (v6 : Int32) (r : Int32) (S' : ST), lfX4_wordOf_18_13 x  n S v1 v2 v3 v4 v5 v6 = some (r, S') → Ev mX4_wordOf 5 0 0 13 [some (.ref 18), some (.int v1), some (.int v2), some (.int v3), some (.int v4), some (.int v5), some (.int v6), none] [] (mkS x S) (fun v h => v = some (.int r) ∧ h = mkS x S')
  | 0, _, _, _, _, _, _, _, _, _, hm => by cases hm
  | n + 1, S, v1, v2, v3, v4, v5, v6, r, S', hm => bpX4_wordOf_18_13 x (lfX4_wordOf_18_13 x  n) (lpX4_wordOf_18_13 x  n) S v1 v2 v3 v4 v5 v6 r S' hm
set_option maxHeartbeats 4000000 in
set_option maxRecDepth 20000 in
theorem bpX4_wordOf_18_0 (x : XT)  (S : ST) (p1 : Int32) (p2 : Int32) (r : Int32) (S' : ST) (hm : bfX4_wordOf_18_0 x  S p1 p2 = some (r, S')) : Ev mX4_wordOf 5 0 0 0 [some (.ref 18), some (.int p1), some (.int p2), none, none, none, none, none] [] (mkS x S) (fun v h => v = some (.int r) ∧ h = mkS x S') := by
    unfold bfX4_wordOf_18_0 at hm
    refine Ev.steps tokX4_wordOf 8 (P := True) (pc' := 13) (lv' := [some (.ref 18), some (.int p1), some (.int p2), some (.int 260), some (.int p1), some (.int 1), some (.int 0), none]) (st' := []) (h' := mkS x S) rfl trivial ?_
    exact lpX4_wordOf_18_13 x  20000 S p1 p2 260 p1 1 0 _ _ hm
theorem gpX4_wordOf_18 (x : XT) (S : ST) (p1 : Int32) (p2 : Int32) (r : Int32) (S' : ST) (hm : gfX4_wordOf_18 x S p1 p2 = some (r, S')) : Ct mX4_wordOf 5 0 0 [.ref 18, .int p1, .int p2] (mkS x S) (fun v h => v = some (.int r) ∧ h = mkS x S') :=
  Ct.of (lv := [some (.ref 18), some (.int p1), some (.int p2), none, none, none, none, none]) rfl rfl rfl (show (_ : Nat) ≤ _ from Nat.le_of_ble_eq_true rfl) (fun G => rfl) (bpX4_wordOf_18_0 x S p1 p2 r S' hm)
set_option maxHeartbeats 4000000 in
set_option maxRecDepth 20000 in
theorem bpX4_addToken_24_18_144 (x : XT)  (S : ST)  (r : Unit) (S' : ST) (hm : bfX4_addToken_24_18_144 x  S  = some (r, S')) : Ev mX4_addToken 6 0 0 144 [some (.ref 24), none, none, none, none, none] [] (mkS x S) (fun v h => v = none ∧ h = mkS x S') := by
    unfold bfX4_addToken_24_18_144 at hm
    refine Ev.steps tokX4_addToken 6 (P := True) (pc' := 154) (lv' := [some (.ref 24), none, none, none, none, none]) (st' := []) (h' := mkS x ((u2 S.1 24 5 ((S.1 24 5) + 1)), S.2.1, S.2.2.1, S.2.2.2)) rfl trivial ?_
    cases hm
    exact Ev.retv tokX4_addToken rfl rfl ⟨rfl, rfl⟩
set_option maxHeartbeats 4000000 in
set_option maxRecDepth 20000 in
theorem bpX4_addToken_24_18_76 (x : XT) (k76 : ST → Int32 → Int32 → Option (Unit × ST)) (hk76 : ∀ (S : ST) (v3 : Int32) (v5 : Int32) (r : Unit) (S' : ST), k76 S v3 v5 = some (r, S') → Ev mX4_addToken 6 0 0 76 [some (.ref 24), some (.ref 18), none, some (.int v3), none, some (.int v5)] [] (mkS x S) (fun v h => v = none ∧ h = mkS x S')) (S : ST) (v3 : Int32) (v5 : Int32) (r : Unit) (S' : ST) (hm : bfX4_addToken_24_18_76 x k76 S v3 v5 = some (r, S')) : Ev mX4_addToken 6 0 0 76 [some (.ref 24), some (.ref 18), none, some (.int v3), none, some (.int v5)] [] (mkS x S) (fun v h => v = none ∧ h = mkS x S') := by
    unfold bfX4_addToken_24_18_76 at hm
    refine Ev.steps tokX4_addToken 3 (P := True) (pc' := if v3 ≤ v5 then 126 else 82) (lv' := [some (.ref 24), some (.ref 18), none, some (.int v3), none, some (.int v5)]) (st' := []) (h' := mkS x S) rfl trivial ?_
    refine Ev.ite (fun c1 => ?_) (fun c1 => ?_)
    · rw [if_pos c1] at hm
      refine Ev.steps tokX4_addToken 1 (P := True) (pc' := 144) (lv' := [some (.ref 24), some (.ref 18), none, some (.int v3), none, some (.int v5)]) (st' := []) (h' := mkS x S) rfl trivial ?_
      refine Ev.fgt (lv' := [some (.ref 24), none, none, none, none, none]) ⟨rfl, trivial⟩ ?_
      exact bpX4_addToken_24_18_144 x S _ _ hm
    · rw [if_neg c1] at hm
      obtain ⟨o2, hm⟩ := oblk hm
      obtain ⟨o3, hm⟩ := oblk hm
      refine Ev.steps tokX4_addToken 19 (P := vp_in (S.1 24 5) 401 ∧ vp_in v5 400 ∧ True) (pc' := 116) (lv' := [some (.ref 24), some (.ref 18), none, some (.int v3), none, some (.int v5)]) (st' := [.int 1001, .int (((10 * (S.2.1 31 ((S.1 24 5).toNatClampNeg))) + (S.2.1 19 v5.toNatClampNeg)) - 48), .int (S.1 24 5), .ref 31]) (h' := mkS x S) rfl ⟨inb_ok o2, inb_ok o3, trivial⟩ ?_
      refine ev_min (dcd tokX4_addToken rfl) lk4_89 mt_min.1 mt_in.1 mt_min.2 (by decide) (Nat.le_of_ble_eq_true rfl) ?_
      obtain ⟨o4, hm⟩ := oblk hm
      refine Ev.steps tokX4_addToken 3 (P := vp_in (S.1 24 5) 401 ∧ True) (pc' := 76) (lv' := [some (.ref 24), some (.ref 18), none, some (.int v3), none, some (.int (v5 + 1))]) (st' := []) (h' := mkS x (S.1, (u2 S.2.1 31 ((S.1 24 5).toNatClampNeg) (if 1001 < (((10 * (S.2.1 31 ((S.1 24 5).toNatClampNeg))) + (S.2.1 19 v5.toNatClampNeg)) - 48) then 1001 else (((10 * (S.2.1 31 ((S.1 24 5).toNatClampNeg))) + (S.2.1 19 v5.toNatClampNeg)) - 48))), S.2.2.1, S.2.2.2)) rfl ⟨inb_ok o4, trivial⟩ ?_
      exact hk76 (S.1, (u2 S.2.1 31 ((S.1 24 5).toNatClampNeg) (if 1001 < (((10 * (S.2.1 31 ((S.1 24 5).toNatClampNeg))) + (S.2.1 19 v5.toNatClampNeg)) - 48) then 1001 else (((10 * (S.2.1 31 ((S.1 24 5).toNatClampNeg))) + (S.2.1 19 v5.toNatClampNeg)) - 48))), S.2.2.1, S.2.2.2) v3 (v5 + 1) _ _ hm
theorem lpX4_addToken_24_18_76 (x : XT)  : ∀ (n : Nat) (S : ST) (v3 : Int32) (v5 : Int32) (r : Unit) (S' : ST), lfX4_addToken_24_18_76 x  n S v3 v5 = some (r, S') → Ev mX4_addToken 6 0 0 76 [some (.ref 24), some (.ref 18), none, some (.int v3), none, some (.int v5)] [] (mkS x S) (fun v h => v = none ∧ h = mkS x S')
  | 0, _, _, _, _, _, hm => by cases hm
  | n + 1, S, v3, v5, r, S', hm => bpX4_addToken_24_18_76 x (lfX4_addToken_24_18_76 x  n) (lpX4_addToken_24_18_76 x  n) S v3 v5 r S' hm
set_option maxHeartbeats 4000000 in
set_option maxRecDepth 20000 in
theorem bpX4_addToken_24_18_0 (x : XT)  (S : ST) (p2 : Int32) (p3 : Int32) (r : Unit) (S' : ST) (hm : bfX4_addToken_24_18_0 x  S p2 p3 = some (r, S')) : Ev mX4_addToken 6 0 0 0 [some (.ref 24), some (.ref 18), some (.int p2), some (.int p3), none, none] [] (mkS x S) (fun v h => v = none ∧ h = mkS x S') := by
    unfold bfX4_addToken_24_18_0 at hm
    obtain ⟨o1, hm⟩ := oblk hm
    refine Ev.steps tokX4_addToken 4 (P := vp_in p2 400 ∧ True) (pc' := 6) (lv' := [some (.ref 24), some (.ref 18), some (.int p2), some (.int p3), none, none]) (st' := [.int (S.2.1 19 p2.toNatClampNeg)]) (h' := mkS x S) rfl ⟨inb_ok o1, trivial⟩ ?_
    cases h2 : gfX4_sortOf x S (S.2.1 19 p2.toNatClampNeg) with
    | none => rw [h2] at hm; cases hm
    | some q3 =>
      obtain ⟨r4, S5⟩ := q3
      rw [h2] at hm
      dsimp only at hm
      refine ev_callS (N := mX4_sortOf) (d' := 1) (bc := 0) (bs := 0) (bc' := 0) (bs' := 0) (as := [.int (S.2.1 19 p2.toNatClampNeg)]) (rest := []) (dcd tokX4_addToken rfl) okX4_sortOf inX4_sortOf lk4_81 rfl (by decide) (Nat.le_of_ble_eq_true rfl) (gpX4_sortOf x S (S.2.1 19 p2.toNatClampNeg) _ _ h2) (fun v h' hq hn => ?_)
      obtain ⟨rfl, rfl⟩ := hq
      obtain ⟨o6, hm⟩ := oblk hm
      obtain ⟨o7, hm⟩ := oblk hm
      refine Ev.steps tokX4_addToken 16 (P := vp_in (S5.1 24 5) 401 ∧ vp_in (S5.1 24 5) 401 ∧ True) (pc' := if ¬ r4 = 1 then 55 else 37) (lv' := [some (.ref 24), some (.ref 18), some (.int p2), some (.int p3), some (.int r4), none]) (st' := []) (h' := mkS x (S5.1, (u2 (u2 S5.2.1 32 ((S5.1 24 5).toNatClampNeg) p2) 31 ((S5.1 24 5).toNatClampNeg) 0), S5.2.2.1, S5.2.2.2)) rfl ⟨inb_ok o6, inb_ok o7, trivial⟩ ?_
      refine Ev.ite (fun c8 => ?_) (fun c8 => ?_)
      · rw [if_pos c8] at hm
        refine Ev.steps tokX4_addToken 3 (P := True) (pc' := if ¬ r4 = 2 then 129 else 61) (lv' := [some (.ref 24), some (.ref 18), some (.int p2), some (.int p3), some (.int r4), none]) (st' := []) (h' := mkS x (S5.1, (u2 (u2 S5.2.1 32 ((S5.1 24 5).toNatClampNeg) p2) 31 ((S5.1 24 5).toNatClampNeg) 0), S5.2.2.1, S5.2.2.2)) rfl trivial ?_
        refine Ev.ite (fun c9 => ?_) (fun c9 => ?_)
        · rw [if_pos c9] at hm
          obtain ⟨o10, hm⟩ := oblk hm
          obtain ⟨o11, hm⟩ := oblk hm
          refine Ev.steps tokX4_addToken 9 (P := vp_in p2 400 ∧ vp_in (S5.1 24 5) 401 ∧ True) (pc' := 144) (lv' := [some (.ref 24), some (.ref 18), some (.int p2), some (.int p3), some (.int r4), none]) (st' := []) (h' := mkS x (S5.1, (u2 (u2 (u2 S5.2.1 32 ((S5.1 24 5).toNatClampNeg) p2) 31 ((S5.1 24 5).toNatClampNeg) 0) 30 ((S5.1 24 5).toNatClampNeg) (S5.2.1 19 p2.toNatClampNeg)), S5.2.2.1, S5.2.2.2)) rfl ⟨inb_ok o10, inb_ok o11, trivial⟩ ?_
          refine Ev.fgt (lv' := [some (.ref 24), none, none, none, none, none]) ⟨rfl, trivial⟩ ?_
          exact bpX4_addToken_24_18_144 x (S5.1, (u2 (u2 (u2 S5.2.1 32 ((S5.1 24 5).toNatClampNeg) p2) 31 ((S5.1 24 5).toNatClampNeg) 0) 30 ((S5.1 24 5).toNatClampNeg) (S5.2.1 19 p2.toNatClampNeg)), S5.2.2.1, S5.2.2.2) _ _ hm
        · rw [if_neg c9] at hm
          obtain ⟨o12, hm⟩ := oblk hm
          refine Ev.steps tokX4_addToken 8 (P := vp_in (S5.1 24 5) 401 ∧ True) (pc' := 76) (lv' := [some (.ref 24), some (.ref 18), some (.int p2), some (.int p3), some (.int r4), some (.int p2)]) (st' := []) (h' := mkS x (S5.1, (u2 (u2 (u2 S5.2.1 32 ((S5.1 24 5).toNatClampNeg) p2) 31 ((S5.1 24 5).toNatClampNeg) 0) 30 ((S5.1 24 5).toNatClampNeg) 256), S5.2.2.1, S5.2.2.2)) rfl ⟨inb_ok o12, trivial⟩ ?_
          refine Ev.fgt (lv' := [some (.ref 24), some (.ref 18), none, some (.int p3), none, some (.int p2)]) ⟨rfl, rfl, rfl, rfl, trivial⟩ ?_
          exact lpX4_addToken_24_18_76 x  20000 (S5.1, (u2 (u2 (u2 S5.2.1 32 ((S5.1 24 5).toNatClampNeg) p2) 31 ((S5.1 24 5).toNatClampNeg) 0) 30 ((S5.1 24 5).toNatClampNeg) 256), S5.2.2.1, S5.2.2.2) p3 p2 _ _ hm
      · rw [if_neg c8] at hm
        refine Ev.steps tokX4_addToken 7 (P := True) (pc' := 48) (lv' := [some (.ref 24), some (.ref 18), some (.int p2), some (.int p3), some (.int r4), none]) (st' := [.int p3, .int p2, .ref 18, .int (S5.1 24 5), .ref 30]) (h' := mkS x (S5.1, (u2 (u2 S5.2.1 32 ((S5.1 24 5).toNatClampNeg) p2) 31 ((S5.1 24 5).toNatClampNeg) 0), S5.2.2.1, S5.2.2.2)) rfl trivial ?_
        cases h13 : gfX4_wordOf_18 x (S5.1, (u2 (u2 S5.2.1 32 ((S5.1 24 5).toNatClampNeg) p2) 31 ((S5.1 24 5).toNatClampNeg) 0), S5.2.2.1, S5.2.2.2) p2 p3 with
        | none => rw [h13] at hm; cases hm
        | some q14 =>
          obtain ⟨r15, S16⟩ := q14
          rw [h13] at hm
          dsimp only at hm
          refine ev_callS (N := mX4_wordOf) (d' := 5) (bc := 0) (bs := 0) (bc' := 0) (bs' := 0) (as := [.ref 18, .int p2, .int p3]) (rest := [.int (S5.1 24 5), .ref 30]) (dcd tokX4_addToken rfl) okX4_wordOf inX4_wordOf lk4_85 rfl (by decide) (Nat.le_of_ble_eq_true rfl) (gpX4_wordOf_18 x (S5.1, (u2 (u2 S5.2.1 32 ((S5.1 24 5).toNatClampNeg) p2) 31 ((S5.1 24 5).toNatClampNeg) 0), S5.2.2.1, S5.2.2.2) p2 p3 _ _ h13) (fun v h' hq hn => ?_)
          obtain ⟨rfl, rfl⟩ := hq
          obtain ⟨o17, hm⟩ := oblk hm
          refine Ev.steps tokX4_addToken 2 (P := vp_in (S5.1 24 5) 401 ∧ True) (pc' := 144) (lv' := [some (.ref 24), some (.ref 18), some (.int p2), some (.int p3), some (.int r4), none]) (st' := []) (h' := mkS x (S16.1, (u2 S16.2.1 30 ((S5.1 24 5).toNatClampNeg) r15), S16.2.2.1, S16.2.2.2)) rfl ⟨inb_ok o17, trivial⟩ ?_
          refine Ev.fgt (lv' := [some (.ref 24), none, none, none, none, none]) ⟨rfl, trivial⟩ ?_
          exact bpX4_addToken_24_18_144 x (S16.1, (u2 S16.2.1 30 ((S5.1 24 5).toNatClampNeg) r15), S16.2.2.1, S16.2.2.2) _ _ hm
theorem gpX4_addToken_24_18 (x : XT) (S : ST) (p2 : Int32) (p3 : Int32) (r : Unit) (S' : ST) (hm : gfX4_addToken_24_18 x S p2 p3 = some (r, S')) : Ct mX4_addToken 6 0 0 [.ref 24, .ref 18, .int p2, .int p3] (mkS x S) (fun v h => v = none ∧ h = mkS x S') :=
  Ct.of (lv := [some (.ref 24), some (.ref 18), some (.int p2), some (.int p3), none, none]) rfl rfl rfl (show (_ : Nat) ≤ _ from Nat.le_of_ble_eq_true rfl) (fun G => rfl) (bpX4_addToken_24_18_0 x S p2 p3 r S' hm)
end MIR
