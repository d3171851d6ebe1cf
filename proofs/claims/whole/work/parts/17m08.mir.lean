section MIR
set_option maxHeartbeats 4000000 in
set_option maxRecDepth 20000 in
theorem bpX10_undo_0_0 (x : XT)  (S : ST)  (r : Int32) (S' : ST) (hm : bfX10_undo_0_0 x  S  = some (r, S')) : Ev mX10_undo 3 0 0 0 [some (.ref 0)] [] (mkS x S) (fun v h => v = some (.int r) ∧ h = mkS x S') := by
    unfold bfX10_undo_0_0 at hm
    refine Ev.steps tokX10_undo 3 (P := True) (pc' := 5) (lv' := [some (.ref 0)]) (st' := [.ref 33, .ref 0]) (h' := mkS x S) rfl trivial ?_
    cases h1 : gfX1_takeBack_33 x S with
    | none => rw [h1] at hm; cases hm
    | some q2 =>
      obtain ⟨r3, S4⟩ := q2
      rw [h1] at hm
      dsimp only at hm
      refine ev_callV (N := mX1_takeBack) (d' := 2) (bc := 0) (bs := 0) (bc' := 0) (bs' := 0) (as := []) (rest := [.ref 0]) (a := 33) (ci := 1) (dcd tokX10_undo rfl) okX1_takeBack inX1_takeBack seX1_takeBack lk10_238 rfl (by decide) (Nat.le_of_ble_eq_true rfl) rfl ⟨by decide, rfl⟩ (gpX1_takeBack_33 x S _ _ h1) (fun v h' hq hn => ?_)
      obtain ⟨rfl, rfl⟩ := hq
      cases h5 : gfX10_told_0 x S4 r3 with
      | none => rw [h5] at hm; cases hm
      | some q6 =>
        obtain ⟨r7, S8⟩ := q6
        rw [h5] at hm
        dsimp only at hm
        refine ev_callV (N := mX10_told) (d' := 1) (bc := 0) (bs := 0) (bc' := 0) (bs' := 0) (as := [.int r3]) (rest := []) (a := 0) (ci := 10) (dcd tokX10_undo rfl) okX10_told inX10_told seX10_told lk10_178 rfl (by decide) (Nat.le_of_ble_eq_true rfl) rfl ⟨by decide, rfl⟩ (gpX10_told_0 x S4 r3 _ _ h5) (fun v h' hq hn => ?_)
        obtain ⟨rfl, rfl⟩ := hq
        cases hm
        exact Ev.reti tokX10_undo rfl rfl ⟨rfl, rfl⟩
theorem gpX10_undo_0 (x : XT) (S : ST)  (r : Int32) (S' : ST) (hm : gfX10_undo_0 x S  = some (r, S')) : Ct mX10_undo 3 0 0 [.ref 0] (mkS x S) (fun v h => v = some (.int r) ∧ h = mkS x S') :=
  Ct.of (lv := [some (.ref 0)]) rfl rfl rfl (show (_ : Nat) ≤ _ from Nat.le_of_ble_eq_true rfl) (fun G => rfl) (bpX10_undo_0_0 x S  r S' hm)
set_option maxHeartbeats 4000000 in
set_option maxRecDepth 20000 in
theorem bpX10_canSeek_0_39 (x : XT)  (S : ST) (t0 : Int32) (r : Int32) (S' : ST) (hm : bfX10_canSeek_0_39 x  S t0 = some (r, S')) : Ev mX10_canSeek 2 0 0 39 [none, none, none, none] [.int t0] (mkS x S) (fun v h => v = some (.int r) ∧ h = mkS x S') := by
    unfold bfX10_canSeek_0_39 at hm
    obtain ⟨o1, hm⟩ := oblk hm
    cases hm
    exact Ev.retz tokX10_canSeek rfl rfl (bbz_ok o1) ⟨rfl, rfl⟩
set_option maxHeartbeats 4000000 in
set_option maxRecDepth 20000 in
theorem bpX10_canSeek_0_38 (x : XT)  (S : ST)  (r : Int32) (S' : ST) (hm : bfX10_canSeek_0_38 x  S  = some (r, S')) : Ev mX10_canSeek 2 0 0 38 [none, none, none, none] [] (mkS x S) (fun v h => v = some (.int r) ∧ h = mkS x S') := by
    unfold bfX10_canSeek_0_38 at hm
    refine Ev.steps tokX10_canSeek 1 (P := True) (pc' := 39) (lv' := [none, none, none, none]) (st' := [.int 0]) (h' := mkS x S) rfl trivial ?_
    exact bpX10_canSeek_0_39 x S 0 _ _ hm
set_option maxHeartbeats 4000000 in
set_option maxRecDepth 20000 in
theorem bpX10_canSeek_0_34 (x : XT)  (S : ST)  (r : Int32) (S' : ST) (hm : bfX10_canSeek_0_34 x  S  = some (r, S')) : Ev mX10_canSeek 2 0 0 34 [none, none, none, none] [] (mkS x S) (fun v h => v = some (.int r) ∧ h = mkS x S') := by
    unfold bfX10_canSeek_0_34 at hm
    refine Ev.steps tokX10_canSeek 2 (P := True) (pc' := 39) (lv' := [none, none, none, none]) (st' := [.int 1]) (h' := mkS x S) rfl trivial ?_
    exact bpX10_canSeek_0_39 x S 1 _ _ hm
set_option maxHeartbeats 4000000 in
set_option maxRecDepth 20000 in
theorem bpX10_canSeek_0_0 (x : XT)  (S : ST) (p1 : Int32) (p2 : Int32) (p3 : Int32) (r : Int32) (S' : ST) (hm : bfX10_canSeek_0_0 x  S p1 p2 p3 = some (r, S')) : Ev mX10_canSeek 2 0 0 0 [some (.ref 0), some (.int p1), some (.int p2), some (.int p3)] [] (mkS x S) (fun v h => v = some (.int r) ∧ h = mkS x S') := by
    unfold bfX10_canSeek_0_0 at hm
    refine Ev.steps tokX10_canSeek 3 (P := True) (pc' := 5) (lv' := [some (.ref 0), some (.int p1), some (.int p2), some (.int p3)]) (st' := [.int p1, .ref 1]) (h' := mkS x S) rfl trivial ?_
    cases h1 : gfX7_hasGoer_1 x S p1 with
    | none => rw [h1] at hm; cases hm
    | some q2 =>
      obtain ⟨r3, S4⟩ := q2
      rw [h1] at hm
      dsimp only at hm
      refine ev_callV (N := mX7_hasGoer) (d' := 1) (bc := 0) (bs := 0) (bc' := 0) (bs' := 0) (as := [.int p1]) (rest := []) (a := 1) (ci := 7) (dcd tokX10_canSeek rfl) okX7_hasGoer inX7_hasGoer seX7_hasGoer lk10_134 rfl (by decide) (Nat.le_of_ble_eq_true rfl) rfl ⟨by decide, rfl⟩ (gpX7_hasGoer_1 x S p1 _ _ h1) (fun v h' hq hn => ?_)
      obtain ⟨rfl, rfl⟩ := hq
      refine Ev.steps tokX10_canSeek 1 (P := True) (pc' := if r3 = 0 then 38 else 11) (lv' := [some (.ref 0), some (.int p1), some (.int p2), some (.int p3)]) (st' := []) (h' := mkS x S4) rfl trivial ?_
      refine Ev.ite (fun c5 => ?_) (fun c5 => ?_)
      · rw [if_pos c5] at hm
        refine Ev.fgt (lv' := [none, none, none, none]) trivial ?_
        exact bpX10_canSeek_0_38 x S4 _ _ hm
      · rw [if_neg c5] at hm
        refine Ev.steps tokX10_canSeek 2 (P := True) (pc' := 14) (lv' := [some (.ref 0), some (.int p1), some (.int p2), some (.int p3)]) (st' := [.int 6, .int p2]) (h' := mkS x S4) rfl trivial ?_
        cases h6 : gfX10_within x S4 p2 6 with
        | none => rw [h6] at hm; cases hm
        | some q7 =>
          obtain ⟨r8, S9⟩ := q7
          rw [h6] at hm
          dsimp only at hm
          refine ev_callS (N := mX10_within) (d' := 1) (bc := 0) (bs := 0) (bc' := 0) (bs' := 0) (as := [.int p2, .int 6]) (rest := []) (dcd tokX10_canSeek rfl) okX10_within inX10_within lk10_153 rfl (by decide) (Nat.le_of_ble_eq_true rfl) (gpX10_within x S4 p2 6 _ _ h6) (fun v h' hq hn => ?_)
          obtain ⟨rfl, rfl⟩ := hq
          refine Ev.steps tokX10_canSeek 1 (P := True) (pc' := if r8 = 0 then 38 else 20) (lv' := [some (.ref 0), some (.int p1), some (.int p2), some (.int p3)]) (st' := []) (h' := mkS x S9) rfl trivial ?_
          refine Ev.ite (fun c10 => ?_) (fun c10 => ?_)
          · rw [if_pos c10] at hm
            refine Ev.fgt (lv' := [none, none, none, none]) trivial ?_
            exact bpX10_canSeek_0_38 x S9 _ _ hm
          · rw [if_neg c10] at hm
            refine Ev.steps tokX10_canSeek 3 (P := True) (pc' := if p3 = (-1) then 34 else 25) (lv' := [some (.ref 0), some (.int p1), some (.int p2), some (.int p3)]) (st' := []) (h' := mkS x S9) rfl trivial ?_
            refine Ev.ite (fun c11 => ?_) (fun c11 => ?_)
            · rw [if_pos c11] at hm
              refine Ev.fgt (lv' := [none, none, none, none]) trivial ?_
              exact bpX10_canSeek_0_34 x S9 _ _ hm
            · rw [if_neg c11] at hm
              refine Ev.steps tokX10_canSeek 2 (P := True) (pc' := 28) (lv' := [some (.ref 0), some (.int p1), some (.int p2), some (.int p3)]) (st' := [.int 20, .int p3]) (h' := mkS x S9) rfl trivial ?_
              cases h12 : gfX10_within x S9 p3 20 with
              | none => rw [h12] at hm; cases hm
              | some q13 =>
                obtain ⟨r14, S15⟩ := q13
                rw [h12] at hm
                dsimp only at hm
                refine ev_callS (N := mX10_within) (d' := 1) (bc := 0) (bs := 0) (bc' := 0) (bs' := 0) (as := [.int p3, .int 20]) (rest := []) (dcd tokX10_canSeek rfl) okX10_within inX10_within lk10_153 rfl (by decide) (Nat.le_of_ble_eq_true rfl) (gpX10_within x S9 p3 20 _ _ h12) (fun v h' hq hn => ?_)
                obtain ⟨rfl, rfl⟩ := hq
                refine Ev.steps tokX10_canSeek 1 (P := True) (pc' := if r14 = 0 then 38 else 34) (lv' := [some (.ref 0), some (.int p1), some (.int p2), some (.int p3)]) (st' := []) (h' := mkS x S15) rfl trivial ?_
                refine Ev.ite (fun c16 => ?_) (fun c16 => ?_)
                · rw [if_pos c16] at hm
                  refine Ev.fgt (lv' := [none, none, none, none]) trivial ?_
                  exact bpX10_canSeek_0_38 x S15 _ _ hm
                · rw [if_neg c16] at hm
                  refine Ev.fgt (lv' := [none, none, none, none]) trivial ?_
                  exact bpX10_canSeek_0_34 x S15 _ _ hm
theorem gpX10_canSeek_0 (x : XT) (S : ST) (p1 : Int32) (p2 : Int32) (p3 : Int32) (r : Int32) (S' : ST) (hm : gfX10_canSeek_0 x S p1 p2 p3 = some (r, S')) : Ct mX10_canSeek 2 0 0 [.ref 0, .int p1, .int p2, .int p3] (mkS x S) (fun v h => v = some (.int r) ∧ h = mkS x S') :=
  Ct.of (lv := [some (.ref 0), some (.int p1), some (.int p2), some (.int p3)]) rfl rfl rfl (show (_ : Nat) ≤ _ from Nat.le_of_ble_eq_true rfl) (fun G => rfl) (bpX10_canSeek_0_0 x S p1 p2 p3 r S' hm)
set_option maxHeartbeats 4000000 in
set_option maxRecDepth 20000 in
theorem bpX7_copyFrom_55_1_252 (x : XT) (k252 : ST → Int32 → Option (Unit × ST)) (hk252 : ∀ (S : ST) (v2 : Int32) (r : Unit) (S' : ST), k252 S v2 = some (r, S') → Ev mX7_copyFrom 1 0 0 252 [some (.ref 55), some (.ref 1), some (.int v2)] [] (mkS x S) (fun v h => v = none ∧ h = mkS x S')) (S : ST) (v2 : Int32) (r : Unit) (S' : ST) (hm : bfX7_copyFrom_55_1_252 x k252 S v2 = some (r, S')) : Ev mX7_copyFrom 1 0 0 252 [some (.ref 55), some (.ref 1), some (.int v2)] [] (mkS x S) (fun v h => v = none ∧ h = mkS x S') := by
    unfold bfX7_copyFrom_55_1_252 at hm
    refine Ev.steps tokX7_copyFrom 3 (P := True) (pc' := if 6 ≤ v2 then 276 else 258) (lv' := [some (.ref 55), some (.ref 1), some (.int v2)]) (st' := []) (h' := mkS x S) rfl trivial ?_
    refine Ev.ite (fun c1 => ?_) (fun c1 => ?_)
    · rw [if_pos c1] at hm
      cases hm
      exact Ev.retv tokX7_copyFrom rfl rfl ⟨rfl, rfl⟩
    · rw [if_neg c1] at hm
      obtain ⟨o2, hm⟩ := oblk hm
      refine Ev.steps tokX7_copyFrom 7 (P := vp_in v2 6 ∧ True) (pc' := 269) (lv' := [some (.ref 55), some (.ref 1), some (.int v2)]) (st' := [va_rf (S.2.2.2 15 v2.toNatClampNeg), .int v2, .ref 69]) (h' := mkS x S) rfl ⟨inb_ok o2, trivial⟩ ?_
      obtain ⟨o3, hm⟩ := oblk hm
      obtain ⟨o4, hm⟩ := oblk hm
      refine ev_aast (kd := 17) (ci := 9) (r := (S.2.2.2 15 v2.toNatClampNeg)) (dcd tokX7_copyFrom rfl) rfl (Or.inr ⟨rfl, rfl⟩) (inb_ok o3) (qk_ok o4) ?_
      refine Ev.steps tokX7_copyFrom 2 (P := True) (pc' := 252) (lv' := [some (.ref 55), some (.ref 1), some (.int (v2 + 1))]) (st' := []) (h' := mkS x (S.1, S.2.1, S.2.2.1, (u2 S.2.2.2 69 v2.toNatClampNeg (S.2.2.2 15 v2.toNatClampNeg)))) rfl trivial ?_
      exact hk252 (S.1, S.2.1, S.2.2.1, (u2 S.2.2.2 69 v2.toNatClampNeg (S.2.2.2 15 v2.toNatClampNeg))) (v2 + 1) _ _ hm
theorem lpX7_copyFrom_55_1_252 (x : XT)  : ∀ (n : Nat) (S : ST) (v2 : Int32) (r : Unit) (S' : ST), lfX7_copyFrom_55_1_252 x  n S v2 = some (r, S') → Ev mX7_copyFrom 1 0 0 252 [some (.ref 55), some (.ref 1), some (.int v2)] [] (mkS x S) (fun v h => v = none ∧ h = mkS x S')
  | 0, _, _, _, _, hm => by cases hm
  | n + 1, S, v2, r, S', hm => bpX7_copyFrom_55_1_252 x (lfX7_copyFrom_55_1_252 x  n) (lpX7_copyFrom_55_1_252 x  n) S v2 r S' hm
set_option maxHeartbeats 4000000 in
set_option maxRecDepth 20000 in
theorem bpX7_copyFrom_55_1_227 (x : XT) (k227 : ST → Int32 → Option (Unit × ST)) (hk227 : ∀ (S : ST) (v2 : Int32) (r : Unit) (S' : ST), k227 S v2 = some (r, S') → Ev mX7_copyFrom 1 0 0 227 [some (.ref 55), some (.ref 1), some (.int v2)] [] (mkS x S) (fun v h => v = none ∧ h = mkS x S')) (S : ST) (v2 : Int32) (r : Unit) (S' : ST) (hm : bfX7_copyFrom_55_1_227 x k227 S v2 = some (r, S')) : Ev mX7_copyFrom 1 0 0 227 [some (.ref 55), some (.ref 1), some (.int v2)] [] (mkS x S) (fun v h => v = none ∧ h = mkS x S') := by
    unfold bfX7_copyFrom_55_1_227 at hm
    refine Ev.steps tokX7_copyFrom 3 (P := True) (pc' := if 3 ≤ v2 then 250 else 232) (lv' := [some (.ref 55), some (.ref 1), some (.int v2)]) (st' := []) (h' := mkS x S) rfl trivial ?_
    refine Ev.ite (fun c1 => ?_) (fun c1 => ?_)
    · rw [if_pos c1] at hm
      refine Ev.steps tokX7_copyFrom 2 (P := True) (pc' := 252) (lv' := [some (.ref 55), some (.ref 1), some (.int 0)]) (st' := []) (h' := mkS x S) rfl trivial ?_
      exact lpX7_copyFrom_55_1_252 x  20000 S 0 _ _ hm
    · rw [if_neg c1] at hm
      obtain ⟨o2, hm⟩ := oblk hm
      obtain ⟨o3, hm⟩ := oblk hm
      refine Ev.steps tokX7_copyFrom 10 (P := vp_in v2 3 ∧ vp_in v2 3 ∧ True) (pc' := 227) (lv' := [some (.ref 55), some (.ref 1), some (.int (v2 + 1))]) (st' := []) (h' := mkS x (S.1, (u2 S.2.1 68 v2.toNatClampNeg (S.2.1 14 v2.toNatClampNeg)), S.2.2.1, S.2.2.2)) rfl ⟨inb_ok o2, inb_ok o3, trivial⟩ ?_
      exact hk227 (S.1, (u2 S.2.1 68 v2.toNatClampNeg (S.2.1 14 v2.toNatClampNeg)), S.2.2.1, S.2.2.2) (v2 + 1) _ _ hm
theorem lpX7_copyFrom_55_1_227 (x : XT)  : ∀ (n : Nat) (S : ST) (v2 : Int32) (r : Unit) (S' : ST), lfX7_copyFrom_55_1_227 x  n S v2 = some (r, S') → Ev mX7_copyFrom 1 0 0 227 [some (.ref 55), some (.ref 1), some (.int v2)] [] (mkS x S) (fun v h => v = none ∧ h = mkS x S')
  | 0, _, _, _, _, hm => by cases hm
  | n + 1, S, v2, r, S', hm => bpX7_copyFrom_55_1_227 x (lfX7_copyFrom_55_1_227 x  n) (lpX7_copyFrom_55_1_227 x  n) S v2 r S' hm
set_option maxHeartbeats 4000000 in
set_option maxRecDepth 20000 in
theorem bpX7_copyFrom_55_1_177 (x : XT) (k177 : ST → Int32 → Option (Unit × ST)) (hk177 : ∀ (S : ST) (v2 : Int32) (r : Unit) (S' : ST), k177 S v2 = some (r, S') → Ev mX7_copyFrom 1 0 0 177 [some (.ref 55), some (.ref 1), some (.int v2)] [] (mkS x S) (fun v h => v = none ∧ h = mkS x S')) (S : ST) (v2 : Int32) (r : Unit) (S' : ST) (hm : bfX7_copyFrom_55_1_177 x k177 S v2 = some (r, S')) : Ev mX7_copyFrom 1 0 0 177 [some (.ref 55), some (.ref 1), some (.int v2)] [] (mkS x S) (fun v h => v = none ∧ h = mkS x S') := by
    unfold bfX7_copyFrom_55_1_177 at hm
    refine Ev.steps tokX7_copyFrom 3 (P := True) (pc' := if 6 ≤ v2 then 225 else 183) (lv' := [some (.ref 55), some (.ref 1), some (.int v2)]) (st' := []) (h' := mkS x S) rfl trivial ?_
    refine Ev.ite (fun c1 => ?_) (fun c1 => ?_)
    · rw [if_pos c1] at hm
      refine Ev.steps tokX7_copyFrom 2 (P := True) (pc' := 227) (lv' := [some (.ref 55), some (.ref 1), some (.int 0)]) (st' := []) (h' := mkS x S) rfl trivial ?_
      exact lpX7_copyFrom_55_1_227 x  20000 S 0 _ _ hm
    · rw [if_neg c1] at hm
      obtain ⟨o2, hm⟩ := oblk hm
      obtain ⟨o3, hm⟩ := oblk hm
      obtain ⟨o4, hm⟩ := oblk hm
      obtain ⟨o5, hm⟩ := oblk hm
      obtain ⟨o6, hm⟩ := oblk hm
      obtain ⟨o7, hm⟩ := oblk hm
      refine Ev.steps tokX7_copyFrom 26 (P := vp_in v2 6 ∧ vp_in v2 6 ∧ vp_in v2 6 ∧ vp_in v2 6 ∧ vp_in v2 6 ∧ vp_in v2 6 ∧ True) (pc' := 177) (lv' := [some (.ref 55), some (.ref 1), some (.int (v2 + 1))]) (st' := []) (h' := mkS x (S.1, (u2 (u2 (u2 S.2.1 65 v2.toNatClampNeg (S.2.1 11 v2.toNatClampNeg)) 66 v2.toNatClampNeg (S.2.1 12 v2.toNatClampNeg)) 67 v2.toNatClampNeg (S.2.1 13 v2.toNatClampNeg)), S.2.2.1, S.2.2.2)) rfl ⟨inb_ok o2, inb_ok o3, inb_ok o4, inb_ok o5, inb_ok o6, inb_ok o7, trivial⟩ ?_
      exact hk177 (S.1, (u2 (u2 (u2 S.2.1 65 v2.toNatClampNeg (S.2.1 11 v2.toNatClampNeg)) 66 v2.toNatClampNeg (S.2.1 12 v2.toNatClampNeg)) 67 v2.toNatClampNeg (S.2.1 13 v2.toNatClampNeg)), S.2.2.1, S.2.2.2) (v2 + 1) _ _ hm
theorem lpX7_copyFrom_55_1_177 (x : XT)  : ∀ (n : Nat) (S : ST) (v2 : Int32) (r : Unit) (S' : ST), lfX7_copyFrom_55_1_177 x  n S v2 = some (r, S') → Ev mX7_copyFrom 1 0 0 177 [some (.ref 55), some (.ref 1), some (.int v2)] [] (mkS x S) (fun v h => v = none ∧ h = mkS x S')
  | 0, _, _, _, _, hm => by cases hm
  | n + 1, S, v2, r, S', hm => bpX7_copyFrom_55_1_177 x (lfX7_copyFrom_55_1_177 x  n) (lpX7_copyFrom_55_1_177 x  n) S v2 r S' hm
set_option maxHeartbeats 4000000 in
set_option maxRecDepth 20000 in
theorem bpX7_copyFrom_55_1_116 (x : XT) (k116 : ST → Int32 → Option (Unit × ST)) (hk116 : ∀ (S : ST) (v2 : Int32) (r : Unit) (S' : ST), k116 S v2 = some (r, S') → Ev mX7_copyFrom 1 0 0 116 [some (.ref 55), some (.ref 1), some (.int v2)] [] (mkS x S) (fun v h => v = none ∧ h = mkS x S')) (S : ST) (v2 : Int32) (r : Unit) (S' : ST) (hm : bfX7_copyFrom_55_1_116 x k116 S v2 = some (r, S')) : Ev mX7_copyFrom 1 0 0 116 [some (.ref 55), some (.ref 1), some (.int v2)] [] (mkS x S) (fun v h => v = none ∧ h = mkS x S') := by
    unfold bfX7_copyFrom_55_1_116 at hm
    refine Ev.steps tokX7_copyFrom 3 (P := True) (pc' := if 5 ≤ v2 then 175 else 121) (lv' := [some (.ref 55), some (.ref 1), some (.int v2)]) (st' := []) (h' := mkS x S) rfl trivial ?_
    refine Ev.ite (fun c1 => ?_) (fun c1 => ?_)
    · rw [if_pos c1] at hm
      refine Ev.steps tokX7_copyFrom 2 (P := True) (pc' := 177) (lv' := [some (.ref 55), some (.ref 1), some (.int 0)]) (st' := []) (h' := mkS x S) rfl trivial ?_
      exact lpX7_copyFrom_55_1_177 x  20000 S 0 _ _ hm
    · rw [if_neg c1] at hm
      obtain ⟨o2, hm⟩ := oblk hm
      obtain ⟨o3, hm⟩ := oblk hm
      obtain ⟨o4, hm⟩ := oblk hm
      obtain ⟨o5, hm⟩ := oblk hm
      obtain ⟨o6, hm⟩ := oblk hm
      obtain ⟨o7, hm⟩ := oblk hm
      obtain ⟨o8, hm⟩ := oblk hm
      obtain ⟨o9, hm⟩ := oblk hm
      refine Ev.steps tokX7_copyFrom 34 (P := vp_in v2 5 ∧ vp_in v2 5 ∧ vp_in v2 5 ∧ vp_in v2 5 ∧ vp_in v2 5 ∧ vp_in v2 5 ∧ vp_in v2 5 ∧ vp_in v2 5 ∧ True) (pc' := 116) (lv' := [some (.ref 55), some (.ref 1), some (.int (v2 + 1))]) (st' := []) (h' := mkS x (S.1, (u2 (u2 (u2 (u2 S.2.1 61 v2.toNatClampNeg (S.2.1 7 v2.toNatClampNeg)) 62 v2.toNatClampNeg (S.2.1 8 v2.toNatClampNeg)) 63 v2.toNatClampNeg (S.2.1 9 v2.toNatClampNeg)) 64 v2.toNatClampNeg (S.2.1 10 v2.toNatClampNeg)), S.2.2.1, S.2.2.2)) rfl ⟨inb_ok o2, inb_ok o3, inb_ok o4, inb_ok o5, inb_ok o6, inb_ok o7, inb_ok o8, inb_ok o9, trivial⟩ ?_
      exact hk116 (S.1, (u2 (u2 (u2 (u2 S.2.1 61 v2.toNatClampNeg (S.2.1 7 v2.toNatClampNeg)) 62 v2.toNatClampNeg (S.2.1 8 v2.toNatClampNeg)) 63 v2.toNatClampNeg (S.2.1 9 v2.toNatClampNeg)) 64 v2.toNatClampNeg (S.2.1 10 v2.toNatClampNeg)), S.2.2.1, S.2.2.2) (v2 + 1) _ _ hm
theorem lpX7_copyFrom_55_1_116 (x : XT)  : ∀ (n : Nat) (S : ST) (v2 : Int32) (r : Unit) (S' : ST), lfX7_copyFrom_55_1_116 x  n S v2 = some (r, S') → Ev mX7_copyFrom 1 0 0 116 [some (.ref 55), some (.ref 1), some (.int v2)] [] (mkS x S) (fun v h => v = none ∧ h = mkS x S')
  | 0, _, _, _, _, hm => by cases hm
  | n + 1, S, v2, r, S', hm => bpX7_copyFrom_55_1_116 x (lfX7_copyFrom_55_1_116 x  n) (lpX7_copyFrom_55_1_116 x  n) S v2 r S' hm
set_option maxHeartbeats 4000000 in
set_option maxRecDepth 20000 in
theorem bpX7_copyFrom_55_1_42 (x : XT) (k42 : ST → Int32 → Option (Unit × ST)) (hk42 : ∀ (S : ST) (v2 : Int32) (r : Unit) (S' : ST), k42 S v2 = some (r, S') → Ev mX7_copyFrom 1 0 0 42 [some (.ref 55), some (.ref 1), some (.int v2)] [] (mkS x S) (fun v h => v = none ∧ h = mkS x S')) (S : ST) (v2 : Int32) (r : Unit) (S' : ST) (hm : bfX7_copyFrom_55_1_42 x k42 S v2 = some (r, S')) : Ev mX7_copyFrom 1 0 0 42 [some (.ref 55), some (.ref 1), some (.int v2)] [] (mkS x S) (fun v h => v = none ∧ h = mkS x S') := by
    unfold bfX7_copyFrom_55_1_42 at hm
    refine Ev.steps tokX7_copyFrom 3 (P := True) (pc' := if 10 ≤ v2 then 114 else 48) (lv' := [some (.ref 55), some (.ref 1), some (.int v2)]) (st' := []) (h' := mkS x S) rfl trivial ?_
    refine Ev.ite (fun c1 => ?_) (fun c1 => ?_)
    · rw [if_pos c1] at hm
      refine Ev.steps tokX7_copyFrom 2 (P := True) (pc' := 116) (lv' := [some (.ref 55), some (.ref 1), some (.int 0)]) (st' := []) (h' := mkS x S) rfl trivial ?_
      exact lpX7_copyFrom_55_1_116 x  20000 S 0 _ _ hm
    · rw [if_neg c1] at hm
      obtain ⟨o2, hm⟩ := oblk hm
      obtain ⟨o3, hm⟩ := oblk hm
      obtain ⟨o4, hm⟩ := oblk hm
      obtain ⟨o5, hm⟩ := oblk hm
      obtain ⟨o6, hm⟩ := oblk hm
      obtain ⟨o7, hm⟩ := oblk hm
      obtain ⟨o8, hm⟩ := oblk hm
      obtain ⟨o9, hm⟩ := oblk hm
      obtain ⟨o10, hm⟩ := oblk hm
      obtain ⟨o11, hm⟩ := oblk hm
      refine Ev.steps tokX7_copyFrom 42 (P := vp_in v2 10 ∧ vp_in v2 10 ∧ vp_in v2 10 ∧ vp_in v2 10 ∧ vp_in v2 10 ∧ vp_in v2 10 ∧ vp_in v2 10 ∧ vp_in v2 10 ∧ vp_in v2 10 ∧ vp_in v2 10 ∧ True) (pc' := 42) (lv' := [some (.ref 55), some (.ref 1), some (.int (v2 + 1))]) (st' := []) (h' := mkS x (S.1, (u2 (u2 (u2 (u2 (u2 S.2.1 56 v2.toNatClampNeg (S.2.1 2 v2.toNatClampNeg)) 57 v2.toNatClampNeg (S.2.1 3 v2.toNatClampNeg)) 58 v2.toNatClampNeg (S.2.1 4 v2.toNatClampNeg)) 59 v2.toNatClampNeg (S.2.1 5 v2.toNatClampNeg)) 60 v2.toNatClampNeg (vp_nar .boolean (S.2.1 6 v2.toNatClampNeg))), S.2.2.1, S.2.2.2)) rfl ⟨inb_ok o2, inb_ok o3, inb_ok o4, inb_ok o5, inb_ok o6, inb_ok o7, inb_ok o8, inb_ok o9, inb_ok o10, inb_ok o11, trivial⟩ ?_
      exact hk42 (S.1, (u2 (u2 (u2 (u2 (u2 S.2.1 56 v2.toNatClampNeg (S.2.1 2 v2.toNatClampNeg)) 57 v2.toNatClampNeg (S.2.1 3 v2.toNatClampNeg)) 58 v2.toNatClampNeg (S.2.1 4 v2.toNatClampNeg)) 59 v2.toNatClampNeg (S.2.1 5 v2.toNatClampNeg)) 60 v2.toNatClampNeg (vp_nar .boolean (S.2.1 6 v2.toNatClampNeg))), S.2.2.1, S.2.2.2) (v2 + 1) _ _ hm
theorem lpX7_copyFrom_55_1_42 (x : XT)  : ∀ (n : Nat) (S : ST) (v2 : Int32) (r : Unit) (S' : ST), lfX7_copyFrom_55_1_42 x  n S v2 = some (r, S') → Ev mX7_copyFrom 1 0 0 42 [some (.ref 55), some (.ref 1), some (.int v2)] [] (mkS x S) (fun v h => v = none ∧ h = mkS x S')
  | 0, _, _, _, _, hm => by cases hm
  | n + 1, S, v2, r, S', hm => bpX7_copyFrom_55_1_42 x (lfX7_copyFrom_55_1_42 x  n) (lpX7_copyFrom_55_1_42 x  n) S v2 r S' hm
set_option maxHeartbeats 4000000 in
set_option maxRecDepth 20000 in
theorem bpX7_copyFrom_55_1_0 (x : XT)  (S : ST)  (r : Unit) (S' : ST) (hm : bfX7_copyFrom_55_1_0 x  S  = some (r, S')) : Ev mX7_copyFrom 1 0 0 0 [some (.ref 55), some (.ref 1), none] [] (mkS x S) (fun v h => v = none ∧ h = mkS x S') := by
    unfold bfX7_copyFrom_55_1_0 at hm
    refine Ev.steps tokX7_copyFrom 22 (P := True) (pc' := 42) (lv' := [some (.ref 55), some (.ref 1), some (.int 0)]) (st' := []) (h' := mkS x ((u2 (u2 (u2 (u2 (u2 S.1 55 0 (S.1 1 0)) 55 6 (S.1 1 6)) 55 11 (S.1 1 11)) 55 16 (S.1 1 16)) 55 18 (S.1 1 18)), S.2.1, S.2.2.1, S.2.2.2)) rfl trivial ?_
    exact lpX7_copyFrom_55_1_42 x  20000 ((u2 (u2 (u2 (u2 (u2 S.1 55 0 (S.1 1 0)) 55 6 (S.1 1 6)) 55 11 (S.1 1 11)) 55 16 (S.1 1 16)) 55 18 (S.1 1 18)), S.2.1, S.2.2.1, S.2.2.2) 0 _ _ hm
theorem gpX7_copyFrom_55_1 (x : XT) (S : ST)  (r : Unit) (S' : ST) (hm : gfX7_copyFrom_55_1 x S  = some (r, S')) : Ct mX7_copyFrom 1 0 0 [.ref 55, .ref 1] (mkS x S) (fun v h => v = none ∧ h = mkS x S') :=
  Ct.of (lv := [some (.ref 55), some (.ref 1), none]) rfl rfl rfl (show (_ : Nat) ≤ _ from Nat.le_of_ble_eq_true rfl) (fun G => rfl) (bpX7_copyFrom_55_1_0 x S  r S' hm)
set_option maxHeartbeats 4000000 in
set_option maxRecDepth 20000 in
theorem bpJ7_fill_53178_70_5 (x : XT) (k5 : ST → Int32 → Int32 → Int32 → Option (Unit × ST)) (hk5 : ∀ (S : ST) (v1 : Int32) (v2 : Int32) (v3 : Int32) (r : Unit) (S' : ST), k5 S v1 v2 v3 = some (r, S') → Ev mJ7_fill_53178 1 0 0 5 [some (.ref 70), some (.int v1), some (.int v2), some (.int v3)] [] (mkS x S) (fun v h => v = none ∧ h = mkS x S')) (S : ST) (v1 : Int32) (v2 : Int32) (v3 : Int32) (r : Unit) (S' : ST) (hm : bfJ7_fill_53178_70_5 x k5 S v1 v2 v3 = some (r, S')) : Ev mJ7_fill_53178 1 0 0 5 [some (.ref 70), some (.int v1), some (.int v2), some (.int v3)] [] (mkS x S) (fun v h => v = none ∧ h = mkS x S') := by
    unfold bfJ7_fill_53178_70_5 at hm
    refine Ev.steps tokJ7_fill_53178 3 (P := True) (pc' := if v3 ≤ v2 then 20 else 10) (lv' := [some (.ref 70), some (.int v1), some (.int v2), some (.int v3)]) (st' := []) (h' := mkS x S) rfl trivial ?_
    refine Ev.ite (fun c1 => ?_) (fun c1 => ?_)
    · rw [if_pos c1] at hm
      cases hm
      exact Ev.retv tokJ7_fill_53178 rfl rfl ⟨rfl, rfl⟩
    · rw [if_neg c1] at hm
      obtain ⟨o2, hm⟩ := oblk hm
      refine Ev.steps tokJ7_fill_53178 6 (P := vp_in v2 200 ∧ True) (pc' := 5) (lv' := [some (.ref 70), some (.int v1), some (.int (v2 + 1)), some (.int v3)]) (st' := []) (h' := mkS x (S.1, (u2 S.2.1 70 v2.toNatClampNeg v1), S.2.2.1, S.2.2.2)) rfl ⟨inb_ok o2, trivial⟩ ?_
      exact hk5 (S.1, (u2 S.2.1 70 v2.toNatClampNeg v1), S.2.2.1, S.2.2.2) v1 (v2 + 1) v3 _ _ hm
theorem lpJ7_fill_53178_70_5 (x : XT)  : ∀ (n : Nat) (S : ST) (v1 : Int32) (v2 : Int32) (v3 : Int32) (r : Unit) (S' : ST), lfJ7_fill_53178_70_5 x  n S v1 v2 v3 = some (r, S') → Ev mJ7_fill_53178 1 0 0 5 [some (.ref 70), some (.int v1), some (.int v2), some (.int v3)] [] (mkS x S) (fun v h => v = none ∧ h = mkS x S')
  | 0, _, _, _, _, _, _, hm => by cases hm
  | n + 1, S, v1, v2, v3, r, S', hm => bpJ7_fill_53178_70_5 x (lfJ7_fill_53178_70_5 x  n) (lpJ7_fill_53178_70_5 x  n) S v1 v2 v3 r S' hm
set_option maxHeartbeats 4000000 in
set_option maxRecDepth 20000 in
theorem bpJ7_fill_53178_70_0 (x : XT)  (S : ST) (p1 : Int32) (r : Unit) (S' : ST) (hm : bfJ7_fill_53178_70_0 x  S p1 = some (r, S')) : Ev mJ7_fill_53178 1 0 0 0 [some (.ref 70), some (.int p1), none, none] [] (mkS x S) (fun v h => v = none ∧ h = mkS x S') := by
    unfold bfJ7_fill_53178_70_0 at hm
    refine Ev.steps tokJ7_fill_53178 5 (P := True) (pc' := 5) (lv' := [some (.ref 70), some (.int p1), some (.int 0), some (.int 200)]) (st' := []) (h' := mkS x S) rfl trivial ?_
    exact lpJ7_fill_53178_70_5 x  20000 S p1 0 200 _ _ hm
theorem gpJ7_fill_53178_70 (x : XT) (S : ST) (p1 : Int32) (r : Unit) (S' : ST) (hm : gfJ7_fill_53178_70 x S p1 = some (r, S')) : Ct mJ7_fill_53178 1 0 0 [.ref 70, .int p1] (mkS x S) (fun v h => v = none ∧ h = mkS x S') :=
  Ct.of (lv := [some (.ref 70), some (.int p1), none, none]) rfl rfl rfl (show (_ : Nat) ≤ _ from Nat.le_of_ble_eq_true rfl) (fun G => rfl) (bpJ7_fill_53178_70_0 x S p1 r S' hm)
set_option maxHeartbeats 4000000 in
set_option maxRecDepth 20000 in
theorem bpX6_begin_54_1_0 (x : XT)  (S : ST) (p2 : Int32) (r : Unit) (S' : ST) (hm : bfX6_begin_54_1_0 x  S p2 = some (r, S')) : Ev mX6_begin 2 0 0 0 [some (.ref 54), some (.ref 1), some (.int p2)] [] (mkS x S) (fun v h => v = none ∧ h = mkS x S') := by
    unfold bfX6_begin_54_1_0 at hm
    refine Ev.steps tokX6_begin 3 (P := True) (pc' := 5) (lv' := [some (.ref 54), some (.ref 1), some (.int p2)]) (st' := [.ref 1, .ref 55]) (h' := mkS x S) rfl trivial ?_
    cases h1 : gfX7_copyFrom_55_1 x S with
    | none => rw [h1] at hm; cases hm
    | some q2 =>
      obtain ⟨r3, S4⟩ := q2
      rw [h1] at hm
      dsimp only at hm
      refine ev_callV (N := mX7_copyFrom) (d' := 1) (bc := 0) (bs := 0) (bc' := 0) (bs' := 0) (as := [.ref 1]) (rest := []) (a := 55) (ci := 7) (dcd tokX6_begin rfl) okX7_copyFrom inX7_copyFrom seX7_copyFrom lk6_58 rfl (by decide) (Nat.le_of_ble_eq_true rfl) rfl ⟨by decide, rfl⟩ (gpX7_copyFrom_55_1 x S _ _ h1) (fun v h' hq hn => ?_)
      obtain ⟨rfl, rfl⟩ := hq
      refine Ev.steps tokX6_begin 6 (P := True) (pc' := 19) (lv' := [some (.ref 54), some (.ref 1), some (.int p2)]) (st' := [.int (-2), .ref 70]) (h' := mkS x ((u2 S4.1 54 2 p2), S4.2.1, S4.2.2.1, S4.2.2.2)) rfl trivial ?_
      cases h5 : gfJ7_fill_53178_70 x ((u2 S4.1 54 2 p2), S4.2.1, S4.2.2.1, S4.2.2.2) (-2) with
      | none => rw [h5] at hm; cases hm
      | some q6 =>
        obtain ⟨r7, S8⟩ := q6
        rw [h5] at hm
        dsimp only at hm
        refine ev_callS (N := mJ7_fill_53178) (d' := 1) (bc := 0) (bs := 0) (bc' := 0) (bs' := 0) (as := [.ref 70, .int (-2)]) (rest := []) (dcd tokX6_begin rfl) okJ7_fill_53178 inJ7_fill_53178 lk6_62 rfl (by decide) (Nat.le_of_ble_eq_true rfl) (gpJ7_fill_53178_70 x ((u2 S4.1 54 2 p2), S4.2.1, S4.2.2.1, S4.2.2.2) (-2) _ _ h5) (fun v h' hq hn => ?_)
        obtain ⟨rfl, rfl⟩ := hq
        cases hm
        exact Ev.retv tokX6_begin rfl rfl ⟨rfl, rfl⟩
theorem gpX6_begin_54_1 (x : XT) (S : ST) (p2 : Int32) (r : Unit) (S' : ST) (hm : gfX6_begin_54_1 x S p2 = some (r, S')) : Ct mX6_begin 2 0 0 [.ref 54, .ref 1, .int p2] (mkS x S) (fun v h => v = none ∧ h = mkS x S') :=
  Ct.of (lv := [some (.ref 54), some (.ref 1), some (.int p2)]) rfl rfl rfl (show (_ : Nat) ≤ _ from Nat.le_of_ble_eq_true rfl) (fun G => rfl) (bpX6_begin_54_1_0 x S p2 r S' hm)
set_option maxHeartbeats 4000000 in
set_option maxRecDepth 20000 in
theorem bpX6_isAt_26 (x : XT)  (S : ST) (t0 : Int32) (r : Int32) (S' : ST) (hm : bfX6_isAt_26 x  S t0 = some (r, S')) : Ev mX6_isAt 1 0 0 26 [none, none, none] [.int t0] (mkS x S) (fun v h => v = some (.int r) ∧ h = mkS x S') := by
    unfold bfX6_isAt_26 at hm
    obtain ⟨o1, hm⟩ := oblk hm
    cases hm
    exact Ev.retz tokX6_isAt rfl rfl (bbz_ok o1) ⟨rfl, rfl⟩
set_option maxHeartbeats 4000000 in
set_option maxRecDepth 20000 in
theorem bpX6_isAt_25 (x : XT)  (S : ST)  (r : Int32) (S' : ST) (hm : bfX6_isAt_25 x  S  = some (r, S')) : Ev mX6_isAt 1 0 0 25 [none, none, none] [] (mkS x S) (fun v h => v = some (.int r) ∧ h = mkS x S') := by
    unfold bfX6_isAt_25 at hm
    refine Ev.steps tokX6_isAt 1 (P := True) (pc' := 26) (lv' := [none, none, none]) (st' := [.int 0]) (h' := mkS x S) rfl trivial ?_
    exact bpX6_isAt_26 x S 0 _ _ hm
set_option maxHeartbeats 4000000 in
set_option maxRecDepth 20000 in
theorem bpX6_isAt_21 (x : XT)  (S : ST)  (r : Int32) (S' : ST) (hm : bfX6_isAt_21 x  S  = some (r, S')) : Ev mX6_isAt 1 0 0 21 [none, none, none] [] (mkS x S) (fun v h => v = some (.int r) ∧ h = mkS x S') := by
    unfold bfX6_isAt_21 at hm
    refine Ev.steps tokX6_isAt 2 (P := True) (pc' := 26) (lv' := [none, none, none]) (st' := [.int 1]) (h' := mkS x S) rfl trivial ?_
    exact bpX6_isAt_26 x S 1 _ _ hm
set_option maxHeartbeats 4000000 in
set_option maxRecDepth 20000 in
theorem bpX6_isAt_0 (x : XT)  (S : ST) (p0 : Int32) (p1 : Int32) (p2 : Int32) (r : Int32) (S' : ST) (hm : bfX6_isAt_0 x  S p0 p1 p2 = some (r, S')) : Ev mX6_isAt 1 0 0 0 [some (.int p0), some (.int p1), some (.int p2)] [] (mkS x S) (fun v h => v = some (.int r) ∧ h = mkS x S') := by
    unfold bfX6_isAt_0 at hm
    refine Ev.steps tokX6_isAt 5 (P := ¬ 20 = 0 ∧ True) (pc' := if ¬ (p0 / 20) = p1 then 25 else 8) (lv' := [some (.int p0), some (.int p1), some (.int p2)]) (st' := []) (h' := mkS x S) rfl ⟨(by decide), trivial⟩ ?_
    refine Ev.ite (fun c1 => ?_) (fun c1 => ?_)
    · rw [if_pos c1] at hm
      refine Ev.fgt (lv' := [none, none, none]) trivial ?_
      exact bpX6_isAt_25 x S _ _ hm
    · rw [if_neg c1] at hm
      refine Ev.steps tokX6_isAt 3 (P := True) (pc' := if p2 = (-1) then 21 else 13) (lv' := [some (.int p0), some (.int p1), some (.int p2)]) (st' := []) (h' := mkS x S) rfl trivial ?_
      refine Ev.ite (fun c2 => ?_) (fun c2 => ?_)
      · rw [if_pos c2] at hm
        refine Ev.fgt (lv' := [none, none, none]) trivial ?_
        exact bpX6_isAt_21 x S _ _ hm
      · rw [if_neg c2] at hm
        refine Ev.steps tokX6_isAt 5 (P := ¬ 20 = 0 ∧ True) (pc' := if ¬ (p0 - p0 / 20 * 20) = p2 then 25 else 21) (lv' := [some (.int p0), some (.int p1), some (.int p2)]) (st' := []) (h' := mkS x S) rfl ⟨(by decide), trivial⟩ ?_
        refine Ev.ite (fun c3 => ?_) (fun c3 => ?_)
        · rw [if_pos c3] at hm
          refine Ev.fgt (lv' := [none, none, none]) trivial ?_
          exact bpX6_isAt_25 x S _ _ hm
        · rw [if_neg c3] at hm
          refine Ev.fgt (lv' := [none, none, none]) trivial ?_
          exact bpX6_isAt_21 x S _ _ hm
theorem gpX6_isAt (x : XT) (S : ST) (p0 : Int32) (p1 : Int32) (p2 : Int32) (r : Int32) (S' : ST) (hm : gfX6_isAt x S p0 p1 p2 = some (r, S')) : Ct mX6_isAt 1 0 0 [.int p0, .int p1, .int p2] (mkS x S) (fun v h => v = some (.int r) ∧ h = mkS x S') :=
  Ct.of (lv := [some (.int p0), some (.int p1), some (.int p2)]) rfl rfl rfl (show (_ : Nat) ≤ _ from Nat.le_of_ble_eq_true rfl) (fun G => rfl) (bpX6_isAt_0 x S p0 p1 p2 r S' hm)
set_option maxHeartbeats 4000000 in
set_option maxRecDepth 20000 in
theorem bpX0_regardUnknown_20_55_0 (x : XT)  (S : ST) (p2 : Int32) (p3 : Int32) (p4 : Int32) (r : Unit) (S' : ST) (hm : bfX0_regardUnknown_20_55_0 x  S p2 p3 p4 = some (r, S')) : Ev mX0_regardUnknown 1 0 0 0 [some (.ref 20), some (.ref 55), some (.int p2), some (.int p3), some (.int p4)] [] (mkS x S) (fun v h => v = none ∧ h = mkS x S') := by
    unfold bfX0_regardUnknown_20_55_0 at hm
    refine Ev.steps tokX0_regardUnknown 46 (P := vp_in 0 8 ∧ vp_in 1 8 ∧ vp_in 2 8 ∧ vp_in 3 8 ∧ vp_in 4 8 ∧ vp_in 5 8 ∧ vp_in 0 3 ∧ vp_in 6 8 ∧ vp_in 2 3 ∧ vp_in 7 8 ∧ True) (pc' := 69) (lv' := [some (.ref 20), some (.ref 55), some (.int p2), some (.int p3), some (.int p4)]) (st' := []) (h' := mkS x (S.1, (u2 (u2 (u2 (u2 (u2 (u2 (u2 (u2 S.2.1 21 0 p2) 21 1 p3) 21 2 p4) 21 3 0) 21 4 (-1)) 21 5 (-1)) 21 6 (S.2.1 68 0)) 21 7 (S.2.1 68 2)), S.2.2.1, S.2.2.2)) rfl ⟨(by unfold vp_in; decide), (by unfold vp_in; decide), (by unfold vp_in; decide), (by unfold vp_in; decide), (by unfold vp_in; decide), (by unfold vp_in; decide), (by unfold vp_in; decide), (by unfold vp_in; decide), (by unfold vp_in; decide), (by unfold vp_in; decide), trivial⟩ ?_
    cases hm
    exact Ev.retv tokX0_regardUnknown rfl rfl ⟨rfl, rfl⟩
theorem gpX0_regardUnknown_20_55 (x : XT) (S : ST) (p2 : Int32) (p3 : Int32) (p4 : Int32) (r : Unit) (S' : ST) (hm : gfX0_regardUnknown_20_55 x S p2 p3 p4 = some (r, S')) : Ct mX0_regardUnknown 1 0 0 [.ref 20, .ref 55, .int p2, .int p3, .int p4] (mkS x S) (fun v h => v = none ∧ h = mkS x S') :=
  Ct.of (lv := [some (.ref 20), some (.ref 55), some (.int p2), some (.int p3), some (.int p4)]) rfl rfl rfl (show (_ : Nat) ≤ _ from Nat.le_of_ble_eq_true rfl) (fun G => rfl) (bpX0_regardUnknown_20_55_0 x S p2 p3 p4 r S' hm)
set_option maxHeartbeats 4000000 in
set_option maxRecDepth 20000 in
theorem bpX0_regard_20_55_0 (x : XT)  (S : ST) (p2 : Int32) (p3 : Int32) (p4 : Int32) (r : Unit) (S' : ST) (hm : bfX0_regard_20_55_0 x  S p2 p3 p4 = some (r, S')) : Ev mX0_regard 2 0 0 0 [some (.ref 20), some (.ref 55), some (.int p2), some (.int p3), some (.int p4)] [] (mkS x S) (fun v h => v = none ∧ h = mkS x S') := by
    unfold bfX0_regard_20_55_0 at hm
    obtain ⟨o1, hm⟩ := oblk hm
    obtain ⟨o2, hm⟩ := oblk hm
    refine Ev.steps tokX0_regard 11 (P := vp_in p3 10 ∧ vp_in p3 10 ∧ True) (pc' := 16) (lv' := [some (.ref 20), some (.ref 55), some (.int p2), some (.int p3), some (.int p4)]) (st' := [.int p4, .int (S.2.1 59 p3.toNatClampNeg), .int (S.2.1 58 p3.toNatClampNeg), .ref 55, .ref 20]) (h' := mkS x S) rfl ⟨inb_ok o1, inb_ok o2, trivial⟩ ?_
    cases h3 : gfX0_regardUnknown_20_55 x S (S.2.1 58 p3.toNatClampNeg) (S.2.1 59 p3.toNatClampNeg) p4 with
    | none => rw [h3] at hm; cases hm
    | some q4 =>
      obtain ⟨r5, S6⟩ := q4
      rw [h3] at hm
      dsimp only at hm
      refine ev_callV (N := mX0_regardUnknown) (d' := 1) (bc := 0) (bs := 0) (bc' := 0) (bs' := 0) (as := [.ref 55, .int (S.2.1 58 p3.toNatClampNeg), .int (S.2.1 59 p3.toNatClampNeg), .int p4]) (rest := []) (a := 20) (ci := 0) (dcd tokX0_regard rfl) okX0_regardUnknown inX0_regardUnknown seX0_regardUnknown lk0_29 rfl (by decide) (Nat.le_of_ble_eq_true rfl) rfl ⟨by decide, rfl⟩ (gpX0_regardUnknown_20_55 x S (S.2.1 58 p3.toNatClampNeg) (S.2.1 59 p3.toNatClampNeg) p4 _ _ h3) (fun v h' hq hn => ?_)
      obtain ⟨rfl, rfl⟩ := hq
      obtain ⟨o7, hm⟩ := oblk hm
      refine Ev.steps tokX0_regard 18 (P := vp_in p2 5 ∧ vp_in 3 8 ∧ vp_in 4 8 ∧ vp_in 5 8 ∧ True) (pc' := 45) (lv' := [some (.ref 20), some (.ref 55), some (.int p2), some (.int p3), some (.int p4)]) (st' := []) (h' := mkS x (S6.1, (u2 (u2 (u2 S6.2.1 21 3 (S6.2.1 63 p2.toNatClampNeg)) 21 4 p3) 21 5 p2), S6.2.2.1, S6.2.2.2)) rfl ⟨inb_ok o7, (by unfold vp_in; decide), (by unfold vp_in; decide), (by unfold vp_in; decide), trivial⟩ ?_
      cases hm
      exact Ev.retv tokX0_regard rfl rfl ⟨rfl, rfl⟩
theorem gpX0_regard_20_55 (x : XT) (S : ST) (p2 : Int32) (p3 : Int32) (p4 : Int32) (r : Unit) (S' : ST) (hm : gfX0_regard_20_55 x S p2 p3 p4 = some (r, S')) : Ct mX0_regard 2 0 0 [.ref 20, .ref 55, .int p2, .int p3, .int p4] (mkS x S) (fun v h => v = none ∧ h = mkS x S') :=
  Ct.of (lv := [some (.ref 20), some (.ref 55), some (.int p2), some (.int p3), some (.int p4)]) rfl rfl rfl (show (_ : Nat) ≤ _ from Nat.le_of_ble_eq_true rfl) (fun G => rfl) (bpX0_regard_20_55_0 x S p2 p3 p4 r S' hm)
set_option maxHeartbeats 4000000 in
set_option maxRecDepth 20000 in
theorem bpX7_hasLaw_55_17 (x : XT)  (S : ST) (t0 : Int32) (r : Int32) (S' : ST) (hm : bfX7_hasLaw_55_17 x  S t0 = some (r, S')) : Ev mX7_hasLaw 1 0 0 17 [none, none] [.int t0] (mkS x S) (fun v h => v = some (.int r) ∧ h = mkS x S') := by
    unfold bfX7_hasLaw_55_17 at hm
    obtain ⟨o1, hm⟩ := oblk hm
    cases hm
    exact Ev.retz tokX7_hasLaw rfl rfl (bbz_ok o1) ⟨rfl, rfl⟩
set_option maxHeartbeats 4000000 in
set_option maxRecDepth 20000 in
theorem bpX7_hasLaw_55_16 (x : XT)  (S : ST)  (r : Int32) (S' : ST) (hm : bfX7_hasLaw_55_16 x  S  = some (r, S')) : Ev mX7_hasLaw 1 0 0 16 [none, none] [] (mkS x S) (fun v h => v = some (.int r) ∧ h = mkS x S') := by
    unfold bfX7_hasLaw_55_16 at hm
    refine Ev.steps tokX7_hasLaw 1 (P := True) (pc' := 17) (lv' := [none, none]) (st' := [.int 0]) (h' := mkS x S) rfl trivial ?_
    exact bpX7_hasLaw_55_17 x S 0 _ _ hm
set_option maxHeartbeats 4000000 in
set_option maxRecDepth 20000 in
theorem bpX7_hasLaw_55_0 (x : XT)  (S : ST) (p1 : Int32) (r : Int32) (S' : ST) (hm : bfX7_hasLaw_55_0 x  S p1 = some (r, S')) : Ev mX7_hasLaw 1 0 0 0 [some (.ref 55), some (.int p1)] [] (mkS x S) (fun v h => v = some (.int r) ∧ h = mkS x S') := by
    unfold bfX7_hasLaw_55_0 at hm
    refine Ev.steps tokX7_hasLaw 2 (P := True) (pc' := if p1 < 0 then 16 else 4) (lv' := [some (.ref 55), some (.int p1)]) (st' := []) (h' := mkS x S) rfl trivial ?_
    refine Ev.ite (fun c1 => ?_) (fun c1 => ?_)
    · rw [if_pos c1] at hm
      refine Ev.fgt (lv' := [none, none]) trivial ?_
      exact bpX7_hasLaw_55_16 x S _ _ hm
    · rw [if_neg c1] at hm
      refine Ev.steps tokX7_hasLaw 4 (P := True) (pc' := if (S.1 55 16) ≤ p1 then 16 else 12) (lv' := [some (.ref 55), some (.int p1)]) (st' := []) (h' := mkS x S) rfl trivial ?_
      refine Ev.ite (fun c2 => ?_) (fun c2 => ?_)
      · rw [if_pos c2] at hm
        refine Ev.fgt (lv' := [none, none]) trivial ?_
        exact bpX7_hasLaw_55_16 x S _ _ hm
      · rw [if_neg c2] at hm
        refine Ev.steps tokX7_hasLaw 2 (P := True) (pc' := 17) (lv' := [some (.ref 55), some (.int p1)]) (st' := [.int 1]) (h' := mkS x S) rfl trivial ?_
        refine Ev.fgt (lv' := [none, none]) trivial ?_
        exact bpX7_hasLaw_55_17 x S 1 _ _ hm
theorem gpX7_hasLaw_55 (x : XT) (S : ST) (p1 : Int32) (r : Int32) (S' : ST) (hm : gfX7_hasLaw_55 x S p1 = some (r, S')) : Ct mX7_hasLaw 1 0 0 [.ref 55, .int p1] (mkS x S) (fun v h => v = some (.int r) ∧ h = mkS x S') :=
  Ct.of (lv := [some (.ref 55), some (.int p1)]) rfl rfl rfl (show (_ : Nat) ≤ _ from Nat.le_of_ble_eq_true rfl) (fun G => rfl) (bpX7_hasLaw_55_0 x S p1 r S' hm)
set_option maxHeartbeats 4000000 in
set_option maxRecDepth 20000 in
theorem bpX7_inForce_55_24 (x : XT)  (S : ST) (t0 : Option Nat) (r : Option Nat) (S' : ST) (hm : bfX7_inForce_55_24 x  S t0 = some (r, S')) : Ev mX7_inForce 2 0 0 24 [none] [va_rf t0] (mkS x S) (fun v h => v = some (va_rf r) ∧ h = mkS x S') := by
    unfold bfX7_inForce_55_24 at hm
    cases hm
    exact Ev.retr tokX7_inForce rfl rfl ⟨rfl, rfl⟩
set_option maxHeartbeats 4000000 in
set_option maxRecDepth 20000 in
theorem bpX7_inForce_55_0 (x : XT)  (S : ST)  (r : Option Nat) (S' : ST) (hm : bfX7_inForce_55_0 x  S  = some (r, S')) : Ev mX7_inForce 2 0 0 0 [some (.ref 55)] [] (mkS x S) (fun v h => v = some (va_rf r) ∧ h = mkS x S') := by
    unfold bfX7_inForce_55_0 at hm
    refine Ev.steps tokX7_inForce 3 (P := True) (pc' := 5) (lv' := [some (.ref 55)]) (st' := [.int (S.1 55 18), .ref 55]) (h' := mkS x S) rfl trivial ?_
    cases h1 : gfX7_hasLaw_55 x S (S.1 55 18) with
    | none => rw [h1] at hm; cases hm
    | some q2 =>
      obtain ⟨r3, S4⟩ := q2
      rw [h1] at hm
      dsimp only at hm
      refine ev_callV (N := mX7_hasLaw) (d' := 1) (bc := 0) (bs := 0) (bc' := 0) (bs' := 0) (as := [.int (S.1 55 18)]) (rest := []) (a := 55) (ci := 7) (dcd tokX7_inForce rfl) okX7_hasLaw inX7_hasLaw seX7_hasLaw lk7_74 rfl (by decide) (Nat.le_of_ble_eq_true rfl) rfl ⟨by decide, rfl⟩ (gpX7_hasLaw_55 x S (S.1 55 18) _ _ h1) (fun v h' hq hn => ?_)
      obtain ⟨rfl, rfl⟩ := hq
      refine Ev.steps tokX7_inForce 1 (P := True) (pc' := if r3 = 0 then 23 else 11) (lv' := [some (.ref 55)]) (st' := []) (h' := mkS x S4) rfl trivial ?_
      refine Ev.ite (fun c5 => ?_) (fun c5 => ?_)
      · rw [if_pos c5] at hm
        refine Ev.steps tokX7_inForce 1 (P := True) (pc' := 24) (lv' := [some (.ref 55)]) (st' := [.null]) (h' := mkS x S4) rfl trivial ?_
        refine Ev.fgt (lv' := [none]) trivial ?_
        exact bpX7_inForce_55_24 x S4 none _ _ hm
      · rw [if_neg c5] at hm
        obtain ⟨o6, hm⟩ := oblk hm
        refine Ev.steps tokX7_inForce 6 (P := vp_in (S4.1 55 18) 6 ∧ True) (pc' := 24) (lv' := [some (.ref 55)]) (st' := [va_rf (S4.2.2.2 69 ((S4.1 55 18).toNatClampNeg))]) (h' := mkS x S4) rfl ⟨inb_ok o6, trivial⟩ ?_
        refine Ev.fgt (lv' := [none]) trivial ?_
        exact bpX7_inForce_55_24 x S4 (S4.2.2.2 69 ((S4.1 55 18).toNatClampNeg)) _ _ hm
theorem gpX7_inForce_55 (x : XT) (S : ST)  (r : Option Nat) (S' : ST) (hm : gfX7_inForce_55 x S  = some (r, S')) : Ct mX7_inForce 2 0 0 [.ref 55] (mkS x S) (fun v h => v = some (va_rf r) ∧ h = mkS x S') :=
  Ct.of (lv := [some (.ref 55)]) rfl rfl rfl (show (_ : Nat) ≤ _ from Nat.le_of_ble_eq_true rfl) (fun G => rfl) (bpX7_inForce_55_0 x S  r S' hm)
set_option maxHeartbeats 4000000 in
set_option maxRecDepth 20000 in
theorem bpX0_told_20_55_171 (x : XT)  (S : ST) (t0 : Int32) (r : Int32) (S' : ST) (hm : bfX0_told_20_55_171 x  S t0 = some (r, S')) : Ev mX0_told 3 0 0 171 [none, none, none, none, none, none] [.int t0] (mkS x S) (fun v h => v = some (.int r) ∧ h = mkS x S') := by
    unfold bfX0_told_20_55_171 at hm
    cases hm
    exact Ev.reti tokX0_told rfl rfl ⟨rfl, rfl⟩
set_option maxHeartbeats 4000000 in
set_option maxRecDepth 20000 in
theorem bpX0_told_20_55_192 (x : XT)  (S : ST) (t0 : Int32) (r : Int32) (S' : ST) (hm : bfX0_told_20_55_192 x  S t0 = some (r, S')) : Ev mX0_told 3 0 0 192 [none, none, none, none, none, none] [.int t0] (mkS x S) (fun v h => v = some (.int r) ∧ h = mkS x S') := by
    unfold bfX0_told_20_55_192 at hm
    cases hm
    exact Ev.reti tokX0_told rfl rfl ⟨rfl, rfl⟩
set_option maxHeartbeats 4000000 in
set_option maxRecDepth 20000 in
theorem bpX0_told_20_55_204 (x : XT)  (S : ST) (t0 : Int32) (r : Int32) (S' : ST) (hm : bfX0_told_20_55_204 x  S t0 = some (r, S')) : Ev mX0_told 3 0 0 204 [none, none, none, none, none, none] [.int t0] (mkS x S) (fun v h => v = some (.int r) ∧ h = mkS x S') := by
    unfold bfX0_told_20_55_204 at hm
    cases hm
    exact Ev.reti tokX0_told rfl rfl ⟨rfl, rfl⟩
set_option maxHeartbeats 4000000 in
set_option maxRecDepth 20000 in
theorem bpX0_told_20_55_111 (x : XT)  (S : ST) (v2 : Int32) (v3 : Int32) (r : Int32) (S' : ST) (hm : bfX0_told_20_55_111 x  S v2 v3 = some (r, S')) : Ev mX0_told 3 0 0 111 [some (.ref 20), none, some (.int v2), some (.int v3), none, none] [] (mkS x S) (fun v h => v = some (.int r) ∧ h = mkS x S') := by
    unfold bfX0_told_20_55_111 at hm
    refine Ev.steps tokX0_told 1 (P := True) (pc' := 112) (lv' := [some (.ref 20), none, some (.int v2), some (.int v3), none, none]) (st' := [.int v2]) (h' := mkS x S) rfl trivial ?_
    by_cases c1 : v2 = 260
    · rw [if_pos c1] at hm
      refine ev_look (off := 28) (t := 140) (dcd tokX0_told rfl) (by decide) (by rw [c1]; decide) rfl ?_
      refine Ev.steps tokX0_told 3 (P := True) (pc' := if ¬ v3 = (-2000000000) then 161 else 146) (lv' := [some (.ref 20), none, some (.int v2), some (.int v3), none, none]) (st' := []) (h' := mkS x S) rfl trivial ?_
      refine Ev.ite (fun c2 => ?_) (fun c2 => ?_)
      · rw [if_pos c2] at hm
        refine Ev.steps tokX0_told 3 (P := True) (pc' := 165) (lv' := [some (.ref 20), none, some (.int v2), some (.int v3), none, none]) (st' := [.int 19, .int v3, .int 0]) (h' := mkS x S) rfl trivial ?_
        refine ev_min (dcd tokX0_told rfl) lk0_67 mt_min.1 mt_in.1 mt_min.2 (by decide) (Nat.le_of_ble_eq_true rfl) ?_
        refine ev_max (dcd tokX0_told rfl) lk0_61 mt_max.1 mt_in.1 mt_max.2 (by decide) (Nat.le_of_ble_eq_true rfl) ?_
        refine Ev.fgt (lv' := [none, none, none, none, none, none]) trivial ?_
        exact bpX0_told_20_55_171 x S (if 0 < (if 19 < v3 then 19 else v3) then (if 19 < v3 then 19 else v3) else 0) _ _ hm
      · rw [if_neg c2] at hm
        refine Ev.steps tokX0_told 7 (P := vp_in 2 8 ∧ True) (pc' := 155) (lv' := [some (.ref 20), none, some (.int v2), some (.int v3), none, none]) (st' := [.int 0, .int ((S.2.1 21 2) - 1)]) (h' := mkS x S) rfl ⟨(by unfold vp_in; decide), trivial⟩ ?_
        refine ev_max (dcd tokX0_told rfl) lk0_61 mt_max.1 mt_in.1 mt_max.2 (by decide) (Nat.le_of_ble_eq_true rfl) ?_
        refine Ev.steps tokX0_told 1 (P := True) (pc' := 171) (lv' := [some (.ref 20), none, some (.int v2), some (.int v3), none, none]) (st' := [.int (if ((S.2.1 21 2) - 1) < 0 then 0 else ((S.2.1 21 2) - 1))]) (h' := mkS x S) rfl trivial ?_
        refine Ev.fgt (lv' := [none, none, none, none, none, none]) trivial ?_
        exact bpX0_told_20_55_171 x S (if ((S.2.1 21 2) - 1) < 0 then 0 else ((S.2.1 21 2) - 1)) _ _ hm
    rw [if_neg c1] at hm
    by_cases c3 : v2 = 261
    · rw [if_pos c3] at hm
      refine ev_look (off := 60) (t := 172) (dcd tokX0_told rfl) (by decide) (by rw [c3]; decide) rfl ?_
      refine Ev.steps tokX0_told 3 (P := True) (pc' := if ¬ v3 = (-2000000000) then 182 else 178) (lv' := [some (.ref 20), none, some (.int v2), some (.int v3), none, none]) (st' := []) (h' := mkS x S) rfl trivial ?_
      refine Ev.ite (fun c4 => ?_) (fun c4 => ?_)
      · rw [if_pos c4] at hm
        refine Ev.steps tokX0_told 3 (P := True) (pc' := 186) (lv' := [some (.ref 20), none, some (.int v2), some (.int v3), none, none]) (st' := [.int 9, .int v3, .int 0]) (h' := mkS x S) rfl trivial ?_
        refine ev_min (dcd tokX0_told rfl) lk0_67 mt_min.1 mt_in.1 mt_min.2 (by decide) (Nat.le_of_ble_eq_true rfl) ?_
        refine ev_max (dcd tokX0_told rfl) lk0_61 mt_max.1 mt_in.1 mt_max.2 (by decide) (Nat.le_of_ble_eq_true rfl) ?_
        refine Ev.fgt (lv' := [none, none, none, none, none, none]) trivial ?_
        exact bpX0_told_20_55_192 x S (if 0 < (if 9 < v3 then 9 else v3) then (if 9 < v3 then 9 else v3) else 0) _ _ hm
      · rw [if_neg c4] at hm
        refine Ev.steps tokX0_told 2 (P := True) (pc' := 192) (lv' := [some (.ref 20), none, some (.int v2), some (.int v3), none, none]) (st' := [.int 1]) (h' := mkS x S) rfl trivial ?_
        refine Ev.fgt (lv' := [none, none, none, none, none, none]) trivial ?_
        exact bpX0_told_20_55_192 x S 1 _ _ hm
    rw [if_neg c3] at hm
    refine ev_look (off := 81) (t := 193) (dcd tokX0_told rfl) (by decide) ((lv_osw c1 (show (260 : Int32).toInt = 260 from by decide)).trans ((lv_osw c3 (show (261 : Int32).toInt = 261 from by decide)).trans (rfl))) rfl ?_
    refine Ev.steps tokX0_told 3 (P := True) (pc' := if ¬ v3 = (-2000000000) then 203 else 199) (lv' := [some (.ref 20), none, some (.int v2), some (.int v3), none, none]) (st' := []) (h' := mkS x S) rfl trivial ?_
    refine Ev.ite (fun c5 => ?_) (fun c5 => ?_)
    · rw [if_pos c5] at hm
      refine Ev.steps tokX0_told 1 (P := True) (pc' := 204) (lv' := [some (.ref 20), none, some (.int v2), some (.int v3), none, none]) (st' := [.int 1]) (h' := mkS x S) rfl trivial ?_
      refine Ev.fgt (lv' := [none, none, none, none, none, none]) trivial ?_
      exact bpX0_told_20_55_204 x S 1 _ _ hm
    · rw [if_neg c5] at hm
      refine Ev.steps tokX0_told 2 (P := True) (pc' := 204) (lv' := [some (.ref 20), none, some (.int v2), some (.int v3), none, none]) (st' := [.int 0]) (h' := mkS x S) rfl trivial ?_
      refine Ev.fgt (lv' := [none, none, none, none, none, none]) trivial ?_
      exact bpX0_told_20_55_204 x S 0 _ _ hm
set_option maxHeartbeats 4000000 in
set_option maxRecDepth 20000 in
theorem bpX0_told_20_55_105 (x : XT) (k23 : ST → Int32 → Int32 → Nat → Int32 → Option (Int32 × ST)) (hk23 : ∀ (S : ST) (v2 : Int32) (v3 : Int32) (v4 : Nat) (v5 : Int32) (r : Int32) (S' : ST), k23 S v2 v3 v4 v5 = some (r, S') → Ev mX0_told 3 0 0 23 [some (.ref 20), none, some (.int v2), some (.int v3), some (.ref v4), some (.int v5)] [] (mkS x S) (fun v h => v = some (.int r) ∧ h = mkS x S')) (S : ST) (v2 : Int32) (v3 : Int32) (v4 : Nat) (v5 : Int32) (r : Int32) (S' : ST) (hm : bfX0_told_20_55_105 x k23 S v2 v3 v4 v5 = some (r, S')) : Ev mX0_told 3 0 0 105 [some (.ref 20), none, some (.int v2), some (.int v3), some (.ref v4), some (.int v5)] [] (mkS x S) (fun v h => v = some (.int r) ∧ h = mkS x S') := by
    unfold bfX0_told_20_55_105 at hm
    obtain ⟨o1, hm⟩ := oblk hm
    obtain ⟨f9_v4, r2_v4, r3_v4, r4_v4, r5_v4, a1_v4, a2_v4, a3_v4, a4_v4⟩ := tx_ok o1
    refine Ev.steps tokX0_told 2 (P := True) (pc' := 23) (lv' := [some (.ref 20), none, some (.int v2), some (.int v3), some (.ref v4), some (.int (v5 + (-1)))]) (st' := []) (h' := mkS x S) rfl trivial ?_
    exact hk23 S v2 v3 v4 (v5 + (-1)) _ _ hm
set_option maxHeartbeats 4000000 in
set_option maxRecDepth 20000 in
theorem bpX0_told_20_55_104 (x : XT) (k23 : ST → Int32 → Int32 → Nat → Int32 → Option (Int32 × ST)) (hk23 : ∀ (S : ST) (v2 : Int32) (v3 : Int32) (v4 : Nat) (v5 : Int32) (r : Int32) (S' : ST), k23 S v2 v3 v4 v5 = some (r, S') → Ev mX0_told 3 0 0 23 [some (.ref 20), none, some (.int v2), some (.int v3), some (.ref v4), some (.int v5)] [] (mkS x S) (fun v h => v = some (.int r) ∧ h = mkS x S')) (S : ST) (v2 : Int32) (v4 : Nat) (v5 : Int32) (t0 : Int32) (r : Int32) (S' : ST) (hm : bfX0_told_20_55_104 x k23 S v2 v4 v5 t0 = some (r, S')) : Ev mX0_told 3 0 0 104 [some (.ref 20), none, some (.int v2), none, some (.ref v4), some (.int v5)] [.int t0] (mkS x S) (fun v h => v = some (.int r) ∧ h = mkS x S') := by
    unfold bfX0_told_20_55_104 at hm
    obtain ⟨o1, hm⟩ := oblk hm
    obtain ⟨f9_v4, r2_v4, r3_v4, r4_v4, r5_v4, a1_v4, a2_v4, a3_v4, a4_v4⟩ := tx_ok o1
    refine Ev.steps tokX0_told 1 (P := True) (pc' := 105) (lv' := [some (.ref 20), none, some (.int v2), some (.int t0), some (.ref v4), some (.int v5)]) (st' := []) (h' := mkS x S) rfl trivial ?_
    exact bpX0_told_20_55_105 x k23 hk23 S v2 t0 v4 v5 _ _ hm
set_option maxHeartbeats 4000000 in
set_option maxRecDepth 20000 in
theorem bpX0_told_20_55_77 (x : XT) (k23 : ST → Int32 → Int32 → Nat → Int32 → Option (Int32 × ST)) (hk23 : ∀ (S : ST) (v2 : Int32) (v3 : Int32) (v4 : Nat) (v5 : Int32) (r : Int32) (S' : ST), k23 S v2 v3 v4 v5 = some (r, S') → Ev mX0_told 3 0 0 23 [some (.ref 20), none, some (.int v2), some (.int v3), some (.ref v4), some (.int v5)] [] (mkS x S) (fun v h => v = some (.int r) ∧ h = mkS x S')) (S : ST) (v2 : Int32) (v4 : Nat) (v5 : Int32) (r : Int32) (S' : ST) (hm : bfX0_told_20_55_77 x k23 S v2 v4 v5 = some (r, S')) : Ev mX0_told 3 0 0 77 [some (.ref 20), none, some (.int v2), none, some (.ref v4), some (.int v5)] [] (mkS x S) (fun v h => v = some (.int r) ∧ h = mkS x S') := by
    unfold bfX0_told_20_55_77 at hm
    obtain ⟨o1, hm⟩ := oblk hm
    obtain ⟨f9_v4, r2_v4, r3_v4, r4_v4, r5_v4, a1_v4, a2_v4, a3_v4, a4_v4⟩ := tx_ok o1
    refine Ev.steps tokX0_told 3 (P := True) (pc' := if ¬ v2 = 262 then 88 else 84) (lv' := [some (.ref 20), none, some (.int v2), none, some (.ref v4), some (.int v5)]) (st' := []) (h' := mkS x S) rfl trivial ?_
    refine Ev.ite (fun c2 => ?_) (fun c2 => ?_)
    · rw [if_pos c2] at hm
      refine Ev.steps tokX0_told 7 (P := True) (pc' := 101) (lv' := [some (.ref 20), none, some (.int v2), none, some (.ref v4), some (.int v5)]) (st' := [.ref 22, .ref 21, .int 0, .int v5, .ref v4]) (h' := mkS x S) rfl trivial ?_
      cases h3 : gfX9_reckon_T_21_22 x S v4 v5 0 with
      | none => rw [h3] at hm; cases hm
      | some q4 =>
        obtain ⟨r5, S6⟩ := q4
        rw [h3] at hm
        dsimp only at hm
        refine ev_callV (N := mX9_reckon) (d' := 2) (bc := 0) (bs := 0) (bc' := 0) (bs' := 0) (as := [.int v5, .int 0, .ref 21, .ref 22]) (rest := []) (a := v4) (ci := 9) (dcd tokX0_told rfl) okX9_reckon inX9_reckon seX9_reckon lk0_57 rfl (by decide) (Nat.le_of_ble_eq_true rfl) f9_v4 ⟨by decide, rfl⟩ (gpX9_reckon_T_21_22 x S v4 v5 0 _ _ h3) (fun v h' hq hn => ?_)
        obtain ⟨rfl, rfl⟩ := hq
        exact bpX0_told_20_55_104 x k23 hk23 S6 v2 v4 v5 r5 _ _ hm
    · rw [if_neg c2] at hm
      refine Ev.steps tokX0_told 2 (P := True) (pc' := 104) (lv' := [some (.ref 20), none, some (.int v2), none, some (.ref v4), some (.int v5)]) (st' := [.int 1]) (h' := mkS x S) rfl trivial ?_
      exact bpX0_told_20_55_104 x k23 hk23 S v2 v4 v5 1 _ _ hm
set_option maxHeartbeats 4000000 in
set_option maxRecDepth 20000 in
theorem bpX0_told_20_55_23 (x : XT) (k23 : ST → Int32 → Int32 → Nat → Int32 → Option (Int32 × ST)) (hk23 : ∀ (S : ST) (v2 : Int32) (v3 : Int32) (v4 : Nat) (v5 : Int32) (r : Int32) (S' : ST), k23 S v2 v3 v4 v5 = some (r, S') → Ev mX0_told 3 0 0 23 [some (.ref 20), none, some (.int v2), some (.int v3), some (.ref v4), some (.int v5)] [] (mkS x S) (fun v h => v = some (.int r) ∧ h = mkS x S')) (S : ST) (v2 : Int32) (v3 : Int32) (v4 : Nat) (v5 : Int32) (r : Int32) (S' : ST) (hm : bfX0_told_20_55_23 x k23 S v2 v3 v4 v5 = some (r, S')) : Ev mX0_told 3 0 0 23 [some (.ref 20), none, some (.int v2), some (.int v3), some (.ref v4), some (.int v5)] [] (mkS x S) (fun v h => v = some (.int r) ∧ h = mkS x S') := by
    unfold bfX0_told_20_55_23 at hm
    obtain ⟨o1, hm⟩ := oblk hm
    obtain ⟨f9_v4, r2_v4, r3_v4, r4_v4, r5_v4, a1_v4, a2_v4, a3_v4, a4_v4⟩ := tx_ok o1
    refine Ev.steps tokX0_told 2 (P := True) (pc' := if v5 < 0 then 111 else 28) (lv' := [some (.ref 20), none, some (.int v2), some (.int v3), some (.ref v4), some (.int v5)]) (st' := []) (h' := mkS x S) rfl trivial ?_
    refine Ev.ite (fun c2 => ?_) (fun c2 => ?_)
    · rw [if_pos c2] at hm
      refine Ev.fgt (lv' := [some (.ref 20), none, some (.int v2), some (.int v3), none, none]) ⟨rfl, rfl, rfl, trivial⟩ ?_
      exact bpX0_told_20_55_111 x S v2 v3 _ _ hm
    · rw [if_neg c2] at hm
      refine Ev.steps tokX0_told 3 (P := True) (pc' := if ¬ v3 = (-2000000000) then 111 else 34) (lv' := [some (.ref 20), none, some (.int v2), some (.int v3), some (.ref v4), some (.int v5)]) (st' := []) (h' := mkS x S) rfl trivial ?_
      refine Ev.ite (fun c3 => ?_) (fun c3 => ?_)
      · rw [if_pos c3] at hm
        refine Ev.fgt (lv' := [some (.ref 20), none, some (.int v2), some (.int v3), none, none]) ⟨rfl, rfl, rfl, trivial⟩ ?_
        exact bpX0_told_20_55_111 x S v2 v3 _ _ hm
      · rw [if_neg c3] at hm
        refine Ev.steps tokX0_told 1 (P := True) (pc' := 36) (lv' := [some (.ref 20), none, some (.int v2), some (.int v3), some (.ref v4), some (.int v5)]) (st' := [.ref v4]) (h' := mkS x S) rfl trivial ?_
        refine ev_getR (dcd tokX0_told rfl) rfl f9_v4 rfl r2_v4 ?_
        refine Ev.steps tokX0_told 1 (P := True) (pc' := 41) (lv' := [some (.ref 20), none, some (.int v2), some (.int v3), some (.ref v4), some (.int v5)]) (st' := [.int v5, .ref (v4 + 1)]) (h' := mkS x S) rfl trivial ?_
        obtain ⟨o4, hm⟩ := oblk hm
        refine ev_iald (dcd tokX0_told rfl) a1_v4 (inb_ok o4) ?_
        refine Ev.steps tokX0_told 2 (P := True) (pc' := if ¬ (S.2.1 (v4 + 1) v5.toNatClampNeg) = v2 then 105 else 46) (lv' := [some (.ref 20), none, some (.int v2), some (.int v3), some (.ref v4), some (.int v5)]) (st' := []) (h' := mkS x S) rfl trivial ?_
        refine Ev.ite (fun c5 => ?_) (fun c5 => ?_)
        · rw [if_pos c5] at hm
          exact bpX0_told_20_55_105 x k23 hk23 S v2 v3 v4 v5 _ _ hm
        · rw [if_neg c5] at hm
          refine Ev.steps tokX0_told 3 (P := True) (pc' := 51) (lv' := [some (.ref 20), none, some (.int v2), some (.int v3), some (.ref v4), some (.int v5)]) (st' := [.int 2, .int v5, .ref v4]) (h' := mkS x S) rfl trivial ?_
          cases h6 : gfX9_has_T x S v4 v5 2 with
          | none => rw [h6] at hm; cases hm
          | some q7 =>
            obtain ⟨r8, S9⟩ := q7
            rw [h6] at hm
            dsimp only at hm
            refine ev_callV (N := mX9_has) (d' := 1) (bc := 0) (bs := 0) (bc' := 0) (bs' := 0) (as := [.int v5, .int 2]) (rest := []) (a := v4) (ci := 9) (dcd tokX0_told rfl) okX9_has inX9_has seX9_has lk0_53 rfl (by decide) (Nat.le_of_ble_eq_true rfl) f9_v4 ⟨by decide, rfl⟩ (gpX9_has_T x S v4 v5 2 _ _ h6) (fun v h' hq hn => ?_)
            obtain ⟨rfl, rfl⟩ := hq
            refine Ev.steps tokX0_told 1 (P := True) (pc' := if r8 = 0 then 77 else 57) (lv' := [some (.ref 20), none, some (.int v2), some (.int v3), some (.ref v4), some (.int v5)]) (st' := []) (h' := mkS x S9) rfl trivial ?_
            refine Ev.ite (fun c10 => ?_) (fun c10 => ?_)
            · rw [if_pos c10] at hm
              refine Ev.fgt (lv' := [some (.ref 20), none, some (.int v2), none, some (.ref v4), some (.int v5)]) ⟨rfl, rfl, rfl, rfl, trivial⟩ ?_
              exact bpX0_told_20_55_77 x k23 hk23 S9 v2 v4 v5 _ _ hm
            · rw [if_neg c10] at hm
              refine Ev.steps tokX0_told 7 (P := True) (pc' := 70) (lv' := [some (.ref 20), none, some (.int v2), some (.int v3), some (.ref v4), some (.int v5)]) (st' := [.ref 22, .ref 21, .int 2, .int v5, .ref v4]) (h' := mkS x S9) rfl trivial ?_
              cases h11 : gfX9_reckon_T_21_22 x S9 v4 v5 2 with
              | none => rw [h11] at hm; cases hm
              | some q12 =>
                obtain ⟨r13, S14⟩ := q12
                rw [h11] at hm
                dsimp only at hm
                refine ev_callV (N := mX9_reckon) (d' := 2) (bc := 0) (bs := 0) (bc' := 0) (bs' := 0) (as := [.int v5, .int 2, .ref 21, .ref 22]) (rest := []) (a := v4) (ci := 9) (dcd tokX0_told rfl) okX9_reckon inX9_reckon seX9_reckon lk0_57 rfl (by decide) (Nat.le_of_ble_eq_true rfl) f9_v4 ⟨by decide, rfl⟩ (gpX9_reckon_T_21_22 x S9 v4 v5 2 _ _ h11) (fun v h' hq hn => ?_)
                obtain ⟨rfl, rfl⟩ := hq
                refine Ev.steps tokX0_told 2 (P := True) (pc' := if ¬ r13 = 1 then 105 else 77) (lv' := [some (.ref 20), none, some (.int v2), some (.int v3), some (.ref v4), some (.int v5)]) (st' := []) (h' := mkS x S14) rfl trivial ?_
                refine Ev.ite (fun c15 => ?_) (fun c15 => ?_)
                · rw [if_pos c15] at hm
                  exact bpX0_told_20_55_105 x k23 hk23 S14 v2 v3 v4 v5 _ _ hm
                · rw [if_neg c15] at hm
                  refine Ev.fgt (lv' := [some (.ref 20), none, some (.int v2), none, some (.ref v4), some (.int v5)]) ⟨rfl, rfl, rfl, rfl, trivial⟩ ?_
                  exact bpX0_told_20_55_77 x k23 hk23 S14 v2 v4 v5 _ _ hm
theorem lpX0_told_20_55_23 (x : XT)  : ∀ (n : Nat) (S : ST) (v2 : Int32) (v3 : Int32) (v4 : Nat) (v5 : Int32) (r : Int32) (S' : ST), lfX0_told_20_55_23 x  n S v2 v3 v4 v5 = some (r, S') → Ev mX0_told 3 0 0 23 [some (.ref 20), none, some (.int v2), some (.int v3), some (.ref v4), some (.int v5)] [] (mkS x S) (fun v h => v = some (.int r) ∧ h = mkS x S')
  | 0, _, _, _, _, _, _, _, hm => by cases hm
  | n + 1, S, v2, v3, v4, v5, r, S', hm => bpX0_told_20_55_23 x (lfX0_told_20_55_23 x  n) (lpX0_told_20_55_23 x  n) S v2 v3 v4 v5 r S' hm
set_option maxHeartbeats 4000000 in
set_option maxRecDepth 20000 in
theorem bpX0_told_20_55_0 (x : XT)  (S : ST) (p2 : Int32) (r : Int32) (S' : ST) (hm : bfX0_told_20_55_0 x  S p2 = some (r, S')) : Ev mX0_told 3 0 0 0 [some (.ref 20), some (.ref 55), some (.int p2), none, none, none] [] (mkS x S) (fun v h => v = some (.int r) ∧ h = mkS x S') := by
    unfold bfX0_told_20_55_0 at hm
    refine Ev.steps tokX0_told 3 (P := True) (pc' := 4) (lv' := [some (.ref 20), some (.ref 55), some (.int p2), some (.int (-2000000000)), none, none]) (st' := [.ref 55]) (h' := mkS x S) rfl trivial ?_
    cases h1 : gfX7_inForce_55 x S with
    | none => rw [h1] at hm; cases hm
    | some q2 =>
      obtain ⟨r3, S4⟩ := q2
      rw [h1] at hm
      dsimp only at hm
      refine ev_callV (N := mX7_inForce) (d' := 2) (bc := 0) (bs := 0) (bc' := 0) (bs' := 0) (as := []) (rest := []) (a := 55) (ci := 7) (dcd tokX0_told rfl) okX7_inForce inX7_inForce seX7_inForce lk0_40 rfl (by decide) (Nat.le_of_ble_eq_true rfl) rfl ⟨by decide, rfl⟩ (gpX7_inForce_55 x S _ _ h1) (fun v h' hq hn => ?_)
      obtain ⟨rfl, rfl⟩ := hq
      refine ev_astoreQ (r := r3) (dcd tokX0_told rfl) (by decide) ?_
      refine ev_aloadQ (r := r3) (dcd tokX0_told rfl) rfl ?_
      refine ev_ifnullQ (r := r3) (t := 111) (dcd tokX0_told rfl) rfl (fun hz => ?_) (fun t5 hz => ?_)
      · rw [hz] at hm ⊢
        refine Ev.fgt (lv' := [some (.ref 20), none, some (.int p2), some (.int (-2000000000)), none, none]) ⟨rfl, rfl, rfl, trivial⟩ ?_
        exact bpX0_told_20_55_111 x S4 p2 (-2000000000) _ _ hm
      · rw [hz] at hm ⊢
        obtain ⟨o6, hm⟩ := oblk hm
        obtain ⟨f9_t5, r2_t5, r3_t5, r4_t5, r5_t5, a1_t5, a2_t5, a3_t5, a4_t5⟩ := tx_ok o6
        refine Ev.steps tokX0_told 1 (P := True) (pc' := 16) (lv' := [some (.ref 20), some (.ref 55), some (.int p2), some (.int (-2000000000)), some (.ref t5), none]) (st' := [.ref t5]) (h' := mkS x S4) rfl trivial ?_
        refine ev_getI (dcd tokX0_told rfl) rfl f9_t5 rfl ?_
        refine Ev.steps tokX0_told 3 (P := True) (pc' := 23) (lv' := [some (.ref 20), some (.ref 55), some (.int p2), some (.int (-2000000000)), some (.ref t5), some (.int ((S4.1 t5 0) - 1))]) (st' := []) (h' := mkS x S4) rfl trivial ?_
        refine Ev.fgt (lv' := [some (.ref 20), none, some (.int p2), some (.int (-2000000000)), some (.ref t5), some (.int ((S4.1 t5 0) - 1))]) ⟨rfl, rfl, rfl, rfl, rfl, trivial⟩ ?_
        exact lpX0_told_20_55_23 x  20000 S4 p2 (-2000000000) t5 ((S4.1 t5 0) - 1) _ _ hm
theorem gpX0_told_20_55 (x : XT) (S : ST) (p2 : Int32) (r : Int32) (S' : ST) (hm : gfX0_told_20_55 x S p2 = some (r, S')) : Ct mX0_told 3 0 0 [.ref 20, .ref 55, .int p2] (mkS x S) (fun v h => v = some (.int r) ∧ h = mkS x S') :=
  Ct.of (lv := [some (.ref 20), some (.ref 55), some (.int p2), none, none, none]) rfl rfl rfl (show (_ : Nat) ≤ _ from Nat.le_of_ble_eq_true rfl) (fun G => rfl) (bpX0_told_20_55_0 x S p2 r S' hm)
end MIR
