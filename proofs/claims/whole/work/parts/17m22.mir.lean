section MIR
set_option maxHeartbeats 4000000 in
set_option maxRecDepth 20000 in
theorem bpX11_termAt_21 (x : XT)  (S : ST) (t0 : Int32) (r : Int32) (S' : ST) (hm : bfX11_termAt_21 x  S t0 = some (r, S')) : Ev mX11_termAt 1 0 0 21 [none] [.int t0] (mkS x S) (fun v h => v = some (.int r) ∧ h = mkS x S') := by
    unfold bfX11_termAt_21 at hm
    cases hm
    exact Ev.reti tokX11_termAt rfl rfl ⟨rfl, rfl⟩
set_option maxHeartbeats 4000000 in
set_option maxRecDepth 20000 in
theorem bpX11_termAt_0 (x : XT)  (S : ST) (p0 : Int32) (r : Int32) (S' : ST) (hm : bfX11_termAt_0 x  S p0 = some (r, S')) : Ev mX11_termAt 1 0 0 0 [some (.int p0)] [] (mkS x S) (fun v h => v = some (.int r) ∧ h = mkS x S') := by
    unfold bfX11_termAt_0 at hm
    refine Ev.steps tokX11_termAt 2 (P := True) (pc' := if ¬ p0 = 0 then 9 else 4) (lv' := [some (.int p0)]) (st' := []) (h' := mkS x S) rfl trivial ?_
    refine Ev.ite (fun c1 => ?_) (fun c1 => ?_)
    · rw [if_pos c1] at hm
      refine Ev.steps tokX11_termAt 3 (P := True) (pc' := if ¬ p0 = 1 then 19 else 14) (lv' := [some (.int p0)]) (st' := []) (h' := mkS x S) rfl trivial ?_
      refine Ev.ite (fun c2 => ?_) (fun c2 => ?_)
      · rw [if_pos c2] at hm
        refine Ev.steps tokX11_termAt 1 (P := True) (pc' := 21) (lv' := [some (.int p0)]) (st' := [.int 90]) (h' := mkS x S) rfl trivial ?_
        refine Ev.fgt (lv' := [none]) trivial ?_
        exact bpX11_termAt_21 x S 90 _ _ hm
      · rw [if_neg c2] at hm
        refine Ev.steps tokX11_termAt 2 (P := True) (pc' := 21) (lv' := [some (.int p0)]) (st' := [.int 89]) (h' := mkS x S) rfl trivial ?_
        refine Ev.fgt (lv' := [none]) trivial ?_
        exact bpX11_termAt_21 x S 89 _ _ hm
    · rw [if_neg c1] at hm
      refine Ev.steps tokX11_termAt 2 (P := True) (pc' := 21) (lv' := [some (.int p0)]) (st' := [.int 35]) (h' := mkS x S) rfl trivial ?_
      refine Ev.fgt (lv' := [none]) trivial ?_
      exact bpX11_termAt_21 x S 35 _ _ hm
theorem gpX11_termAt (x : XT) (S : ST) (p0 : Int32) (r : Int32) (S' : ST) (hm : gfX11_termAt x S p0 = some (r, S')) : Ct mX11_termAt 1 0 0 [.int p0] (mkS x S) (fun v h => v = some (.int r) ∧ h = mkS x S') :=
  Ct.of (lv := [some (.int p0)]) rfl rfl rfl (show (_ : Nat) ≤ _ from Nat.le_of_ble_eq_true rfl) (fun G => rfl) (bpX11_termAt_0 x S p0 r S' hm)
set_option maxHeartbeats 4000000 in
set_option maxRecDepth 20000 in
theorem bpX11_terms_130_0 (x : XT)  (S : ST) (p1 : Int32) (p2 : Int32) (r : Int32) (S' : ST) (hm : bfX11_terms_130_0 x  S p1 p2 = some (r, S')) : Ev mX11_terms 3 0 0 0 [some (.ref 130), some (.int p1), some (.int p2), none] [] (mkS x S) (fun v h => v = some (.int r) ∧ h = mkS x S') := by
    unfold bfX11_terms_130_0 at hm
    refine Ev.steps tokX11_terms 2 (P := True) (pc' := 2) (lv' := [some (.ref 130), some (.int p1), some (.int p2), none]) (st' := [.int p2, .int p1]) (h' := mkS x S) rfl trivial ?_
    cases h1 : gfX11_isTerm x S p1 p2 with
    | none => rw [h1] at hm; cases hm
    | some q2 =>
      obtain ⟨r3, S4⟩ := q2
      rw [h1] at hm
      dsimp only at hm
      refine ev_callS (N := mX11_isTerm) (d' := 2) (bc := 0) (bs := 0) (bc' := 0) (bs' := 0) (as := [.int p1, .int p2]) (rest := []) (dcd tokX11_terms rfl) okX11_isTerm inX11_isTerm lk11_173 rfl (by decide) (Nat.le_of_ble_eq_true rfl) (gpX11_isTerm x S p1 p2 _ _ h1) (fun v h' hq hn => ?_)
      obtain ⟨rfl, rfl⟩ := hq
      refine Ev.steps tokX11_terms 1 (P := True) (pc' := if ¬ r3 = 0 then 14 else 8) (lv' := [some (.ref 130), some (.int p1), some (.int p2), none]) (st' := []) (h' := mkS x S4) rfl trivial ?_
      refine Ev.ite (fun c5 => ?_) (fun c5 => ?_)
      · rw [if_pos c5] at hm
        refine Ev.steps tokX11_terms 3 (P := True) (pc' := 19) (lv' := [some (.ref 130), some (.int p1), some (.int p2), none]) (st' := [.int p1, .ref 132]) (h' := mkS x S4) rfl trivial ?_
        cases h6 : gfX11_termAt x S4 p1 with
        | none => rw [h6] at hm; cases hm
        | some q7 =>
          obtain ⟨r8, S9⟩ := q7
          rw [h6] at hm
          dsimp only at hm
          refine ev_callS (N := mX11_termAt) (d' := 1) (bc := 0) (bs := 0) (bc' := 0) (bs' := 0) (as := [.int p1]) (rest := [.ref 132]) (dcd tokX11_terms rfl) okX11_termAt inX11_termAt lk11_176 rfl (by decide) (Nat.le_of_ble_eq_true rfl) (gpX11_termAt x S4 p1 _ _ h6) (fun v h' hq hn => ?_)
          obtain ⟨rfl, rfl⟩ := hq
          obtain ⟨o10, hm⟩ := oblk hm
          refine Ev.steps tokX11_terms 5 (P := vp_in r8 5703 ∧ True) (pc' := 29) (lv' := [some (.ref 130), some (.int p1), some (.int p2), some (.int (S9.2.1 132 r8.toNatClampNeg))]) (st' := [.int p1, .ref 132]) (h' := mkS x S9) rfl ⟨inb_ok o10, trivial⟩ ?_
          cases h11 : gfX11_termAt x S9 p1 with
          | none => rw [h11] at hm; cases hm
          | some q12 =>
            obtain ⟨r13, S14⟩ := q12
            rw [h11] at hm
            dsimp only at hm
            refine ev_callS (N := mX11_termAt) (d' := 1) (bc := 0) (bs := 0) (bc' := 0) (bs' := 0) (as := [.int p1]) (rest := [.ref 132]) (dcd tokX11_terms rfl) okX11_termAt inX11_termAt lk11_176 rfl (by decide) (Nat.le_of_ble_eq_true rfl) (gpX11_termAt x S9 p1 _ _ h11) (fun v h' hq hn => ?_)
            obtain ⟨rfl, rfl⟩ := hq
            obtain ⟨o15, hm⟩ := oblk hm
            refine Ev.steps tokX11_terms 4 (P := vp_in r13 5703 ∧ True) (pc' := 36) (lv' := [some (.ref 130), some (.int p1), some (.int p2), some (.int (S9.2.1 132 r8.toNatClampNeg))]) (st' := [.int (S9.2.1 132 r8.toNatClampNeg), .ref 130]) (h' := mkS x (S14.1, (u2 S14.2.1 132 r13.toNatClampNeg p2), S14.2.2.1, S14.2.2.2)) rfl ⟨inb_ok o15, trivial⟩ ?_
            cases h16 : gfX11_settled_130 x (S14.1, (u2 S14.2.1 132 r13.toNatClampNeg p2), S14.2.2.1, S14.2.2.2) (S9.2.1 132 r8.toNatClampNeg) with
            | none => rw [h16] at hm; cases hm
            | some q17 =>
              obtain ⟨r18, S19⟩ := q17
              rw [h16] at hm
              dsimp only at hm
              refine ev_callV (N := mX11_settled) (d' := 2) (bc := 0) (bs := 0) (bc' := 0) (bs' := 0) (as := [.int (S9.2.1 132 r8.toNatClampNeg)]) (rest := []) (a := 130) (ci := 11) (dcd tokX11_terms rfl) okX11_settled inX11_settled seX11_settled lk11_121 rfl (by decide) (Nat.le_of_ble_eq_true rfl) rfl ⟨by decide, rfl⟩ (gpX11_settled_130 x (S14.1, (u2 S14.2.1 132 r13.toNatClampNeg p2), S14.2.2.1, S14.2.2.2) (S9.2.1 132 r8.toNatClampNeg) _ _ h16) (fun v h' hq hn => ?_)
              obtain ⟨rfl, rfl⟩ := hq
              cases hm
              exact Ev.reti tokX11_terms rfl rfl ⟨rfl, rfl⟩
      · rw [if_neg c5] at hm
        refine Ev.steps tokX11_terms 2 (P := True) (pc' := 10) (lv' := [some (.ref 130), some (.int p1), some (.int p2), none]) (st' := [.int (-1), .ref 130]) (h' := mkS x S4) rfl trivial ?_
        cases h20 : gfX11_refuses_130 x S4 (-1) with
        | none => rw [h20] at hm; cases hm
        | some q21 =>
          obtain ⟨r22, S23⟩ := q21
          rw [h20] at hm
          dsimp only at hm
          refine ev_callV (N := mX11_refuses) (d' := 1) (bc := 0) (bs := 0) (bc' := 0) (bs' := 0) (as := [.int (-1)]) (rest := []) (a := 130) (ci := 11) (dcd tokX11_terms rfl) okX11_refuses inX11_refuses seX11_refuses lk11_118 rfl (by decide) (Nat.le_of_ble_eq_true rfl) rfl ⟨by decide, rfl⟩ (gpX11_refuses_130 x S4 (-1) _ _ h20) (fun v h' hq hn => ?_)
          obtain ⟨rfl, rfl⟩ := hq
          cases hm
          exact Ev.reti tokX11_terms rfl rfl ⟨rfl, rfl⟩
theorem gpX11_terms_130 (x : XT) (S : ST) (p1 : Int32) (p2 : Int32) (r : Int32) (S' : ST) (hm : gfX11_terms_130 x S p1 p2 = some (r, S')) : Ct mX11_terms 3 0 0 [.ref 130, .int p1, .int p2] (mkS x S) (fun v h => v = some (.int r) ∧ h = mkS x S') :=
  Ct.of (lv := [some (.ref 130), some (.int p1), some (.int p2), none]) rfl rfl rfl (show (_ : Nat) ≤ _ from Nat.le_of_ble_eq_true rfl) (fun G => rfl) (bpX11_terms_130_0 x S p1 p2 r S' hm)
set_option maxHeartbeats 4000000 in
set_option maxRecDepth 20000 in
theorem bpX11_row_130_166 (x : XT) (k40 : ST → Int32 → Int32 → Int32 → Option (Int32 × ST)) (hk40 : ∀ (S : ST) (v1 : Int32) (v2 : Int32) (v3 : Int32) (r : Int32) (S' : ST), k40 S v1 v2 v3 = some (r, S') → Ev mX11_row 4 0 0 40 [some (.ref 130), some (.int v1), some (.int v2), some (.int v3), none] [] (mkS x S) (fun v h => v = some (.int r) ∧ h = mkS x S')) (S : ST) (v1 : Int32) (v2 : Int32) (v3 : Int32) (t1 : Int32) (t2 : Int32) (r : Int32) (S' : ST) (hm : bfX11_row_130_166 x k40 S v1 v2 v3 t1 t2 = some (r, S')) : Ev mX11_row 4 0 0 166 [some (.ref 130), some (.int v1), some (.int v2), some (.int v3), none] [.int t2, .int t1, .ref 130] (mkS x S) (fun v h => v = some (.int r) ∧ h = mkS x S') := by
    unfold bfX11_row_130_166 at hm
    refine Ev.steps tokX11_row 4 (P := True) (pc' := 40) (lv' := [some (.ref 130), some (.int v1), some (.int v2), some (.int (v3 + 4)), none]) (st' := []) (h' := mkS x ((u2 S.1 130 6 (t1 + t2)), S.2.1, S.2.2.1, S.2.2.2)) rfl trivial ?_
    exact hk40 ((u2 S.1 130 6 (t1 + t2)), S.2.1, S.2.2.1, S.2.2.2) v1 v2 (v3 + 4) _ _ hm
set_option maxHeartbeats 4000000 in
set_option maxRecDepth 20000 in
theorem bpX11_row_130_149 (x : XT) (k40 : ST → Int32 → Int32 → Int32 → Option (Int32 × ST)) (hk40 : ∀ (S : ST) (v1 : Int32) (v2 : Int32) (v3 : Int32) (r : Int32) (S' : ST), k40 S v1 v2 v3 = some (r, S') → Ev mX11_row 4 0 0 40 [some (.ref 130), some (.int v1), some (.int v2), some (.int v3), none] [] (mkS x S) (fun v h => v = some (.int r) ∧ h = mkS x S')) (S : ST) (v1 : Int32) (v3 : Int32) (v4 : Int32) (t0 : Int32) (t1 : Int32) (r : Int32) (S' : ST) (hm : bfX11_row_130_149 x k40 S v1 v3 v4 t0 t1 = some (r, S')) : Ev mX11_row 4 0 0 149 [some (.ref 130), some (.int v1), none, some (.int v3), some (.int v4)] [.int t1, .int t0] (mkS x S) (fun v h => v = some (.int r) ∧ h = mkS x S') := by
    unfold bfX11_row_130_149 at hm
    refine Ev.steps tokX11_row 7 (P := True) (pc' := if v4 = 0 then 165 else 161) (lv' := [some (.ref 130), some (.int v1), some (.int (t0 + t1)), some (.int v3), some (.int v4)]) (st' := [.int (S.1 130 6), .ref 130]) (h' := mkS x S) rfl trivial ?_
    refine Ev.ite (fun c1 => ?_) (fun c1 => ?_)
    · rw [if_pos c1] at hm
      refine Ev.steps tokX11_row 1 (P := True) (pc' := 166) (lv' := [some (.ref 130), some (.int v1), some (.int (t0 + t1)), some (.int v3), some (.int v4)]) (st' := [.int 1, .int (S.1 130 6), .ref 130]) (h' := mkS x S) rfl trivial ?_
      refine Ev.fgt (lv' := [some (.ref 130), some (.int v1), some (.int (t0 + t1)), some (.int v3), none]) ⟨rfl, rfl, rfl, rfl, trivial⟩ ?_
      exact bpX11_row_130_166 x k40 hk40 S v1 (t0 + t1) v3 (S.1 130 6) 1 _ _ hm
    · rw [if_neg c1] at hm
      refine Ev.steps tokX11_row 2 (P := True) (pc' := 166) (lv' := [some (.ref 130), some (.int v1), some (.int (t0 + t1)), some (.int v3), some (.int v4)]) (st' := [.int 0, .int (S.1 130 6), .ref 130]) (h' := mkS x S) rfl trivial ?_
      refine Ev.fgt (lv' := [some (.ref 130), some (.int v1), some (.int (t0 + t1)), some (.int v3), none]) ⟨rfl, rfl, rfl, rfl, trivial⟩ ?_
      exact bpX11_row_130_166 x k40 hk40 S v1 (t0 + t1) v3 (S.1 130 6) 0 _ _ hm
set_option maxHeartbeats 4000000 in
set_option maxRecDepth 20000 in
theorem bpX11_row_130_138 (x : XT) (k40 : ST → Int32 → Int32 → Int32 → Option (Int32 × ST)) (hk40 : ∀ (S : ST) (v1 : Int32) (v2 : Int32) (v3 : Int32) (r : Int32) (S' : ST), k40 S v1 v2 v3 = some (r, S') → Ev mX11_row 4 0 0 40 [some (.ref 130), some (.int v1), some (.int v2), some (.int v3), none] [] (mkS x S) (fun v h => v = some (.int r) ∧ h = mkS x S')) (S : ST) (v1 : Int32) (v2 : Int32) (v3 : Int32) (v4 : Int32) (r : Int32) (S' : ST) (hm : bfX11_row_130_138 x k40 S v1 v2 v3 v4 = some (r, S')) : Ev mX11_row 4 0 0 138 [some (.ref 130), some (.int v1), some (.int v2), some (.int v3), some (.int v4)] [] (mkS x S) (fun v h => v = some (.int r) ∧ h = mkS x S') := by
    unfold bfX11_row_130_138 at hm
    refine Ev.steps tokX11_row 3 (P := True) (pc' := if v4 = 0 then 148 else 144) (lv' := [some (.ref 130), some (.int v1), some (.int v2), some (.int v3), some (.int v4)]) (st' := [.int v2]) (h' := mkS x S) rfl trivial ?_
    refine Ev.ite (fun c1 => ?_) (fun c1 => ?_)
    · rw [if_pos c1] at hm
      refine Ev.steps tokX11_row 1 (P := True) (pc' := 149) (lv' := [some (.ref 130), some (.int v1), some (.int v2), some (.int v3), some (.int v4)]) (st' := [.int 0, .int v2]) (h' := mkS x S) rfl trivial ?_
      refine Ev.fgt (lv' := [some (.ref 130), some (.int v1), none, some (.int v3), some (.int v4)]) ⟨rfl, rfl, rfl, rfl, trivial⟩ ?_
      exact bpX11_row_130_149 x k40 hk40 S v1 v3 v4 v2 0 _ _ hm
    · rw [if_neg c1] at hm
      refine Ev.steps tokX11_row 2 (P := True) (pc' := 149) (lv' := [some (.ref 130), some (.int v1), some (.int v2), some (.int v3), some (.int v4)]) (st' := [.int 1, .int v2]) (h' := mkS x S) rfl trivial ?_
      refine Ev.fgt (lv' := [some (.ref 130), some (.int v1), none, some (.int v3), some (.int v4)]) ⟨rfl, rfl, rfl, rfl, trivial⟩ ?_
      exact bpX11_row_130_149 x k40 hk40 S v1 v3 v4 v2 1 _ _ hm
set_option maxHeartbeats 4000000 in
set_option maxRecDepth 20000 in
theorem bpX11_row_130_97 (x : XT) (k40 : ST → Int32 → Int32 → Int32 → Option (Int32 × ST)) (hk40 : ∀ (S : ST) (v1 : Int32) (v2 : Int32) (v3 : Int32) (r : Int32) (S' : ST), k40 S v1 v2 v3 = some (r, S') → Ev mX11_row 4 0 0 40 [some (.ref 130), some (.int v1), some (.int v2), some (.int v3), none] [] (mkS x S) (fun v h => v = some (.int r) ∧ h = mkS x S')) (S : ST) (v1 : Int32) (v2 : Int32) (v3 : Int32) (t0 : Int32) (r : Int32) (S' : ST) (hm : bfX11_row_130_97 x k40 S v1 v2 v3 t0 = some (r, S')) : Ev mX11_row 4 0 0 97 [some (.ref 130), some (.int v1), some (.int v2), some (.int v3), none] [.int t0] (mkS x S) (fun v h => v = some (.int r) ∧ h = mkS x S') := by
    unfold bfX11_row_130_97 at hm
    refine Ev.steps tokX11_row 3 (P := True) (pc' := if t0 = 0 then 138 else 104) (lv' := [some (.ref 130), some (.int v1), some (.int v2), some (.int v3), some (.int t0)]) (st' := []) (h' := mkS x S) rfl trivial ?_
    refine Ev.ite (fun c1 => ?_) (fun c1 => ?_)
    · rw [if_pos c1] at hm
      exact bpX11_row_130_138 x k40 hk40 S v1 v2 v3 t0 _ _ hm
    · rw [if_neg c1] at hm
      obtain ⟨o2, hm⟩ := oblk hm
      obtain ⟨o3, hm⟩ := oblk hm
      obtain ⟨o4, hm⟩ := oblk hm
      obtain ⟨o5, hm⟩ := oblk hm
      refine Ev.steps tokX11_row 23 (P := vp_in v3 400 ∧ vp_in (v3 + 1) 400 ∧ vp_in (v3 + 2) 400 ∧ vp_in (v3 + 3) 400 ∧ True) (pc' := 135) (lv' := [some (.ref 130), some (.int v1), some (.int v2), some (.int v3), some (.int t0)]) (st' := [.int (S.2.1 137 ((v3 + 3).toNatClampNeg)), .int (S.2.1 137 ((v3 + 2).toNatClampNeg)), .int (S.2.1 137 ((v3 + 1).toNatClampNeg)), .int (S.2.1 137 v3.toNatClampNeg), .ref 130]) (h' := mkS x S) rfl ⟨inb_ok o2, inb_ok o3, inb_ok o4, inb_ok o5, trivial⟩ ?_
      cases h6 : gfX11_adds_130 x S (S.2.1 137 v3.toNatClampNeg) (S.2.1 137 ((v3 + 1).toNatClampNeg)) (S.2.1 137 ((v3 + 2).toNatClampNeg)) (S.2.1 137 ((v3 + 3).toNatClampNeg)) with
      | none => rw [h6] at hm; cases hm
      | some q7 =>
        obtain ⟨r8, S9⟩ := q7
        rw [h6] at hm
        dsimp only at hm
        refine ev_callV (N := mX11_adds) (d' := 2) (bc := 0) (bs := 0) (bc' := 0) (bs' := 0) (as := [.int (S.2.1 137 v3.toNatClampNeg), .int (S.2.1 137 ((v3 + 1).toNatClampNeg)), .int (S.2.1 137 ((v3 + 2).toNatClampNeg)), .int (S.2.1 137 ((v3 + 3).toNatClampNeg))]) (rest := []) (a := 130) (ci := 11) (dcd tokX11_row rfl) okX11_adds inX11_adds seX11_adds lk11_139 rfl (by decide) (Nat.le_of_ble_eq_true rfl) rfl ⟨by decide, rfl⟩ (gpX11_adds_130 x S (S.2.1 137 v3.toNatClampNeg) (S.2.1 137 ((v3 + 1).toNatClampNeg)) (S.2.1 137 ((v3 + 2).toNatClampNeg)) (S.2.1 137 ((v3 + 3).toNatClampNeg)) _ _ h6) (fun v h' hq hn => ?_)
        obtain ⟨rfl, rfl⟩ := hq
        exact bpX11_row_130_138 x k40 hk40 S9 v1 v2 v3 t0 _ _ hm
set_option maxHeartbeats 4000000 in
set_option maxRecDepth 20000 in
theorem bpX11_row_130_96 (x : XT) (k40 : ST → Int32 → Int32 → Int32 → Option (Int32 × ST)) (hk40 : ∀ (S : ST) (v1 : Int32) (v2 : Int32) (v3 : Int32) (r : Int32) (S' : ST), k40 S v1 v2 v3 = some (r, S') → Ev mX11_row 4 0 0 40 [some (.ref 130), some (.int v1), some (.int v2), some (.int v3), none] [] (mkS x S) (fun v h => v = some (.int r) ∧ h = mkS x S')) (S : ST) (v1 : Int32) (v2 : Int32) (v3 : Int32) (r : Int32) (S' : ST) (hm : bfX11_row_130_96 x k40 S v1 v2 v3 = some (r, S')) : Ev mX11_row 4 0 0 96 [some (.ref 130), some (.int v1), some (.int v2), some (.int v3), none] [] (mkS x S) (fun v h => v = some (.int r) ∧ h = mkS x S') := by
    unfold bfX11_row_130_96 at hm
    refine Ev.steps tokX11_row 1 (P := True) (pc' := 97) (lv' := [some (.ref 130), some (.int v1), some (.int v2), some (.int v3), none]) (st' := [.int 0]) (h' := mkS x S) rfl trivial ?_
    exact bpX11_row_130_97 x k40 hk40 S v1 v2 v3 0 _ _ hm
set_option maxHeartbeats 4000000 in
set_option maxRecDepth 20000 in
theorem bpX11_row_130_40 (x : XT) (k40 : ST → Int32 → Int32 → Int32 → Option (Int32 × ST)) (hk40 : ∀ (S : ST) (v1 : Int32) (v2 : Int32) (v3 : Int32) (r : Int32) (S' : ST), k40 S v1 v2 v3 = some (r, S') → Ev mX11_row 4 0 0 40 [some (.ref 130), some (.int v1), some (.int v2), some (.int v3), none] [] (mkS x S) (fun v h => v = some (.int r) ∧ h = mkS x S')) (S : ST) (v1 : Int32) (v2 : Int32) (v3 : Int32) (r : Int32) (S' : ST) (hm : bfX11_row_130_40 x k40 S v1 v2 v3 = some (r, S')) : Ev mX11_row 4 0 0 40 [some (.ref 130), some (.int v1), some (.int v2), some (.int v3), none] [] (mkS x S) (fun v h => v = some (.int r) ∧ h = mkS x S') := by
    unfold bfX11_row_130_40 at hm
    refine Ev.steps tokX11_row 5 (P := True) (pc' := if v1 < (v3 + 4) then 176 else 47) (lv' := [some (.ref 130), some (.int v1), some (.int v2), some (.int v3), none]) (st' := []) (h' := mkS x S) rfl trivial ?_
    refine Ev.ite (fun c1 => ?_) (fun c1 => ?_)
    · rw [if_pos c1] at hm
      refine Ev.steps tokX11_row 2 (P := True) (pc' := 178) (lv' := [some (.ref 130), some (.int v1), some (.int v2), some (.int v3), none]) (st' := [.int v2, .ref 130]) (h' := mkS x S) rfl trivial ?_
      cases h2 : gfX11_settled_130 x S v2 with
      | none => rw [h2] at hm; cases hm
      | some q3 =>
        obtain ⟨r4, S5⟩ := q3
        rw [h2] at hm
        dsimp only at hm
        refine ev_callV (N := mX11_settled) (d' := 2) (bc := 0) (bs := 0) (bc' := 0) (bs' := 0) (as := [.int v2]) (rest := []) (a := 130) (ci := 11) (dcd tokX11_row rfl) okX11_settled inX11_settled seX11_settled lk11_121 rfl (by decide) (Nat.le_of_ble_eq_true rfl) rfl ⟨by decide, rfl⟩ (gpX11_settled_130 x S v2 _ _ h2) (fun v h' hq hn => ?_)
        obtain ⟨rfl, rfl⟩ := hq
        cases hm
        exact Ev.reti tokX11_row rfl rfl ⟨rfl, rfl⟩
    · rw [if_neg c1] at hm
      refine Ev.steps tokX11_row 1 (P := True) (pc' := 48) (lv' := [some (.ref 130), some (.int v1), some (.int v2), some (.int v3), none]) (st' := [.ref 130]) (h' := mkS x S) rfl trivial ?_
      cases h6 : gfX11_gateMany_130 x S with
      | none => rw [h6] at hm; cases hm
      | some q7 =>
        obtain ⟨r8, S9⟩ := q7
        rw [h6] at hm
        dsimp only at hm
        refine ev_callV (N := mX11_gateMany) (d' := 1) (bc := 0) (bs := 0) (bc' := 0) (bs' := 0) (as := []) (rest := []) (a := 130) (ci := 11) (dcd tokX11_row rfl) okX11_gateMany inX11_gateMany seX11_gateMany lk11_124 rfl (by decide) (Nat.le_of_ble_eq_true rfl) rfl ⟨by decide, rfl⟩ (gpX11_gateMany_130 x S _ _ h6) (fun v h' hq hn => ?_)
        obtain ⟨rfl, rfl⟩ := hq
        refine Ev.steps tokX11_row 2 (P := True) (pc' := if 10 ≤ r8 then 96 else 56) (lv' := [some (.ref 130), some (.int v1), some (.int v2), some (.int v3), none]) (st' := []) (h' := mkS x S9) rfl trivial ?_
        refine Ev.ite (fun c10 => ?_) (fun c10 => ?_)
        · rw [if_pos c10] at hm
          exact bpX11_row_130_96 x k40 hk40 S9 v1 v2 v3 _ _ hm
        · rw [if_neg c10] at hm
          obtain ⟨o11, hm⟩ := oblk hm
          obtain ⟨o12, hm⟩ := oblk hm
          obtain ⟨o13, hm⟩ := oblk hm
          obtain ⟨o14, hm⟩ := oblk hm
          refine Ev.steps tokX11_row 22 (P := vp_in v3 400 ∧ vp_in (v3 + 1) 400 ∧ vp_in (v3 + 2) 400 ∧ vp_in (v3 + 3) 400 ∧ True) (pc' := 86) (lv' := [some (.ref 130), some (.int v1), some (.int v2), some (.int v3), none]) (st' := [.int (S9.2.1 137 ((v3 + 3).toNatClampNeg)), .int (S9.2.1 137 ((v3 + 2).toNatClampNeg)), .int (S9.2.1 137 ((v3 + 1).toNatClampNeg)), .int (S9.2.1 137 v3.toNatClampNeg)]) (h' := mkS x S9) rfl ⟨inb_ok o11, inb_ok o12, inb_ok o13, inb_ok o14, trivial⟩ ?_
          cases h15 : gfX11_canGate x S9 (S9.2.1 137 v3.toNatClampNeg) (S9.2.1 137 ((v3 + 1).toNatClampNeg)) (S9.2.1 137 ((v3 + 2).toNatClampNeg)) (S9.2.1 137 ((v3 + 3).toNatClampNeg)) with
          | none => rw [h15] at hm; cases hm
          | some q16 =>
            obtain ⟨r17, S18⟩ := q16
            rw [h15] at hm
            dsimp only at hm
            refine ev_callS (N := mX11_canGate) (d' := 3) (bc := 0) (bs := 0) (bc' := 0) (bs' := 0) (as := [.int (S9.2.1 137 v3.toNatClampNeg), .int (S9.2.1 137 ((v3 + 1).toNatClampNeg)), .int (S9.2.1 137 ((v3 + 2).toNatClampNeg)), .int (S9.2.1 137 ((v3 + 3).toNatClampNeg))]) (rest := []) (dcd tokX11_row rfl) okX11_canGate inX11_canGate lk11_135 rfl (by decide) (Nat.le_of_ble_eq_true rfl) (gpX11_canGate x S9 (S9.2.1 137 v3.toNatClampNeg) (S9.2.1 137 ((v3 + 1).toNatClampNeg)) (S9.2.1 137 ((v3 + 2).toNatClampNeg)) (S9.2.1 137 ((v3 + 3).toNatClampNeg)) _ _ h15) (fun v h' hq hn => ?_)
            obtain ⟨rfl, rfl⟩ := hq
            refine Ev.steps tokX11_row 1 (P := True) (pc' := if r17 = 0 then 96 else 92) (lv' := [some (.ref 130), some (.int v1), some (.int v2), some (.int v3), none]) (st' := []) (h' := mkS x S18) rfl trivial ?_
            refine Ev.ite (fun c19 => ?_) (fun c19 => ?_)
            · rw [if_pos c19] at hm
              exact bpX11_row_130_96 x k40 hk40 S18 v1 v2 v3 _ _ hm
            · rw [if_neg c19] at hm
              refine Ev.steps tokX11_row 2 (P := True) (pc' := 97) (lv' := [some (.ref 130), some (.int v1), some (.int v2), some (.int v3), none]) (st' := [.int 1]) (h' := mkS x S18) rfl trivial ?_
              exact bpX11_row_130_97 x k40 hk40 S18 v1 v2 v3 1 _ _ hm
theorem lpX11_row_130_40 (x : XT)  : ∀ (n : Nat) (S : ST) (v1 : Int32) (v2 : Int32) (v3 : Int32) (r : Int32) (S' : ST), lfX11_row_130_40 x  n S v1 v2 v3 = some (r, S') → Ev mX11_row 4 0 0 40 [some (.ref 130), some (.int v1), some (.int v2), some (.int v3), none] [] (mkS x S) (fun v h => v = some (.int r) ∧ h = mkS x S')
  | 0, _, _, _, _, _, _, hm => by cases hm
  | n + 1, S, v1, v2, v3, r, S', hm => bpX11_row_130_40 x (lfX11_row_130_40 x  n) (lpX11_row_130_40 x  n) S v1 v2 v3 r S' hm
set_option maxHeartbeats 4000000 in
set_option maxRecDepth 20000 in
theorem bpX11_row_130_35 (x : XT)  (S : ST) (v1 : Int32) (v2 : Int32) (t1 : Int32) (r : Int32) (S' : ST) (hm : bfX11_row_130_35 x  S v1 v2 t1 = some (r, S')) : Ev mX11_row 4 0 0 35 [some (.ref 130), some (.int v1), some (.int v2), none, none] [.int t1, .ref 130] (mkS x S) (fun v h => v = some (.int r) ∧ h = mkS x S') := by
    unfold bfX11_row_130_35 at hm
    refine Ev.steps tokX11_row 3 (P := True) (pc' := 40) (lv' := [some (.ref 130), some (.int v1), some (.int v2), some (.int 0), none]) (st' := []) (h' := mkS x ((u2 S.1 130 6 t1), S.2.1, S.2.2.1, S.2.2.2)) rfl trivial ?_
    exact lpX11_row_130_40 x  20000 ((u2 S.1 130 6 t1), S.2.1, S.2.2.1, S.2.2.2) v1 v2 0 _ _ hm
set_option maxHeartbeats 4000000 in
set_option maxRecDepth 20000 in
theorem bpX11_row_130_0 (x : XT)  (S : ST)  (r : Int32) (S' : ST) (hm : bfX11_row_130_0 x  S  = some (r, S')) : Ev mX11_row 4 0 0 0 [some (.ref 130), none, none, none, none] [] (mkS x S) (fun v h => v = some (.int r) ∧ h = mkS x S') := by
    unfold bfX11_row_130_0 at hm
    refine Ev.steps tokX11_row 8 (P := True) (pc' := if ¬ (S.1 130 13) = 0 then 21 else 14) (lv' := [some (.ref 130), some (.int (S.1 130 13)), none, none, none]) (st' := []) (h' := mkS x ((u2 S.1 130 13 0), S.2.1, S.2.2.1, S.2.2.2)) rfl trivial ?_
    refine Ev.ite (fun c1 => ?_) (fun c1 => ?_)
    · rw [if_pos c1] at hm
      refine Ev.steps tokX11_row 7 (P := ¬ 4 = 0 ∧ True) (pc' := if ¬ ((S.1 130 13) - (S.1 130 13) / 4 * 4) = 0 then 34 else 30) (lv' := [some (.ref 130), some (.int (S.1 130 13)), some (.int 0), none, none]) (st' := [.ref 130]) (h' := mkS x ((u2 S.1 130 13 0), S.2.1, S.2.2.1, S.2.2.2)) rfl ⟨(by decide), trivial⟩ ?_
      refine Ev.ite (fun c2 => ?_) (fun c2 => ?_)
      · rw [if_pos c2] at hm
        refine Ev.steps tokX11_row 1 (P := True) (pc' := 35) (lv' := [some (.ref 130), some (.int (S.1 130 13)), some (.int 0), none, none]) (st' := [.int 1, .ref 130]) (h' := mkS x ((u2 S.1 130 13 0), S.2.1, S.2.2.1, S.2.2.2)) rfl trivial ?_
        exact bpX11_row_130_35 x ((u2 S.1 130 13 0), S.2.1, S.2.2.1, S.2.2.2) (S.1 130 13) 0 1 _ _ hm
      · rw [if_neg c2] at hm
        refine Ev.steps tokX11_row 2 (P := True) (pc' := 35) (lv' := [some (.ref 130), some (.int (S.1 130 13)), some (.int 0), none, none]) (st' := [.int 0, .ref 130]) (h' := mkS x ((u2 S.1 130 13 0), S.2.1, S.2.2.1, S.2.2.2)) rfl trivial ?_
        exact bpX11_row_130_35 x ((u2 S.1 130 13 0), S.2.1, S.2.2.1, S.2.2.2) (S.1 130 13) 0 0 _ _ hm
    · rw [if_neg c1] at hm
      refine Ev.steps tokX11_row 2 (P := True) (pc' := 17) (lv' := [some (.ref 130), some (.int (S.1 130 13)), none, none, none]) (st' := [.int (-6), .ref 130]) (h' := mkS x ((u2 S.1 130 13 0), S.2.1, S.2.2.1, S.2.2.2)) rfl trivial ?_
      cases h3 : gfX11_refuses_130 x ((u2 S.1 130 13 0), S.2.1, S.2.2.1, S.2.2.2) (-6) with
      | none => rw [h3] at hm; cases hm
      | some q4 =>
        obtain ⟨r5, S6⟩ := q4
        rw [h3] at hm
        dsimp only at hm
        refine ev_callV (N := mX11_refuses) (d' := 1) (bc := 0) (bs := 0) (bc' := 0) (bs' := 0) (as := [.int (-6)]) (rest := []) (a := 130) (ci := 11) (dcd tokX11_row rfl) okX11_refuses inX11_refuses seX11_refuses lk11_118 rfl (by decide) (Nat.le_of_ble_eq_true rfl) rfl ⟨by decide, rfl⟩ (gpX11_refuses_130 x ((u2 S.1 130 13 0), S.2.1, S.2.2.1, S.2.2.2) (-6) _ _ h3) (fun v h' hq hn => ?_)
        obtain ⟨rfl, rfl⟩ := hq
        cases hm
        exact Ev.reti tokX11_row rfl rfl ⟨rfl, rfl⟩
theorem gpX11_row_130 (x : XT) (S : ST)  (r : Int32) (S' : ST) (hm : gfX11_row_130 x S  = some (r, S')) : Ct mX11_row 4 0 0 [.ref 130] (mkS x S) (fun v h => v = some (.int r) ∧ h = mkS x S') :=
  Ct.of (lv := [some (.ref 130), none, none, none, none]) rfl rfl rfl (show (_ : Nat) ≤ _ from Nat.le_of_ble_eq_true rfl) (fun G => rfl) (bpX11_row_130_0 x S  r S' hm)
set_option maxHeartbeats 4000000 in
set_option maxRecDepth 20000 in
theorem bpX11_rust_130_0 (x : XT)  (S : ST)  (r : Int32) (S' : ST) (hm : bfX11_rust_130_0 x  S  = some (r, S')) : Ev mX11_rust 1 0 0 0 [some (.ref 130)] [] (mkS x S) (fun v h => v = some (.int r) ∧ h = mkS x S') := by
    unfold bfX11_rust_130_0 at hm
    refine Ev.steps tokX11_rust 2 (P := True) (pc' := 4) (lv' := [some (.ref 130)]) (st' := [.int (S.1 130 6)]) (h' := mkS x S) rfl trivial ?_
    cases hm
    exact Ev.reti tokX11_rust rfl rfl ⟨rfl, rfl⟩
theorem gpX11_rust_130 (x : XT) (S : ST)  (r : Int32) (S' : ST) (hm : gfX11_rust_130 x S  = some (r, S')) : Ct mX11_rust 1 0 0 [.ref 130] (mkS x S) (fun v h => v = some (.int r) ∧ h = mkS x S') :=
  Ct.of (lv := [some (.ref 130)]) rfl rfl rfl (show (_ : Nat) ≤ _ from Nat.le_of_ble_eq_true rfl) (fun G => rfl) (bpX11_rust_130_0 x S  r S' hm)
set_option maxHeartbeats 4000000 in
set_option maxRecDepth 20000 in
theorem bpX11_feed_130_55 (x : XT) (k55 : ST → Int32 → Option (Int32 × ST)) (hk55 : ∀ (S : ST) (v6 : Int32) (r : Int32) (S' : ST), k55 S v6 = some (r, S') → Ev mX11_feed 1 0 0 55 [some (.ref 130), none, none, none, none, none, some (.int v6)] [] (mkS x S) (fun v h => v = some (.int r) ∧ h = mkS x S')) (S : ST) (v6 : Int32) (r : Int32) (S' : ST) (hm : bfX11_feed_130_55 x k55 S v6 = some (r, S')) : Ev mX11_feed 1 0 0 55 [some (.ref 130), none, none, none, none, none, some (.int v6)] [] (mkS x S) (fun v h => v = some (.int r) ∧ h = mkS x S') := by
    unfold bfX11_feed_130_55 at hm
    refine Ev.steps tokX11_feed 3 (P := True) (pc' := if 20 ≤ v6 then 101 else 62) (lv' := [some (.ref 130), none, none, none, none, none, some (.int v6)]) (st' := []) (h' := mkS x S) rfl trivial ?_
    refine Ev.ite (fun c1 => ?_) (fun c1 => ?_)
    · rw [if_pos c1] at hm
      refine Ev.steps tokX11_feed 8 (P := True) (pc' := 116) (lv' := [some (.ref 130), none, none, none, none, none, some (.int v6)]) (st' := [.int ((S.1 130 13) + 20)]) (h' := mkS x ((u2 S.1 130 13 ((S.1 130 13) + 20)), S.2.1, S.2.2.1, S.2.2.2)) rfl trivial ?_
      cases hm
      exact Ev.reti tokX11_feed rfl rfl ⟨rfl, rfl⟩
    · rw [if_neg c1] at hm
      obtain ⟨o2, hm⟩ := oblk hm
      obtain ⟨o3, hm⟩ := oblk hm
      refine Ev.steps tokX11_feed 24 (P := ¬ 4 = 0 ∧ vp_in (v6 / 4) 5 ∧ ¬ 4 = 0 ∧ vp_in ((S.1 130 13) + v6) 400 ∧ True) (pc' := 55) (lv' := [some (.ref 130), none, none, none, none, none, some (.int (v6 + 1))]) (st' := []) (h' := mkS x (S.1, (u2 S.2.1 137 (((S.1 130 13) + v6).toNatClampNeg) ((((S.2.1 138 ((v6 / 4).toNatClampNeg)) >>> ((24 - (8 * (v6 - v6 / 4 * 4))) &&& 31)).toInt8.toInt32).toInt8.toInt32)), S.2.2.1, S.2.2.2)) rfl ⟨(by decide), inb_ok o2, (by decide), inb_ok o3, trivial⟩ ?_
      exact hk55 (S.1, (u2 S.2.1 137 (((S.1 130 13) + v6).toNatClampNeg) ((((S.2.1 138 ((v6 / 4).toNatClampNeg)) >>> ((24 - (8 * (v6 - v6 / 4 * 4))) &&& 31)).toInt8.toInt32).toInt8.toInt32)), S.2.2.1, S.2.2.2) (v6 + 1) _ _ hm
theorem lpX11_feed_130_55 (x : XT)  : ∀ (n : Nat) (S : ST) (v6 : Int32) (r : Int32) (S' : ST), lfX11_feed_130_55 x  n S v6 = some (r, S') → Ev mX11_feed 1 0 0 55 [some (.ref 130), none, none, none, none, none, some (.int v6)] [] (mkS x S) (fun v h => v = some (.int r) ∧ h = mkS x S')
  | 0, _, _, _, _, hm => by cases hm
  | n + 1, S, v6, r, S', hm => bpX11_feed_130_55 x (lfX11_feed_130_55 x  n) (lpX11_feed_130_55 x  n) S v6 r S' hm
set_option maxHeartbeats 4000000 in
set_option maxRecDepth 20000 in
theorem bpX11_feed_130_0 (x : XT)  (S : ST) (p1 : Int32) (p2 : Int32) (p3 : Int32) (p4 : Int32) (p5 : Int32) (r : Int32) (S' : ST) (hm : bfX11_feed_130_0 x  S p1 p2 p3 p4 p5 = some (r, S')) : Ev mX11_feed 1 0 0 0 [some (.ref 130), some (.int p1), some (.int p2), some (.int p3), some (.int p4), some (.int p5), none] [] (mkS x S) (fun v h => v = some (.int r) ∧ h = mkS x S') := by
    unfold bfX11_feed_130_0 at hm
    refine Ev.steps tokX11_feed 6 (P := True) (pc' := if ((S.1 130 13) + 20) ≤ 400 then 15 else 13) (lv' := [some (.ref 130), some (.int p1), some (.int p2), some (.int p3), some (.int p4), some (.int p5), none]) (st' := []) (h' := mkS x S) rfl trivial ?_
    refine Ev.ite (fun c1 => ?_) (fun c1 => ?_)
    · rw [if_pos c1] at hm
      refine Ev.steps tokX11_feed 27 (P := vp_in 0 5 ∧ vp_in 1 5 ∧ vp_in 2 5 ∧ vp_in 3 5 ∧ vp_in 4 5 ∧ True) (pc' := 55) (lv' := [some (.ref 130), some (.int p1), some (.int p2), some (.int p3), some (.int p4), some (.int p5), some (.int 0)]) (st' := []) (h' := mkS x (S.1, (u2 (u2 (u2 (u2 (u2 S.2.1 138 0 p1) 138 1 p2) 138 2 p3) 138 3 p4) 138 4 p5), S.2.2.1, S.2.2.2)) rfl ⟨(by unfold vp_in; decide), (by unfold vp_in; decide), (by unfold vp_in; decide), (by unfold vp_in; decide), (by unfold vp_in; decide), trivial⟩ ?_
      refine Ev.fgt (lv' := [some (.ref 130), none, none, none, none, none, some (.int 0)]) ⟨rfl, rfl, trivial⟩ ?_
      exact lpX11_feed_130_55 x  20000 (S.1, (u2 (u2 (u2 (u2 (u2 S.2.1 138 0 p1) 138 1 p2) 138 2 p3) 138 3 p4) 138 4 p5), S.2.2.1, S.2.2.2) 0 _ _ hm
    · rw [if_neg c1] at hm
      refine Ev.steps tokX11_feed 1 (P := True) (pc' := 14) (lv' := [some (.ref 130), some (.int p1), some (.int p2), some (.int p3), some (.int p4), some (.int p5), none]) (st' := [.int (-1)]) (h' := mkS x S) rfl trivial ?_
      cases hm
      exact Ev.reti tokX11_feed rfl rfl ⟨rfl, rfl⟩
theorem gpX11_feed_130 (x : XT) (S : ST) (p1 : Int32) (p2 : Int32) (p3 : Int32) (p4 : Int32) (p5 : Int32) (r : Int32) (S' : ST) (hm : gfX11_feed_130 x S p1 p2 p3 p4 p5 = some (r, S')) : Ct mX11_feed 1 0 0 [.ref 130, .int p1, .int p2, .int p3, .int p4, .int p5] (mkS x S) (fun v h => v = some (.int r) ∧ h = mkS x S') :=
  Ct.of (lv := [some (.ref 130), some (.int p1), some (.int p2), some (.int p3), some (.int p4), some (.int p5), none]) rfl rfl rfl (show (_ : Nat) ≤ _ from Nat.le_of_ble_eq_true rfl) (fun G => rfl) (bpX11_feed_130_0 x S p1 p2 p3 p4 p5 r S' hm)
set_option maxHeartbeats 4000000 in
set_option maxRecDepth 20000 in
theorem bpX11_end_130_0 (x : XT)  (S : ST) (p1 : Int32) (r : Int32) (S' : ST) (hm : bfX11_end_130_0 x  S p1 = some (r, S')) : Ev mX11_end 2 0 0 0 [some (.ref 130), some (.int p1)] [] (mkS x S) (fun v h => v = some (.int r) ∧ h = mkS x S') := by
    unfold bfX11_end_130_0 at hm
    refine Ev.steps tokX11_end 4 (P := True) (pc' := 6) (lv' := [some (.ref 130), some (.int p1)]) (st' := [.int (S.1 130 13), .int 0, .int p1]) (h' := mkS x S) rfl trivial ?_
    cases h1 : gfX11_lies x S p1 0 (S.1 130 13) with
    | none => rw [h1] at hm; cases hm
    | some q2 =>
      obtain ⟨r3, S4⟩ := q2
      rw [h1] at hm
      dsimp only at hm
      refine ev_callS (N := mX11_lies) (d' := 1) (bc := 0) (bs := 0) (bc' := 0) (bs' := 0) (as := [.int p1, .int 0, .int (S.1 130 13)]) (rest := []) (dcd tokX11_end rfl) okX11_lies inX11_lies lk11_18 rfl (by decide) (Nat.le_of_ble_eq_true rfl) (gpX11_lies x S p1 0 (S.1 130 13) _ _ h1) (fun v h' hq hn => ?_)
      obtain ⟨rfl, rfl⟩ := hq
      refine Ev.steps tokX11_end 1 (P := True) (pc' := if ¬ r3 = 0 then 14 else 12) (lv' := [some (.ref 130), some (.int p1)]) (st' := []) (h' := mkS x S4) rfl trivial ?_
      refine Ev.ite (fun c5 => ?_) (fun c5 => ?_)
      · rw [if_pos c5] at hm
        refine Ev.steps tokX11_end 4 (P := True) (pc' := 20) (lv' := [some (.ref 130), some (.int p1)]) (st' := [.int p1]) (h' := mkS x ((u2 S4.1 130 13 p1), S4.2.1, S4.2.2.1, S4.2.2.2)) rfl trivial ?_
        cases hm
        exact Ev.reti tokX11_end rfl rfl ⟨rfl, rfl⟩
      · rw [if_neg c5] at hm
        refine Ev.steps tokX11_end 1 (P := True) (pc' := 13) (lv' := [some (.ref 130), some (.int p1)]) (st' := [.int (-1)]) (h' := mkS x S4) rfl trivial ?_
        cases hm
        exact Ev.reti tokX11_end rfl rfl ⟨rfl, rfl⟩
theorem gpX11_end_130 (x : XT) (S : ST) (p1 : Int32) (r : Int32) (S' : ST) (hm : gfX11_end_130 x S p1 = some (r, S')) : Ct mX11_end 2 0 0 [.ref 130, .int p1] (mkS x S) (fun v h => v = some (.int r) ∧ h = mkS x S') :=
  Ct.of (lv := [some (.ref 130), some (.int p1)]) rfl rfl rfl (show (_ : Nat) ≤ _ from Nat.le_of_ble_eq_true rfl) (fun G => rfl) (bpX11_end_130_0 x S p1 r S' hm)
set_option maxHeartbeats 4000000 in
set_option maxRecDepth 20000 in
theorem bpX11_isSmall_17 (x : XT)  (S : ST) (t0 : Int32) (r : Int32) (S' : ST) (hm : bfX11_isSmall_17 x  S t0 = some (r, S')) : Ev mX11_isSmall 1 0 0 17 [none] [.int t0] (mkS x S) (fun v h => v = some (.int r) ∧ h = mkS x S') := by
    unfold bfX11_isSmall_17 at hm
    obtain ⟨o1, hm⟩ := oblk hm
    cases hm
    exact Ev.retz tokX11_isSmall rfl rfl (bbz_ok o1) ⟨rfl, rfl⟩
set_option maxHeartbeats 4000000 in
set_option maxRecDepth 20000 in
theorem bpX11_isSmall_16 (x : XT)  (S : ST)  (r : Int32) (S' : ST) (hm : bfX11_isSmall_16 x  S  = some (r, S')) : Ev mX11_isSmall 1 0 0 16 [none] [] (mkS x S) (fun v h => v = some (.int r) ∧ h = mkS x S') := by
    unfold bfX11_isSmall_16 at hm
    refine Ev.steps tokX11_isSmall 1 (P := True) (pc' := 17) (lv' := [none]) (st' := [.int 0]) (h' := mkS x S) rfl trivial ?_
    exact bpX11_isSmall_17 x S 0 _ _ hm
set_option maxHeartbeats 4000000 in
set_option maxRecDepth 20000 in
theorem bpX11_isSmall_0 (x : XT)  (S : ST) (p0 : Int32) (r : Int32) (S' : ST) (hm : bfX11_isSmall_0 x  S p0 = some (r, S')) : Ev mX11_isSmall 1 0 0 0 [some (.int p0)] [] (mkS x S) (fun v h => v = some (.int r) ∧ h = mkS x S') := by
    unfold bfX11_isSmall_0 at hm
    refine Ev.steps tokX11_isSmall 3 (P := True) (pc' := if p0 < 97 then 16 else 6) (lv' := [some (.int p0)]) (st' := []) (h' := mkS x S) rfl trivial ?_
    refine Ev.ite (fun c1 => ?_) (fun c1 => ?_)
    · rw [if_pos c1] at hm
      refine Ev.fgt (lv' := [none]) trivial ?_
      exact bpX11_isSmall_16 x S _ _ hm
    · rw [if_neg c1] at hm
      refine Ev.steps tokX11_isSmall 3 (P := True) (pc' := if 122 < p0 then 16 else 12) (lv' := [some (.int p0)]) (st' := []) (h' := mkS x S) rfl trivial ?_
      refine Ev.ite (fun c2 => ?_) (fun c2 => ?_)
      · rw [if_pos c2] at hm
        refine Ev.fgt (lv' := [none]) trivial ?_
        exact bpX11_isSmall_16 x S _ _ hm
      · rw [if_neg c2] at hm
        refine Ev.steps tokX11_isSmall 2 (P := True) (pc' := 17) (lv' := [some (.int p0)]) (st' := [.int 1]) (h' := mkS x S) rfl trivial ?_
        refine Ev.fgt (lv' := [none]) trivial ?_
        exact bpX11_isSmall_17 x S 1 _ _ hm
theorem gpX11_isSmall (x : XT) (S : ST) (p0 : Int32) (r : Int32) (S' : ST) (hm : gfX11_isSmall x S p0 = some (r, S')) : Ct mX11_isSmall 1 0 0 [.int p0] (mkS x S) (fun v h => v = some (.int r) ∧ h = mkS x S') :=
  Ct.of (lv := [some (.int p0)]) rfl rfl rfl (show (_ : Nat) ≤ _ from Nat.le_of_ble_eq_true rfl) (fun G => rfl) (bpX11_isSmall_0 x S p0 r S' hm)
set_option maxHeartbeats 4000000 in
set_option maxRecDepth 20000 in
theorem bpX11_isDigit_17 (x : XT)  (S : ST) (t0 : Int32) (r : Int32) (S' : ST) (hm : bfX11_isDigit_17 x  S t0 = some (r, S')) : Ev mX11_isDigit 1 0 0 17 [none] [.int t0] (mkS x S) (fun v h => v = some (.int r) ∧ h = mkS x S') := by
    unfold bfX11_isDigit_17 at hm
    obtain ⟨o1, hm⟩ := oblk hm
    cases hm
    exact Ev.retz tokX11_isDigit rfl rfl (bbz_ok o1) ⟨rfl, rfl⟩
set_option maxHeartbeats 4000000 in
set_option maxRecDepth 20000 in
theorem bpX11_isDigit_16 (x : XT)  (S : ST)  (r : Int32) (S' : ST) (hm : bfX11_isDigit_16 x  S  = some (r, S')) : Ev mX11_isDigit 1 0 0 16 [none] [] (mkS x S) (fun v h => v = some (.int r) ∧ h = mkS x S') := by
    unfold bfX11_isDigit_16 at hm
    refine Ev.steps tokX11_isDigit 1 (P := True) (pc' := 17) (lv' := [none]) (st' := [.int 0]) (h' := mkS x S) rfl trivial ?_
    exact bpX11_isDigit_17 x S 0 _ _ hm
set_option maxHeartbeats 4000000 in
set_option maxRecDepth 20000 in
theorem bpX11_isDigit_0 (x : XT)  (S : ST) (p0 : Int32) (r : Int32) (S' : ST) (hm : bfX11_isDigit_0 x  S p0 = some (r, S')) : Ev mX11_isDigit 1 0 0 0 [some (.int p0)] [] (mkS x S) (fun v h => v = some (.int r) ∧ h = mkS x S') := by
    unfold bfX11_isDigit_0 at hm
    refine Ev.steps tokX11_isDigit 3 (P := True) (pc' := if p0 < 48 then 16 else 6) (lv' := [some (.int p0)]) (st' := []) (h' := mkS x S) rfl trivial ?_
    refine Ev.ite (fun c1 => ?_) (fun c1 => ?_)
    · rw [if_pos c1] at hm
      refine Ev.fgt (lv' := [none]) trivial ?_
      exact bpX11_isDigit_16 x S _ _ hm
    · rw [if_neg c1] at hm
      refine Ev.steps tokX11_isDigit 3 (P := True) (pc' := if 57 < p0 then 16 else 12) (lv' := [some (.int p0)]) (st' := []) (h' := mkS x S) rfl trivial ?_
      refine Ev.ite (fun c2 => ?_) (fun c2 => ?_)
      · rw [if_pos c2] at hm
        refine Ev.fgt (lv' := [none]) trivial ?_
        exact bpX11_isDigit_16 x S _ _ hm
      · rw [if_neg c2] at hm
        refine Ev.steps tokX11_isDigit 2 (P := True) (pc' := 17) (lv' := [some (.int p0)]) (st' := [.int 1]) (h' := mkS x S) rfl trivial ?_
        refine Ev.fgt (lv' := [none]) trivial ?_
        exact bpX11_isDigit_17 x S 1 _ _ hm
theorem gpX11_isDigit (x : XT) (S : ST) (p0 : Int32) (r : Int32) (S' : ST) (hm : gfX11_isDigit x S p0 = some (r, S')) : Ct mX11_isDigit 1 0 0 [.int p0] (mkS x S) (fun v h => v = some (.int r) ∧ h = mkS x S') :=
  Ct.of (lv := [some (.int p0)]) rfl rfl rfl (show (_ : Nat) ≤ _ from Nat.le_of_ble_eq_true rfl) (fun G => rfl) (bpX11_isDigit_0 x S p0 r S' hm)
set_option maxHeartbeats 4000000 in
set_option maxRecDepth 20000 in
theorem bpX11_wordOf_130_104 (x : XT) (k5 : ST → Int32 → Int32 → Int32 → Int32 → Option (Int32 × ST)) (hk5 : ∀ (S : ST) (v1 : Int32) (v2 : Int32) (v3 : Int32) (v4 : Int32) (r : Int32) (S' : ST), k5 S v1 v2 v3 v4 = some (r, S') → Ev mX11_wordOf 1 0 0 5 [some (.ref 130), some (.int v1), some (.int v2), some (.int v3), some (.int v4), none, none, none] [] (mkS x S) (fun v h => v = some (.int r) ∧ h = mkS x S')) (S : ST) (v1 : Int32) (v2 : Int32) (v3 : Int32) (v4 : Int32) (v5 : Int32) (v6 : Int32) (r : Int32) (S' : ST) (hm : bfX11_wordOf_130_104 x k5 S v1 v2 v3 v4 v5 v6 = some (r, S')) : Ev mX11_wordOf 1 0 0 104 [some (.ref 130), some (.int v1), some (.int v2), some (.int v3), some (.int v4), some (.int v5), some (.int v6), none] [] (mkS x S) (fun v h => v = some (.int r) ∧ h = mkS x S') := by
    unfold bfX11_wordOf_130_104 at hm
    refine Ev.steps tokX11_wordOf 2 (P := True) (pc' := if v6 = 0 then 111 else 109) (lv' := [some (.ref 130), some (.int v1), some (.int v2), some (.int v3), some (.int v4), some (.int v5), some (.int v6), none]) (st' := []) (h' := mkS x S) rfl trivial ?_
    refine Ev.ite (fun c1 => ?_) (fun c1 => ?_)
    · rw [if_pos c1] at hm
      refine Ev.steps tokX11_wordOf 8 (P := True) (pc' := 5) (lv' := [some (.ref 130), some (.int v1), some (.int v2), some (.int (v3 + 1)), some (.int (v4 + (v5 + 1))), some (.int v5), some (.int v6), none]) (st' := []) (h' := mkS x S) rfl trivial ?_
      refine Ev.fgt (lv' := [some (.ref 130), some (.int v1), some (.int v2), some (.int (v3 + 1)), some (.int (v4 + (v5 + 1))), none, none, none]) ⟨rfl, rfl, rfl, rfl, rfl, trivial⟩ ?_
      exact hk5 S v1 v2 (v3 + 1) (v4 + (v5 + 1)) _ _ hm
    · rw [if_neg c1] at hm
      refine Ev.steps tokX11_wordOf 1 (P := True) (pc' := 110) (lv' := [some (.ref 130), some (.int v1), some (.int v2), some (.int v3), some (.int v4), some (.int v5), some (.int v6), none]) (st' := [.int v3]) (h' := mkS x S) rfl trivial ?_
      cases hm
      exact Ev.reti tokX11_wordOf rfl rfl ⟨rfl, rfl⟩
set_option maxHeartbeats 4000000 in
set_option maxRecDepth 20000 in
theorem bpX11_wordOf_130_96 (x : XT) (k5 : ST → Int32 → Int32 → Int32 → Int32 → Option (Int32 × ST)) (hk5 : ∀ (S : ST) (v1 : Int32) (v2 : Int32) (v3 : Int32) (v4 : Int32) (r : Int32) (S' : ST), k5 S v1 v2 v3 v4 = some (r, S') → Ev mX11_wordOf 1 0 0 5 [some (.ref 130), some (.int v1), some (.int v2), some (.int v3), some (.int v4), none, none, none] [] (mkS x S) (fun v h => v = some (.int r) ∧ h = mkS x S')) (k57 : ST → Int32 → Int32 → Int32 → Int32 → Int32 → Int32 → Int32 → Option (Int32 × ST)) (hk57 : ∀ (S : ST) (v1 : Int32) (v2 : Int32) (v3 : Int32) (v4 : Int32) (v5 : Int32) (v6 : Int32) (v7 : Int32) (r : Int32) (S' : ST), k57 S v1 v2 v3 v4 v5 v6 v7 = some (r, S') → Ev mX11_wordOf 1 0 0 57 [some (.ref 130), some (.int v1), some (.int v2), some (.int v3), some (.int v4), some (.int v5), some (.int v6), some (.int v7)] [] (mkS x S) (fun v h => v = some (.int r) ∧ h = mkS x S')) (S : ST) (v1 : Int32) (v2 : Int32) (v3 : Int32) (v4 : Int32) (v5 : Int32) (v7 : Int32) (t0 : Int32) (r : Int32) (S' : ST) (hm : bfX11_wordOf_130_96 x k5 k57 S v1 v2 v3 v4 v5 v7 t0 = some (r, S')) : Ev mX11_wordOf 1 0 0 96 [some (.ref 130), some (.int v1), some (.int v2), some (.int v3), some (.int v4), some (.int v5), none, some (.int v7)] [.int t0] (mkS x S) (fun v h => v = some (.int r) ∧ h = mkS x S') := by
    unfold bfX11_wordOf_130_96 at hm
    refine Ev.steps tokX11_wordOf 3 (P := True) (pc' := 57) (lv' := [some (.ref 130), some (.int v1), some (.int v2), some (.int v3), some (.int v4), some (.int v5), some (.int t0), some (.int (v7 + 1))]) (st' := []) (h' := mkS x S) rfl trivial ?_
    exact hk57 S v1 v2 v3 v4 v5 t0 (v7 + 1) _ _ hm
set_option maxHeartbeats 4000000 in
set_option maxRecDepth 20000 in
theorem bpX11_wordOf_130_57 (x : XT) (k5 : ST → Int32 → Int32 → Int32 → Int32 → Option (Int32 × ST)) (hk5 : ∀ (S : ST) (v1 : Int32) (v2 : Int32) (v3 : Int32) (v4 : Int32) (r : Int32) (S' : ST), k5 S v1 v2 v3 v4 = some (r, S') → Ev mX11_wordOf 1 0 0 5 [some (.ref 130), some (.int v1), some (.int v2), some (.int v3), some (.int v4), none, none, none] [] (mkS x S) (fun v h => v = some (.int r) ∧ h = mkS x S')) (k57 : ST → Int32 → Int32 → Int32 → Int32 → Int32 → Int32 → Int32 → Option (Int32 × ST)) (hk57 : ∀ (S : ST) (v1 : Int32) (v2 : Int32) (v3 : Int32) (v4 : Int32) (v5 : Int32) (v6 : Int32) (v7 : Int32) (r : Int32) (S' : ST), k57 S v1 v2 v3 v4 v5 v6 v7 = some (r, S') → Ev mX11_wordOf 1 0 0 57 [some (.ref 130), some (.int v1), some (.int v2), some (.int v3), some (.int v4), some (.int v5), some (.int v6), some (.int v7)] [] (mkS x S) (fun v h => v = some (.int r) ∧ h = mkS x S')) (S : ST) (v1 : Int32) (v2 : Int32) (v3 : Int32) (v4 : Int32) (v5 : Int32) (v6 : Int32) (v7 : Int32) (r : Int32) (S' : ST) (hm : bfX11_wordOf_130_57 x k5 k57 S v1 v2 v3 v4 v5 v6 v7 = some (r, S')) : Ev mX11_wordOf 1 0 0 57 [some (.ref 130), some (.int v1), some (.int v2), some (.int v3), some (.int v4), some (.int v5), some (.int v6), some (.int v7)] [] (mkS x S) (fun v h => v = some (.int r) ∧ h = mkS x S') := by
    unfold bfX11_wordOf_130_57 at hm
    refine Ev.steps tokX11_wordOf 3 (P := True) (pc' := if v5 ≤ v7 then 104 else 64) (lv' := [some (.ref 130), some (.int v1), some (.int v2), some (.int v3), some (.int v4), some (.int v5), some (.int v6), some (.int v7)]) (st' := []) (h' := mkS x S) rfl trivial ?_
    refine Ev.ite (fun c1 => ?_) (fun c1 => ?_)
    · rw [if_pos c1] at hm
      refine Ev.fgt (lv' := [some (.ref 130), some (.int v1), some (.int v2), some (.int v3), some (.int v4), some (.int v5), some (.int v6), none]) ⟨rfl, rfl, rfl, rfl, rfl, rfl, rfl, trivial⟩ ?_
      exact bpX11_wordOf_130_104 x k5 hk5 S v1 v2 v3 v4 v5 v6 _ _ hm
    · rw [if_neg c1] at hm
      refine Ev.steps tokX11_wordOf 2 (P := True) (pc' := if v6 = 0 then 104 else 69) (lv' := [some (.ref 130), some (.int v1), some (.int v2), some (.int v3), some (.int v4), some (.int v5), some (.int v6), some (.int v7)]) (st' := []) (h' := mkS x S) rfl trivial ?_
      refine Ev.ite (fun c2 => ?_) (fun c2 => ?_)
      · rw [if_pos c2] at hm
        refine Ev.fgt (lv' := [some (.ref 130), some (.int v1), some (.int v2), some (.int v3), some (.int v4), some (.int v5), some (.int v6), none]) ⟨rfl, rfl, rfl, rfl, rfl, rfl, rfl, trivial⟩ ?_
        exact bpX11_wordOf_130_104 x k5 hk5 S v1 v2 v3 v4 v5 v6 _ _ hm
      · rw [if_neg c2] at hm
        obtain ⟨o3, hm⟩ := oblk hm
        obtain ⟨o4, hm⟩ := oblk hm
        refine Ev.steps tokX11_wordOf 13 (P := vp_in (v4 + v7) 122 ∧ vp_in (v1 + v7) 400 ∧ True) (pc' := if ¬ (S.2.1 136 ((v4 + v7).toNatClampNeg)) = (S.2.1 137 ((v1 + v7).toNatClampNeg)) then 95 else 91) (lv' := [some (.ref 130), some (.int v1), some (.int v2), some (.int v3), some (.int v4), some (.int v5), some (.int v6), some (.int v7)]) (st' := []) (h' := mkS x S) rfl ⟨inb_ok o3, inb_ok o4, trivial⟩ ?_
        refine Ev.ite (fun c5 => ?_) (fun c5 => ?_)
        · rw [if_pos c5] at hm
          refine Ev.steps tokX11_wordOf 1 (P := True) (pc' := 96) (lv' := [some (.ref 130), some (.int v1), some (.int v2), some (.int v3), some (.int v4), some (.int v5), some (.int v6), some (.int v7)]) (st' := [.int 0]) (h' := mkS x S) rfl trivial ?_
          refine Ev.fgt (lv' := [some (.ref 130), some (.int v1), some (.int v2), some (.int v3), some (.int v4), some (.int v5), none, some (.int v7)]) ⟨rfl, rfl, rfl, rfl, rfl, rfl, rfl, trivial⟩ ?_
          exact bpX11_wordOf_130_96 x k5 hk5 k57 hk57 S v1 v2 v3 v4 v5 v7 0 _ _ hm
        · rw [if_neg c5] at hm
          refine Ev.steps tokX11_wordOf 2 (P := True) (pc' := 96) (lv' := [some (.ref 130), some (.int v1), some (.int v2), some (.int v3), some (.int v4), some (.int v5), some (.int v6), some (.int v7)]) (st' := [.int 1]) (h' := mkS x S) rfl trivial ?_
          refine Ev.fgt (lv' := [some (.ref 130), some (.int v1), some (.int v2), some (.int v3), some (.int v4), some (.int v5), none, some (.int v7)]) ⟨rfl, rfl, rfl, rfl, rfl, rfl, rfl, trivial⟩ ?_
          exact bpX11_wordOf_130_96 x k5 hk5 k57 hk57 S v1 v2 v3 v4 v5 v7 1 _ _ hm
theorem lpX11_wordOf_130_57 (x : XT) (k5 : ST → Int32 → Int32 → Int32 → Int32 → Option (Int32 × ST)) (hk5 : ∀ (S : ST) (v1 : Int32) (v2 : Int32) (v3 : Int32) (v4 : Int32) (r : Int32) (S' : ST), k5 S v1 v2 v3 v4 = some (r, S') → Ev mX11_wordOf 1 0 0 5 [some (.ref 130), some (.int v1), some (.int v2), some (.int v3), some (.int v4), none, none, none] [] (mkS x S) (fun v h => v = some (.int r) ∧ h = mkS x S')) : ∀ (n : Nat) (S : ST) (v1 : Int32) (v2 : Int32) (v3 : Int32) (v4 : Int32) (v5 : Int32) (v6 : Int32) (v7 : Int32) (r : Int32) (S' : ST), lfX11_wordOf_130_57 x k5 n S v1 v2 v3 v4 v5 v6 v7 = some (r, S') → Ev mX11_wordOf 1 0 0 57 [some (.ref 130), some (.int v1), some (.int v2), some (.int v3), some (.int v4), some (.int v5), some (.int v6), some (.int v7)] [] (mkS x S) (fun v h => v = some (.int r) ∧ h = mkS x S')
  | 0, _, _, _, _, _, _, _, _, _, _, hm => by cases hm
  | n + 1, S, v1, v2, v3, v4, v5, v6, v7, r, S', hm => bpX11_wordOf_130_57 x k5 hk5 (lfX11_wordOf_130_57 x k5 n) (lpX11_wordOf_130_57 x k5 hk5 n) S v1 v2 v3 v4 v5 v6 v7 r S' hm
set_option maxHeartbeats 4000000 in
set_option maxRecDepth 20000 in
theorem bpX11_wordOf_130_52 (x : XT) (k5 : ST → Int32 → Int32 → Int32 → Int32 → Option (Int32 × ST)) (hk5 : ∀ (S : ST) (v1 : Int32) (v2 : Int32) (v3 : Int32) (v4 : Int32) (r : Int32) (S' : ST), k5 S v1 v2 v3 v4 = some (r, S') → Ev mX11_wordOf 1 0 0 5 [some (.ref 130), some (.int v1), some (.int v2), some (.int v3), some (.int v4), none, none, none] [] (mkS x S) (fun v h => v = some (.int r) ∧ h = mkS x S')) (S : ST) (v1 : Int32) (v2 : Int32) (v3 : Int32) (v4 : Int32) (v5 : Int32) (t0 : Int32) (r : Int32) (S' : ST) (hm : bfX11_wordOf_130_52 x k5 S v1 v2 v3 v4 v5 t0 = some (r, S')) : Ev mX11_wordOf 1 0 0 52 [some (.ref 130), some (.int v1), some (.int v2), some (.int v3), some (.int v4), some (.int v5), none, none] [.int t0] (mkS x S) (fun v h => v = some (.int r) ∧ h = mkS x S') := by
    unfold bfX11_wordOf_130_52 at hm
    refine Ev.steps tokX11_wordOf 3 (P := True) (pc' := 57) (lv' := [some (.ref 130), some (.int v1), some (.int v2), some (.int v3), some (.int v4), some (.int v5), some (.int t0), some (.int 0)]) (st' := []) (h' := mkS x S) rfl trivial ?_
    exact lpX11_wordOf_130_57 x k5 hk5 20000 S v1 v2 v3 v4 v5 t0 0 _ _ hm
set_option maxHeartbeats 4000000 in
set_option maxRecDepth 20000 in
theorem bpX11_wordOf_130_18 (x : XT) (k5 : ST → Int32 → Int32 → Int32 → Int32 → Option (Int32 × ST)) (hk5 : ∀ (S : ST) (v1 : Int32) (v2 : Int32) (v3 : Int32) (v4 : Int32) (r : Int32) (S' : ST), k5 S v1 v2 v3 v4 = some (r, S') → Ev mX11_wordOf 1 0 0 5 [some (.ref 130), some (.int v1), some (.int v2), some (.int v3), some (.int v4), none, none, none] [] (mkS x S) (fun v h => v = some (.int r) ∧ h = mkS x S')) (k18 : ST → Int32 → Int32 → Int32 → Int32 → Int32 → Option (Int32 × ST)) (hk18 : ∀ (S : ST) (v1 : Int32) (v2 : Int32) (v3 : Int32) (v4 : Int32) (v5 : Int32) (r : Int32) (S' : ST), k18 S v1 v2 v3 v4 v5 = some (r, S') → Ev mX11_wordOf 1 0 0 18 [some (.ref 130), some (.int v1), some (.int v2), some (.int v3), some (.int v4), some (.int v5), none, none] [] (mkS x S) (fun v h => v = some (.int r) ∧ h = mkS x S')) (S : ST) (v1 : Int32) (v2 : Int32) (v3 : Int32) (v4 : Int32) (v5 : Int32) (r : Int32) (S' : ST) (hm : bfX11_wordOf_130_18 x k5 k18 S v1 v2 v3 v4 v5 = some (r, S')) : Ev mX11_wordOf 1 0 0 18 [some (.ref 130), some (.int v1), some (.int v2), some (.int v3), some (.int v4), some (.int v5), none, none] [] (mkS x S) (fun v h => v = some (.int r) ∧ h = mkS x S') := by
    unfold bfX11_wordOf_130_18 at hm
    obtain ⟨o1, hm⟩ := oblk hm
    refine Ev.steps tokX11_wordOf 8 (P := vp_in (v4 + v5) 122 ∧ True) (pc' := if (S.2.1 136 ((v4 + v5).toNatClampNeg)) = 32 then 39 else 33) (lv' := [some (.ref 130), some (.int v1), some (.int v2), some (.int v3), some (.int v4), some (.int v5), none, none]) (st' := []) (h' := mkS x S) rfl ⟨inb_ok o1, trivial⟩ ?_
    refine Ev.ite (fun c2 => ?_) (fun c2 => ?_)
    · rw [if_pos c2] at hm
      refine Ev.steps tokX11_wordOf 5 (P := True) (pc' := if ¬ v5 = (v2 - v1) then 51 else 47) (lv' := [some (.ref 130), some (.int v1), some (.int v2), some (.int v3), some (.int v4), some (.int v5), none, none]) (st' := []) (h' := mkS x S) rfl trivial ?_
      refine Ev.ite (fun c3 => ?_) (fun c3 => ?_)
      · rw [if_pos c3] at hm
        refine Ev.steps tokX11_wordOf 1 (P := True) (pc' := 52) (lv' := [some (.ref 130), some (.int v1), some (.int v2), some (.int v3), some (.int v4), some (.int v5), none, none]) (st' := [.int 0]) (h' := mkS x S) rfl trivial ?_
        exact bpX11_wordOf_130_52 x k5 hk5 S v1 v2 v3 v4 v5 0 _ _ hm
      · rw [if_neg c3] at hm
        refine Ev.steps tokX11_wordOf 2 (P := True) (pc' := 52) (lv' := [some (.ref 130), some (.int v1), some (.int v2), some (.int v3), some (.int v4), some (.int v5), none, none]) (st' := [.int 1]) (h' := mkS x S) rfl trivial ?_
        exact bpX11_wordOf_130_52 x k5 hk5 S v1 v2 v3 v4 v5 1 _ _ hm
    · rw [if_neg c2] at hm
      refine Ev.steps tokX11_wordOf 2 (P := True) (pc' := 18) (lv' := [some (.ref 130), some (.int v1), some (.int v2), some (.int v3), some (.int v4), some (.int (v5 + 1)), none, none]) (st' := []) (h' := mkS x S) rfl trivial ?_
      exact hk18 S v1 v2 v3 v4 (v5 + 1) _ _ hm
theorem lpX11_wordOf_130_18 (x : XT) (k5 : ST → Int32 → Int32 → Int32 → Int32 → Option (Int32 × ST)) (hk5 : ∀ (S : ST) (v1 : Int32) (v2 : Int32) (v3 : Int32) (v4 : Int32) (r : Int32) (S' : ST), k5 S v1 v2 v3 v4 = some (r, S') → Ev mX11_wordOf 1 0 0 5 [some (.ref 130), some (.int v1), some (.int v2), some (.int v3), some (.int v4), none, none, none] [] (mkS x S) (fun v h => v = some (.int r) ∧ h = mkS x S')) : ∀ (n : Nat) (S : ST) (v1 : Int32) (v2 : Int32) (v3 : Int32) (v4 : Int32) (v5 : Int32) (r : Int32) (S' : ST), lfX11_wordOf_130_18 x k5 n S v1 v2 v3 v4 v5 = some (r, S') → Ev mX11_wordOf 1 0 0 18 [some (.ref 130), some (.int v1), some (.int v2), some (.int v3), some (.int v4), some (.int v5), none, none] [] (mkS x S) (fun v h => v = some (.int r) ∧ h = mkS x S')
  | 0, _, _, _, _, _, _, _, _, hm => by cases hm
  | n + 1, S, v1, v2, v3, v4, v5, r, S', hm => bpX11_wordOf_130_18 x k5 hk5 (lfX11_wordOf_130_18 x k5 n) (lpX11_wordOf_130_18 x k5 hk5 n) S v1 v2 v3 v4 v5 r S' hm
set_option maxHeartbeats 4000000 in
set_option maxRecDepth 20000 in
theorem bpX11_wordOf_130_5 (x : XT) (k5 : ST → Int32 → Int32 → Int32 → Int32 → Option (Int32 × ST)) (hk5 : ∀ (S : ST) (v1 : Int32) (v2 : Int32) (v3 : Int32) (v4 : Int32) (r : Int32) (S' : ST), k5 S v1 v2 v3 v4 = some (r, S') → Ev mX11_wordOf 1 0 0 5 [some (.ref 130), some (.int v1), some (.int v2), some (.int v3), some (.int v4), none, none, none] [] (mkS x S) (fun v h => v = some (.int r) ∧ h = mkS x S')) (S : ST) (v1 : Int32) (v2 : Int32) (v3 : Int32) (v4 : Int32) (r : Int32) (S' : ST) (hm : bfX11_wordOf_130_5 x k5 S v1 v2 v3 v4 = some (r, S')) : Ev mX11_wordOf 1 0 0 5 [some (.ref 130), some (.int v1), some (.int v2), some (.int v3), some (.int v4), none, none, none] [] (mkS x S) (fun v h => v = some (.int r) ∧ h = mkS x S') := by
    unfold bfX11_wordOf_130_5 at hm
    refine Ev.steps tokX11_wordOf 5 (P := True) (pc' := if 122 ≤ v4 then 126 else 15) (lv' := [some (.ref 130), some (.int v1), some (.int v2), some (.int v3), some (.int v4), none, none, none]) (st' := []) (h' := mkS x S) rfl trivial ?_
    refine Ev.ite (fun c1 => ?_) (fun c1 => ?_)
    · rw [if_pos c1] at hm
      refine Ev.steps tokX11_wordOf 1 (P := True) (pc' := 127) (lv' := [some (.ref 130), some (.int v1), some (.int v2), some (.int v3), some (.int v4), none, none, none]) (st' := [.int 0]) (h' := mkS x S) rfl trivial ?_
      cases hm
      exact Ev.reti tokX11_wordOf rfl rfl ⟨rfl, rfl⟩
    · rw [if_neg c1] at hm
      refine Ev.steps tokX11_wordOf 2 (P := True) (pc' := 18) (lv' := [some (.ref 130), some (.int v1), some (.int v2), some (.int v3), some (.int v4), some (.int 0), none, none]) (st' := []) (h' := mkS x S) rfl trivial ?_
      exact lpX11_wordOf_130_18 x k5 hk5 20000 S v1 v2 v3 v4 0 _ _ hm
theorem lpX11_wordOf_130_5 (x : XT)  : ∀ (n : Nat) (S : ST) (v1 : Int32) (v2 : Int32) (v3 : Int32) (v4 : Int32) (r : Int32) (S' : ST), lfX11_wordOf_130_5 x  n S v1 v2 v3 v4 = some (r, S') → Ev mX11_wordOf 1 0 0 5 [some (.ref 130), some (.int v1), some (.int v2), some (.int v3), some (.int v4), none, none, none] [] (mkS x S) (fun v h => v = some (.int r) ∧ h = mkS x S')
  | 0, _, _, _, _, _, _, _, hm => by cases hm
  | n + 1, S, v1, v2, v3, v4, r, S', hm => bpX11_wordOf_130_5 x (lfX11_wordOf_130_5 x  n) (lpX11_wordOf_130_5 x  n) S v1 v2 v3 v4 r S' hm
set_option maxHeartbeats 4000000 in
set_option maxRecDepth 20000 in
theorem bpX11_wordOf_130_0 (x : XT)  (S : ST) (p1 : Int32) (p2 : Int32) (r : Int32) (S' : ST) (hm : bfX11_wordOf_130_0 x  S p1 p2 = some (r, S')) : Ev mX11_wordOf 1 0 0 0 [some (.ref 130), some (.int p1), some (.int p2), none, none, none, none, none] [] (mkS x S) (fun v h => v = some (.int r) ∧ h = mkS x S') := by
    unfold bfX11_wordOf_130_0 at hm
    refine Ev.steps tokX11_wordOf 4 (P := True) (pc' := 5) (lv' := [some (.ref 130), some (.int p1), some (.int p2), some (.int 1), some (.int 0), none, none, none]) (st' := []) (h' := mkS x S) rfl trivial ?_
    exact lpX11_wordOf_130_5 x  20000 S p1 p2 1 0 _ _ hm
theorem gpX11_wordOf_130 (x : XT) (S : ST) (p1 : Int32) (p2 : Int32) (r : Int32) (S' : ST) (hm : gfX11_wordOf_130 x S p1 p2 = some (r, S')) : Ct mX11_wordOf 1 0 0 [.ref 130, .int p1, .int p2] (mkS x S) (fun v h => v = some (.int r) ∧ h = mkS x S') :=
  Ct.of (lv := [some (.ref 130), some (.int p1), some (.int p2), none, none, none, none, none]) rfl rfl rfl (show (_ : Nat) ≤ _ from Nat.le_of_ble_eq_true rfl) (fun G => rfl) (bpX11_wordOf_130_0 x S p1 p2 r S' hm)
set_option maxHeartbeats 4000000 in
set_option maxRecDepth 20000 in
theorem bpX11_splits_130_247 (x : XT) (k7 : ST → Int32 → Int32 → Option (Unit × ST)) (hk7 : ∀ (S : ST) (v1 : Int32) (v2 : Int32) (r : Unit) (S' : ST), k7 S v1 v2 = some (r, S') → Ev mX11_splits 2 0 0 7 [some (.ref 130), some (.int v1), some (.int v2), none, none, none] [] (mkS x S) (fun v h => v = none ∧ h = mkS x S')) (S : ST) (v1 : Int32) (v4 : Int32) (r : Unit) (S' : ST) (hm : bfX11_splits_130_247 x k7 S v1 v4 = some (r, S')) : Ev mX11_splits 2 0 0 247 [some (.ref 130), some (.int v1), none, none, some (.int v4), none] [] (mkS x S) (fun v h => v = none ∧ h = mkS x S') := by
    unfold bfX11_splits_130_247 at hm
    refine Ev.steps tokX11_splits 9 (P := True) (pc' := 7) (lv' := [some (.ref 130), some (.int v1), some (.int v4), none, some (.int v4), none]) (st' := []) (h' := mkS x ((u2 S.1 130 18 ((S.1 130 18) + 1)), S.2.1, S.2.2.1, S.2.2.2)) rfl trivial ?_
    refine Ev.fgt (lv' := [some (.ref 130), some (.int v1), some (.int v4), none, none, none]) ⟨rfl, rfl, rfl, trivial⟩ ?_
    exact hk7 ((u2 S.1 130 18 ((S.1 130 18) + 1)), S.2.1, S.2.2.1, S.2.2.2) v1 v4 _ _ hm
set_option maxHeartbeats 4000000 in
set_option maxRecDepth 20000 in
theorem bpX11_splits_130_240 (x : XT) (k7 : ST → Int32 → Int32 → Option (Unit × ST)) (hk7 : ∀ (S : ST) (v1 : Int32) (v2 : Int32) (r : Unit) (S' : ST), k7 S v1 v2 = some (r, S') → Ev mX11_splits 2 0 0 7 [some (.ref 130), some (.int v1), some (.int v2), none, none, none] [] (mkS x S) (fun v h => v = none ∧ h = mkS x S')) (k169 : ST → Int32 → Int32 → Int32 → Int32 → Option (Unit × ST)) (hk169 : ∀ (S : ST) (v1 : Int32) (v3 : Int32) (v4 : Int32) (v5 : Int32) (r : Unit) (S' : ST), k169 S v1 v3 v4 v5 = some (r, S') → Ev mX11_splits 2 0 0 169 [some (.ref 130), some (.int v1), none, some (.int v3), some (.int v4), some (.int v5)] [] (mkS x S) (fun v h => v = none ∧ h = mkS x S')) (S : ST) (v1 : Int32) (v3 : Int32) (v4 : Int32) (v5 : Int32) (t1 : Int32) (t2 : Int32) (r : Unit) (S' : ST) (hm : bfX11_splits_130_240 x k7 k169 S v1 v3 v4 v5 t1 t2 = some (r, S')) : Ev mX11_splits 2 0 0 240 [some (.ref 130), some (.int v1), none, some (.int v3), some (.int v4), some (.int v5)] [.int t2, .int t1, .ref 140] (mkS x S) (fun v h => v = none ∧ h = mkS x S') := by
    unfold bfX11_splits_130_240 at hm
    obtain ⟨o1, hm⟩ := oblk hm
    refine Ev.steps tokX11_splits 3 (P := vp_in t1 401 ∧ True) (pc' := 169) (lv' := [some (.ref 130), some (.int v1), none, some (.int v3), some (.int v4), some (.int (v5 + 1))]) (st' := []) (h' := mkS x (S.1, (u2 S.2.1 140 t1.toNatClampNeg t2), S.2.2.1, S.2.2.2)) rfl ⟨inb_ok o1, trivial⟩ ?_
    exact hk169 (S.1, (u2 S.2.1 140 t1.toNatClampNeg t2), S.2.2.1, S.2.2.2) v1 v3 v4 (v5 + 1) _ _ hm
set_option maxHeartbeats 4000000 in
set_option maxRecDepth 20000 in
theorem bpX11_splits_130_169 (x : XT) (k7 : ST → Int32 → Int32 → Option (Unit × ST)) (hk7 : ∀ (S : ST) (v1 : Int32) (v2 : Int32) (r : Unit) (S' : ST), k7 S v1 v2 = some (r, S') → Ev mX11_splits 2 0 0 7 [some (.ref 130), some (.int v1), some (.int v2), none, none, none] [] (mkS x S) (fun v h => v = none ∧ h = mkS x S')) (k169 : ST → Int32 → Int32 → Int32 → Int32 → Option (Unit × ST)) (hk169 : ∀ (S : ST) (v1 : Int32) (v3 : Int32) (v4 : Int32) (v5 : Int32) (r : Unit) (S' : ST), k169 S v1 v3 v4 v5 = some (r, S') → Ev mX11_splits 2 0 0 169 [some (.ref 130), some (.int v1), none, some (.int v3), some (.int v4), some (.int v5)] [] (mkS x S) (fun v h => v = none ∧ h = mkS x S')) (S : ST) (v1 : Int32) (v3 : Int32) (v4 : Int32) (v5 : Int32) (r : Unit) (S' : ST) (hm : bfX11_splits_130_169 x k7 k169 S v1 v3 v4 v5 = some (r, S')) : Ev mX11_splits 2 0 0 169 [some (.ref 130), some (.int v1), none, some (.int v3), some (.int v4), some (.int v5)] [] (mkS x S) (fun v h => v = none ∧ h = mkS x S') := by
    unfold bfX11_splits_130_169 at hm
    refine Ev.steps tokX11_splits 3 (P := True) (pc' := if v4 ≤ v5 then 247 else 176) (lv' := [some (.ref 130), some (.int v1), none, some (.int v3), some (.int v4), some (.int v5)]) (st' := []) (h' := mkS x S) rfl trivial ?_
    refine Ev.ite (fun c1 => ?_) (fun c1 => ?_)
    · rw [if_pos c1] at hm
      refine Ev.fgt (lv' := [some (.ref 130), some (.int v1), none, none, some (.int v4), none]) ⟨rfl, rfl, rfl, trivial⟩ ?_
      exact bpX11_splits_130_247 x k7 hk7 S v1 v4 _ _ hm
    · rw [if_neg c1] at hm
      refine Ev.steps tokX11_splits 1 (P := True) (pc' := 177) (lv' := [some (.ref 130), some (.int v1), none, some (.int v3), some (.int v4), some (.int v5)]) (st' := [.int v3]) (h' := mkS x S) rfl trivial ?_
      cases h2 : gfX11_isDigit x S v3 with
      | none => rw [h2] at hm; cases hm
      | some q3 =>
        obtain ⟨r4, S5⟩ := q3
        rw [h2] at hm
        dsimp only at hm
        refine ev_callS (N := mX11_isDigit) (d' := 1) (bc := 0) (bs := 0) (bc' := 0) (bs' := 0) (as := [.int v3]) (rest := []) (dcd tokX11_splits rfl) okX11_isDigit inX11_isDigit lk11_191 rfl (by decide) (Nat.le_of_ble_eq_true rfl) (gpX11_isDigit x S v3 _ _ h2) (fun v h' hq hn => ?_)
        obtain ⟨rfl, rfl⟩ := hq
        refine Ev.steps tokX11_splits 1 (P := True) (pc' := if r4 = 0 then 247 else 183) (lv' := [some (.ref 130), some (.int v1), none, some (.int v3), some (.int v4), some (.int v5)]) (st' := []) (h' := mkS x S5) rfl trivial ?_
        refine Ev.ite (fun c6 => ?_) (fun c6 => ?_)
        · rw [if_pos c6] at hm
          refine Ev.fgt (lv' := [some (.ref 130), some (.int v1), none, none, some (.int v4), none]) ⟨rfl, rfl, rfl, trivial⟩ ?_
          exact bpX11_splits_130_247 x k7 hk7 S5 v1 v4 _ _ hm
        · rw [if_neg c6] at hm
          obtain ⟨o7, hm⟩ := oblk hm
          refine Ev.steps tokX11_splits 11 (P := vp_in (S5.1 130 18) 401 ∧ True) (pc' := if (S5.2.1 140 ((S5.1 130 18).toNatClampNeg)) ≤ 1000000 then 217 else 205) (lv' := [some (.ref 130), some (.int v1), none, some (.int v3), some (.int v4), some (.int v5)]) (st' := [.int (S5.1 130 18), .ref 140]) (h' := mkS x S5) rfl ⟨inb_ok o7, trivial⟩ ?_
          refine Ev.ite (fun c8 => ?_) (fun c8 => ?_)
          · rw [if_pos c8] at hm
            obtain ⟨o9, hm⟩ := oblk hm
            obtain ⟨o10, hm⟩ := oblk hm
            refine Ev.steps tokX11_splits 14 (P := vp_in (S5.1 130 18) 401 ∧ vp_in v5 400 ∧ True) (pc' := 240) (lv' := [some (.ref 130), some (.int v1), none, some (.int v3), some (.int v4), some (.int v5)]) (st' := [.int (((10 * (S5.2.1 140 ((S5.1 130 18).toNatClampNeg))) + (S5.2.1 137 v5.toNatClampNeg)) - 48), .int (S5.1 130 18), .ref 140]) (h' := mkS x S5) rfl ⟨inb_ok o9, inb_ok o10, trivial⟩ ?_
            exact bpX11_splits_130_240 x k7 hk7 k169 hk169 S5 v1 v3 v4 v5 (S5.1 130 18) (((10 * (S5.2.1 140 ((S5.1 130 18).toNatClampNeg))) + (S5.2.1 137 v5.toNatClampNeg)) - 48) _ _ hm
          · rw [if_neg c8] at hm
            obtain ⟨o11, hm⟩ := oblk hm
            refine Ev.steps tokX11_splits 6 (P := vp_in (S5.1 130 18) 401 ∧ True) (pc' := 240) (lv' := [some (.ref 130), some (.int v1), none, some (.int v3), some (.int v4), some (.int v5)]) (st' := [.int (S5.2.1 140 ((S5.1 130 18).toNatClampNeg)), .int (S5.1 130 18), .ref 140]) (h' := mkS x S5) rfl ⟨inb_ok o11, trivial⟩ ?_
            exact bpX11_splits_130_240 x k7 hk7 k169 hk169 S5 v1 v3 v4 v5 (S5.1 130 18) (S5.2.1 140 ((S5.1 130 18).toNatClampNeg)) _ _ hm
theorem lpX11_splits_130_169 (x : XT) (k7 : ST → Int32 → Int32 → Option (Unit × ST)) (hk7 : ∀ (S : ST) (v1 : Int32) (v2 : Int32) (r : Unit) (S' : ST), k7 S v1 v2 = some (r, S') → Ev mX11_splits 2 0 0 7 [some (.ref 130), some (.int v1), some (.int v2), none, none, none] [] (mkS x S) (fun v h => v = none ∧ h = mkS x S')) : ∀ (n : Nat) (S : ST) (v1 : Int32) (v3 : Int32) (v4 : Int32) (v5 : Int32) (r : Unit) (S' : ST), lfX11_splits_130_169 x k7 n S v1 v3 v4 v5 = some (r, S') → Ev mX11_splits 2 0 0 169 [some (.ref 130), some (.int v1), none, some (.int v3), some (.int v4), some (.int v5)] [] (mkS x S) (fun v h => v = none ∧ h = mkS x S')
  | 0, _, _, _, _, _, _, _, hm => by cases hm
  | n + 1, S, v1, v3, v4, v5, r, S', hm => bpX11_splits_130_169 x k7 hk7 (lfX11_splits_130_169 x k7 n) (lpX11_splits_130_169 x k7 hk7 n) S v1 v3 v4 v5 r S' hm
set_option maxHeartbeats 4000000 in
set_option maxRecDepth 20000 in
theorem bpX11_splits_130_165 (x : XT) (k7 : ST → Int32 → Int32 → Option (Unit × ST)) (hk7 : ∀ (S : ST) (v1 : Int32) (v2 : Int32) (r : Unit) (S' : ST), k7 S v1 v2 = some (r, S') → Ev mX11_splits 2 0 0 7 [some (.ref 130), some (.int v1), some (.int v2), none, none, none] [] (mkS x S) (fun v h => v = none ∧ h = mkS x S')) (S : ST) (v1 : Int32) (v2 : Int32) (v3 : Int32) (v4 : Int32) (t1 : Int32) (t2 : Int32) (r : Unit) (S' : ST) (hm : bfX11_splits_130_165 x k7 S v1 v2 v3 v4 t1 t2 = some (r, S')) : Ev mX11_splits 2 0 0 165 [some (.ref 130), some (.int v1), some (.int v2), some (.int v3), some (.int v4), none] [.int t2, .int t1, .ref 139] (mkS x S) (fun v h => v = none ∧ h = mkS x S') := by
    unfold bfX11_splits_130_165 at hm
    obtain ⟨o1, hm⟩ := oblk hm
    refine Ev.steps tokX11_splits 3 (P := vp_in t1 401 ∧ True) (pc' := 169) (lv' := [some (.ref 130), some (.int v1), some (.int v2), some (.int v3), some (.int v4), some (.int v2)]) (st' := []) (h' := mkS x (S.1, (u2 S.2.1 139 t1.toNatClampNeg t2), S.2.2.1, S.2.2.2)) rfl ⟨inb_ok o1, trivial⟩ ?_
    refine Ev.fgt (lv' := [some (.ref 130), some (.int v1), none, some (.int v3), some (.int v4), some (.int v2)]) ⟨rfl, rfl, rfl, rfl, rfl, trivial⟩ ?_
    exact lpX11_splits_130_169 x k7 hk7 20000 (S.1, (u2 S.2.1 139 t1.toNatClampNeg t2), S.2.2.1, S.2.2.2) v1 v3 v4 v2 _ _ hm
set_option maxHeartbeats 4000000 in
set_option maxRecDepth 20000 in
theorem bpX11_splits_130_100 (x : XT) (k7 : ST → Int32 → Int32 → Option (Unit × ST)) (hk7 : ∀ (S : ST) (v1 : Int32) (v2 : Int32) (r : Unit) (S' : ST), k7 S v1 v2 = some (r, S') → Ev mX11_splits 2 0 0 7 [some (.ref 130), some (.int v1), some (.int v2), none, none, none] [] (mkS x S) (fun v h => v = none ∧ h = mkS x S')) (S : ST) (v1 : Int32) (v2 : Int32) (v3 : Int32) (v4 : Int32) (r : Unit) (S' : ST) (hm : bfX11_splits_130_100 x k7 S v1 v2 v3 v4 = some (r, S')) : Ev mX11_splits 2 0 0 100 [some (.ref 130), some (.int v1), some (.int v2), some (.int v3), some (.int v4), none] [] (mkS x S) (fun v h => v = none ∧ h = mkS x S') := by
    unfold bfX11_splits_130_100 at hm
    obtain ⟨o1, hm⟩ := oblk hm
    obtain ⟨o2, hm⟩ := oblk hm
    refine Ev.steps tokX11_splits 17 (P := vp_in (S.1 130 18) 401 ∧ vp_in (S.1 130 18) 401 ∧ True) (pc' := 129) (lv' := [some (.ref 130), some (.int v1), some (.int v2), some (.int v3), some (.int v4), none]) (st' := [.int v3, .int (S.1 130 18), .ref 139]) (h' := mkS x (S.1, (u2 (u2 S.2.1 141 ((S.1 130 18).toNatClampNeg) v2) 140 ((S.1 130 18).toNatClampNeg) 0), S.2.2.1, S.2.2.2)) rfl ⟨inb_ok o1, inb_ok o2, trivial⟩ ?_
    cases h3 : gfX11_isSmall x (S.1, (u2 (u2 S.2.1 141 ((S.1 130 18).toNatClampNeg) v2) 140 ((S.1 130 18).toNatClampNeg) 0), S.2.2.1, S.2.2.2) v3 with
    | none => rw [h3] at hm; cases hm
    | some q4 =>
      obtain ⟨r5, S6⟩ := q4
      rw [h3] at hm
      dsimp only at hm
      refine ev_callS (N := mX11_isSmall) (d' := 1) (bc := 0) (bs := 0) (bc' := 0) (bs' := 0) (as := [.int v3]) (rest := [.int (S.1 130 18), .ref 139]) (dcd tokX11_splits rfl) okX11_isSmall inX11_isSmall lk11_188 rfl (by decide) (Nat.le_of_ble_eq_true rfl) (gpX11_isSmall x (S.1, (u2 (u2 S.2.1 141 ((S.1 130 18).toNatClampNeg) v2) 140 ((S.1 130 18).toNatClampNeg) 0), S.2.2.1, S.2.2.2) v3 _ _ h3) (fun v h' hq hn => ?_)
      obtain ⟨rfl, rfl⟩ := hq
      refine Ev.steps tokX11_splits 1 (P := True) (pc' := if r5 = 0 then 145 else 135) (lv' := [some (.ref 130), some (.int v1), some (.int v2), some (.int v3), some (.int v4), none]) (st' := [.int (S.1 130 18), .ref 139]) (h' := mkS x S6) rfl trivial ?_
      refine Ev.ite (fun c7 => ?_) (fun c7 => ?_)
      · rw [if_pos c7] at hm
        refine Ev.steps tokX11_splits 1 (P := True) (pc' := 146) (lv' := [some (.ref 130), some (.int v1), some (.int v2), some (.int v3), some (.int v4), none]) (st' := [.int v3, .int (S.1 130 18), .ref 139]) (h' := mkS x S6) rfl trivial ?_
        cases h8 : gfX11_isDigit x S6 v3 with
        | none => rw [h8] at hm; cases hm
        | some q9 =>
          obtain ⟨r10, S11⟩ := q9
          rw [h8] at hm
          dsimp only at hm
          refine ev_callS (N := mX11_isDigit) (d' := 1) (bc := 0) (bs := 0) (bc' := 0) (bs' := 0) (as := [.int v3]) (rest := [.int (S.1 130 18), .ref 139]) (dcd tokX11_splits rfl) okX11_isDigit inX11_isDigit lk11_191 rfl (by decide) (Nat.le_of_ble_eq_true rfl) (gpX11_isDigit x S6 v3 _ _ h8) (fun v h' hq hn => ?_)
          obtain ⟨rfl, rfl⟩ := hq
          refine Ev.steps tokX11_splits 1 (P := True) (pc' := if r10 = 0 then 157 else 152) (lv' := [some (.ref 130), some (.int v1), some (.int v2), some (.int v3), some (.int v4), none]) (st' := [.int (S.1 130 18), .ref 139]) (h' := mkS x S11) rfl trivial ?_
          refine Ev.ite (fun c12 => ?_) (fun c12 => ?_)
          · rw [if_pos c12] at hm
            refine Ev.steps tokX11_splits 5 (P := True) (pc' := 165) (lv' := [some (.ref 130), some (.int v1), some (.int v2), some (.int v3), some (.int v4), none]) (st' := [.int (100 + (v3 &&& 255)), .int (S.1 130 18), .ref 139]) (h' := mkS x S11) rfl trivial ?_
            exact bpX11_splits_130_165 x k7 hk7 S11 v1 v2 v3 v4 (S.1 130 18) (100 + (v3 &&& 255)) _ _ hm
          · rw [if_neg c12] at hm
            refine Ev.steps tokX11_splits 2 (P := True) (pc' := 165) (lv' := [some (.ref 130), some (.int v1), some (.int v2), some (.int v3), some (.int v4), none]) (st' := [.int 50, .int (S.1 130 18), .ref 139]) (h' := mkS x S11) rfl trivial ?_
            exact bpX11_splits_130_165 x k7 hk7 S11 v1 v2 v3 v4 (S.1 130 18) 50 _ _ hm
      · rw [if_neg c7] at hm
        refine Ev.steps tokX11_splits 3 (P := True) (pc' := 139) (lv' := [some (.ref 130), some (.int v1), some (.int v2), some (.int v3), some (.int v4), none]) (st' := [.int v4, .int v2, .ref 130, .int (S.1 130 18), .ref 139]) (h' := mkS x S6) rfl trivial ?_
        cases h13 : gfX11_wordOf_130 x S6 v2 v4 with
        | none => rw [h13] at hm; cases hm
        | some q14 =>
          obtain ⟨r15, S16⟩ := q14
          rw [h13] at hm
          dsimp only at hm
          refine ev_callV (N := mX11_wordOf) (d' := 1) (bc := 0) (bs := 0) (bc' := 0) (bs' := 0) (as := [.int v2, .int v4]) (rest := [.int (S.1 130 18), .ref 139]) (a := 130) (ci := 11) (dcd tokX11_splits rfl) okX11_wordOf inX11_wordOf seX11_wordOf lk11_194 rfl (by decide) (Nat.le_of_ble_eq_true rfl) rfl ⟨by decide, rfl⟩ (gpX11_wordOf_130 x S6 v2 v4 _ _ h13) (fun v h' hq hn => ?_)
          obtain ⟨rfl, rfl⟩ := hq
          refine Ev.steps tokX11_splits 1 (P := True) (pc' := 165) (lv' := [some (.ref 130), some (.int v1), some (.int v2), some (.int v3), some (.int v4), none]) (st' := [.int r15, .int (S.1 130 18), .ref 139]) (h' := mkS x S16) rfl trivial ?_
          exact bpX11_splits_130_165 x k7 hk7 S16 v1 v2 v3 v4 (S.1 130 18) r15 _ _ hm
set_option maxHeartbeats 4000000 in
set_option maxRecDepth 20000 in
theorem bpX11_splits_130_75 (x : XT) (k7 : ST → Int32 → Int32 → Option (Unit × ST)) (hk7 : ∀ (S : ST) (v1 : Int32) (v2 : Int32) (r : Unit) (S' : ST), k7 S v1 v2 = some (r, S') → Ev mX11_splits 2 0 0 7 [some (.ref 130), some (.int v1), some (.int v2), none, none, none] [] (mkS x S) (fun v h => v = none ∧ h = mkS x S')) (k75 : ST → Int32 → Int32 → Int32 → Int32 → Option (Unit × ST)) (hk75 : ∀ (S : ST) (v1 : Int32) (v2 : Int32) (v3 : Int32) (v4 : Int32) (r : Unit) (S' : ST), k75 S v1 v2 v3 v4 = some (r, S') → Ev mX11_splits 2 0 0 75 [some (.ref 130), some (.int v1), some (.int v2), some (.int v3), some (.int v4), none] [] (mkS x S) (fun v h => v = none ∧ h = mkS x S')) (S : ST) (v1 : Int32) (v2 : Int32) (v3 : Int32) (v4 : Int32) (r : Unit) (S' : ST) (hm : bfX11_splits_130_75 x k7 k75 S v1 v2 v3 v4 = some (r, S')) : Ev mX11_splits 2 0 0 75 [some (.ref 130), some (.int v1), some (.int v2), some (.int v3), some (.int v4), none] [] (mkS x S) (fun v h => v = none ∧ h = mkS x S') := by
    unfold bfX11_splits_130_75 at hm
    refine Ev.steps tokX11_splits 3 (P := True) (pc' := if v1 ≤ v4 then 100 else 81) (lv' := [some (.ref 130), some (.int v1), some (.int v2), some (.int v3), some (.int v4), none]) (st' := []) (h' := mkS x S) rfl trivial ?_
    refine Ev.ite (fun c1 => ?_) (fun c1 => ?_)
    · rw [if_pos c1] at hm
      exact bpX11_splits_130_100 x k7 hk7 S v1 v2 v3 v4 _ _ hm
    · rw [if_neg c1] at hm
      obtain ⟨o2, hm⟩ := oblk hm
      refine Ev.steps tokX11_splits 4 (P := vp_in v4 400 ∧ True) (pc' := 88) (lv' := [some (.ref 130), some (.int v1), some (.int v2), some (.int v3), some (.int v4), none]) (st' := [.int (S.2.1 137 v4.toNatClampNeg)]) (h' := mkS x S) rfl ⟨inb_ok o2, trivial⟩ ?_
      cases h3 : gfX11_isDigit x S (S.2.1 137 v4.toNatClampNeg) with
      | none => rw [h3] at hm; cases hm
      | some q4 =>
        obtain ⟨r5, S6⟩ := q4
        rw [h3] at hm
        dsimp only at hm
        refine ev_callS (N := mX11_isDigit) (d' := 1) (bc := 0) (bs := 0) (bc' := 0) (bs' := 0) (as := [.int (S.2.1 137 v4.toNatClampNeg)]) (rest := []) (dcd tokX11_splits rfl) okX11_isDigit inX11_isDigit lk11_191 rfl (by decide) (Nat.le_of_ble_eq_true rfl) (gpX11_isDigit x S (S.2.1 137 v4.toNatClampNeg) _ _ h3) (fun v h' hq hn => ?_)
        obtain ⟨rfl, rfl⟩ := hq
        refine Ev.steps tokX11_splits 1 (P := True) (pc' := if r5 = 0 then 100 else 94) (lv' := [some (.ref 130), some (.int v1), some (.int v2), some (.int v3), some (.int v4), none]) (st' := []) (h' := mkS x S6) rfl trivial ?_
        refine Ev.ite (fun c7 => ?_) (fun c7 => ?_)
        · rw [if_pos c7] at hm
          exact bpX11_splits_130_100 x k7 hk7 S6 v1 v2 v3 v4 _ _ hm
        · rw [if_neg c7] at hm
          refine Ev.steps tokX11_splits 2 (P := True) (pc' := 75) (lv' := [some (.ref 130), some (.int v1), some (.int v2), some (.int v3), some (.int (v4 + 1)), none]) (st' := []) (h' := mkS x S6) rfl trivial ?_
          exact hk75 S6 v1 v2 v3 (v4 + 1) _ _ hm
theorem lpX11_splits_130_75 (x : XT) (k7 : ST → Int32 → Int32 → Option (Unit × ST)) (hk7 : ∀ (S : ST) (v1 : Int32) (v2 : Int32) (r : Unit) (S' : ST), k7 S v1 v2 = some (r, S') → Ev mX11_splits 2 0 0 7 [some (.ref 130), some (.int v1), some (.int v2), none, none, none] [] (mkS x S) (fun v h => v = none ∧ h = mkS x S')) : ∀ (n : Nat) (S : ST) (v1 : Int32) (v2 : Int32) (v3 : Int32) (v4 : Int32) (r : Unit) (S' : ST), lfX11_splits_130_75 x k7 n S v1 v2 v3 v4 = some (r, S') → Ev mX11_splits 2 0 0 75 [some (.ref 130), some (.int v1), some (.int v2), some (.int v3), some (.int v4), none] [] (mkS x S) (fun v h => v = none ∧ h = mkS x S')
  | 0, _, _, _, _, _, _, _, hm => by cases hm
  | n + 1, S, v1, v2, v3, v4, r, S', hm => bpX11_splits_130_75 x k7 hk7 (lfX11_splits_130_75 x k7 n) (lpX11_splits_130_75 x k7 hk7 n) S v1 v2 v3 v4 r S' hm
set_option maxHeartbeats 4000000 in
set_option maxRecDepth 20000 in
theorem bpX11_splits_130_68 (x : XT) (k7 : ST → Int32 → Int32 → Option (Unit × ST)) (hk7 : ∀ (S : ST) (v1 : Int32) (v2 : Int32) (r : Unit) (S' : ST), k7 S v1 v2 = some (r, S') → Ev mX11_splits 2 0 0 7 [some (.ref 130), some (.int v1), some (.int v2), none, none, none] [] (mkS x S) (fun v h => v = none ∧ h = mkS x S')) (S : ST) (v1 : Int32) (v2 : Int32) (v3 : Int32) (v4 : Int32) (r : Unit) (S' : ST) (hm : bfX11_splits_130_68 x k7 S v1 v2 v3 v4 = some (r, S')) : Ev mX11_splits 2 0 0 68 [some (.ref 130), some (.int v1), some (.int v2), some (.int v3), some (.int v4), none] [] (mkS x S) (fun v h => v = none ∧ h = mkS x S') := by
    unfold bfX11_splits_130_68 at hm
    refine Ev.steps tokX11_splits 1 (P := True) (pc' := 69) (lv' := [some (.ref 130), some (.int v1), some (.int v2), some (.int v3), some (.int v4), none]) (st' := [.int v3]) (h' := mkS x S) rfl trivial ?_
    cases h1 : gfX11_isDigit x S v3 with
    | none => rw [h1] at hm; cases hm
    | some q2 =>
      obtain ⟨r3, S4⟩ := q2
      rw [h1] at hm
      dsimp only at hm
      refine ev_callS (N := mX11_isDigit) (d' := 1) (bc := 0) (bs := 0) (bc' := 0) (bs' := 0) (as := [.int v3]) (rest := []) (dcd tokX11_splits rfl) okX11_isDigit inX11_isDigit lk11_191 rfl (by decide) (Nat.le_of_ble_eq_true rfl) (gpX11_isDigit x S v3 _ _ h1) (fun v h' hq hn => ?_)
      obtain ⟨rfl, rfl⟩ := hq
      refine Ev.steps tokX11_splits 1 (P := True) (pc' := if r3 = 0 then 100 else 75) (lv' := [some (.ref 130), some (.int v1), some (.int v2), some (.int v3), some (.int v4), none]) (st' := []) (h' := mkS x S4) rfl trivial ?_
      refine Ev.ite (fun c5 => ?_) (fun c5 => ?_)
      · rw [if_pos c5] at hm
        exact bpX11_splits_130_100 x k7 hk7 S4 v1 v2 v3 v4 _ _ hm
      · rw [if_neg c5] at hm
        exact lpX11_splits_130_75 x k7 hk7 20000 S4 v1 v2 v3 v4 _ _ hm
set_option maxHeartbeats 4000000 in
set_option maxRecDepth 20000 in
theorem bpX11_splits_130_43 (x : XT) (k7 : ST → Int32 → Int32 → Option (Unit × ST)) (hk7 : ∀ (S : ST) (v1 : Int32) (v2 : Int32) (r : Unit) (S' : ST), k7 S v1 v2 = some (r, S') → Ev mX11_splits 2 0 0 7 [some (.ref 130), some (.int v1), some (.int v2), none, none, none] [] (mkS x S) (fun v h => v = none ∧ h = mkS x S')) (k43 : ST → Int32 → Int32 → Int32 → Int32 → Option (Unit × ST)) (hk43 : ∀ (S : ST) (v1 : Int32) (v2 : Int32) (v3 : Int32) (v4 : Int32) (r : Unit) (S' : ST), k43 S v1 v2 v3 v4 = some (r, S') → Ev mX11_splits 2 0 0 43 [some (.ref 130), some (.int v1), some (.int v2), some (.int v3), some (.int v4), none] [] (mkS x S) (fun v h => v = none ∧ h = mkS x S')) (S : ST) (v1 : Int32) (v2 : Int32) (v3 : Int32) (v4 : Int32) (r : Unit) (S' : ST) (hm : bfX11_splits_130_43 x k7 k43 S v1 v2 v3 v4 = some (r, S')) : Ev mX11_splits 2 0 0 43 [some (.ref 130), some (.int v1), some (.int v2), some (.int v3), some (.int v4), none] [] (mkS x S) (fun v h => v = none ∧ h = mkS x S') := by
    unfold bfX11_splits_130_43 at hm
    refine Ev.steps tokX11_splits 3 (P := True) (pc' := if v1 ≤ v4 then 68 else 49) (lv' := [some (.ref 130), some (.int v1), some (.int v2), some (.int v3), some (.int v4), none]) (st' := []) (h' := mkS x S) rfl trivial ?_
    refine Ev.ite (fun c1 => ?_) (fun c1 => ?_)
    · rw [if_pos c1] at hm
      exact bpX11_splits_130_68 x k7 hk7 S v1 v2 v3 v4 _ _ hm
    · rw [if_neg c1] at hm
      obtain ⟨o2, hm⟩ := oblk hm
      refine Ev.steps tokX11_splits 4 (P := vp_in v4 400 ∧ True) (pc' := 56) (lv' := [some (.ref 130), some (.int v1), some (.int v2), some (.int v3), some (.int v4), none]) (st' := [.int (S.2.1 137 v4.toNatClampNeg)]) (h' := mkS x S) rfl ⟨inb_ok o2, trivial⟩ ?_
      cases h3 : gfX11_isSmall x S (S.2.1 137 v4.toNatClampNeg) with
      | none => rw [h3] at hm; cases hm
      | some q4 =>
        obtain ⟨r5, S6⟩ := q4
        rw [h3] at hm
        dsimp only at hm
        refine ev_callS (N := mX11_isSmall) (d' := 1) (bc := 0) (bs := 0) (bc' := 0) (bs' := 0) (as := [.int (S.2.1 137 v4.toNatClampNeg)]) (rest := []) (dcd tokX11_splits rfl) okX11_isSmall inX11_isSmall lk11_188 rfl (by decide) (Nat.le_of_ble_eq_true rfl) (gpX11_isSmall x S (S.2.1 137 v4.toNatClampNeg) _ _ h3) (fun v h' hq hn => ?_)
        obtain ⟨rfl, rfl⟩ := hq
        refine Ev.steps tokX11_splits 1 (P := True) (pc' := if r5 = 0 then 68 else 62) (lv' := [some (.ref 130), some (.int v1), some (.int v2), some (.int v3), some (.int v4), none]) (st' := []) (h' := mkS x S6) rfl trivial ?_
        refine Ev.ite (fun c7 => ?_) (fun c7 => ?_)
        · rw [if_pos c7] at hm
          exact bpX11_splits_130_68 x k7 hk7 S6 v1 v2 v3 v4 _ _ hm
        · rw [if_neg c7] at hm
          refine Ev.steps tokX11_splits 2 (P := True) (pc' := 43) (lv' := [some (.ref 130), some (.int v1), some (.int v2), some (.int v3), some (.int (v4 + 1)), none]) (st' := []) (h' := mkS x S6) rfl trivial ?_
          exact hk43 S6 v1 v2 v3 (v4 + 1) _ _ hm
theorem lpX11_splits_130_43 (x : XT) (k7 : ST → Int32 → Int32 → Option (Unit × ST)) (hk7 : ∀ (S : ST) (v1 : Int32) (v2 : Int32) (r : Unit) (S' : ST), k7 S v1 v2 = some (r, S') → Ev mX11_splits 2 0 0 7 [some (.ref 130), some (.int v1), some (.int v2), none, none, none] [] (mkS x S) (fun v h => v = none ∧ h = mkS x S')) : ∀ (n : Nat) (S : ST) (v1 : Int32) (v2 : Int32) (v3 : Int32) (v4 : Int32) (r : Unit) (S' : ST), lfX11_splits_130_43 x k7 n S v1 v2 v3 v4 = some (r, S') → Ev mX11_splits 2 0 0 43 [some (.ref 130), some (.int v1), some (.int v2), some (.int v3), some (.int v4), none] [] (mkS x S) (fun v h => v = none ∧ h = mkS x S')
  | 0, _, _, _, _, _, _, _, hm => by cases hm
  | n + 1, S, v1, v2, v3, v4, r, S', hm => bpX11_splits_130_43 x k7 hk7 (lfX11_splits_130_43 x k7 n) (lpX11_splits_130_43 x k7 hk7 n) S v1 v2 v3 v4 r S' hm
set_option maxHeartbeats 4000000 in
set_option maxRecDepth 20000 in
theorem bpX11_splits_130_7 (x : XT) (k7 : ST → Int32 → Int32 → Option (Unit × ST)) (hk7 : ∀ (S : ST) (v1 : Int32) (v2 : Int32) (r : Unit) (S' : ST), k7 S v1 v2 = some (r, S') → Ev mX11_splits 2 0 0 7 [some (.ref 130), some (.int v1), some (.int v2), none, none, none] [] (mkS x S) (fun v h => v = none ∧ h = mkS x S')) (S : ST) (v1 : Int32) (v2 : Int32) (r : Unit) (S' : ST) (hm : bfX11_splits_130_7 x k7 S v1 v2 = some (r, S')) : Ev mX11_splits 2 0 0 7 [some (.ref 130), some (.int v1), some (.int v2), none, none, none] [] (mkS x S) (fun v h => v = none ∧ h = mkS x S') := by
    unfold bfX11_splits_130_7 at hm
    refine Ev.steps tokX11_splits 3 (P := True) (pc' := if v1 ≤ v2 then 263 else 12) (lv' := [some (.ref 130), some (.int v1), some (.int v2), none, none, none]) (st' := []) (h' := mkS x S) rfl trivial ?_
    refine Ev.ite (fun c1 => ?_) (fun c1 => ?_)
    · rw [if_pos c1] at hm
      obtain ⟨o2, hm⟩ := oblk hm
      obtain ⟨o3, hm⟩ := oblk hm
      obtain ⟨o4, hm⟩ := oblk hm
      refine Ev.steps tokX11_splits 18 (P := vp_in (S.1 130 18) 401 ∧ vp_in (S.1 130 18) 401 ∧ vp_in (S.1 130 18) 401 ∧ True) (pc' := 293) (lv' := [some (.ref 130), some (.int v1), some (.int v2), none, none, none]) (st' := []) (h' := mkS x (S.1, (u2 (u2 (u2 S.2.1 141 ((S.1 130 18).toNatClampNeg) v1) 139 ((S.1 130 18).toNatClampNeg) 0) 140 ((S.1 130 18).toNatClampNeg) 0), S.2.2.1, S.2.2.2)) rfl ⟨inb_ok o2, inb_ok o3, inb_ok o4, trivial⟩ ?_
      cases hm
      exact Ev.retv tokX11_splits rfl rfl ⟨rfl, rfl⟩
    · rw [if_neg c1] at hm
      obtain ⟨o5, hm⟩ := oblk hm
      refine Ev.steps tokX11_splits 8 (P := vp_in v2 400 ∧ True) (pc' := if ¬ (S.2.1 137 v2.toNatClampNeg) = 32 then 31 else 25) (lv' := [some (.ref 130), some (.int v1), some (.int v2), some (.int (S.2.1 137 v2.toNatClampNeg)), none, none]) (st' := []) (h' := mkS x S) rfl ⟨inb_ok o5, trivial⟩ ?_
      refine Ev.ite (fun c6 => ?_) (fun c6 => ?_)
      · rw [if_pos c6] at hm
        refine Ev.steps tokX11_splits 5 (P := True) (pc' := 37) (lv' := [some (.ref 130), some (.int v1), some (.int v2), some (.int (S.2.1 137 v2.toNatClampNeg)), some (.int (v2 + 1)), none]) (st' := [.int (S.2.1 137 v2.toNatClampNeg)]) (h' := mkS x S) rfl trivial ?_
        cases h7 : gfX11_isSmall x S (S.2.1 137 v2.toNatClampNeg) with
        | none => rw [h7] at hm; cases hm
        | some q8 =>
          obtain ⟨r9, S10⟩ := q8
          rw [h7] at hm
          dsimp only at hm
          refine ev_callS (N := mX11_isSmall) (d' := 1) (bc := 0) (bs := 0) (bc' := 0) (bs' := 0) (as := [.int (S.2.1 137 v2.toNatClampNeg)]) (rest := []) (dcd tokX11_splits rfl) okX11_isSmall inX11_isSmall lk11_188 rfl (by decide) (Nat.le_of_ble_eq_true rfl) (gpX11_isSmall x S (S.2.1 137 v2.toNatClampNeg) _ _ h7) (fun v h' hq hn => ?_)
          obtain ⟨rfl, rfl⟩ := hq
          refine Ev.steps tokX11_splits 1 (P := True) (pc' := if r9 = 0 then 68 else 43) (lv' := [some (.ref 130), some (.int v1), some (.int v2), some (.int (S.2.1 137 v2.toNatClampNeg)), some (.int (v2 + 1)), none]) (st' := []) (h' := mkS x S10) rfl trivial ?_
          refine Ev.ite (fun c11 => ?_) (fun c11 => ?_)
          · rw [if_pos c11] at hm
            exact bpX11_splits_130_68 x k7 hk7 S10 v1 v2 (S.2.1 137 v2.toNatClampNeg) (v2 + 1) _ _ hm
          · rw [if_neg c11] at hm
            exact lpX11_splits_130_43 x k7 hk7 20000 S10 v1 v2 (S.2.1 137 v2.toNatClampNeg) (v2 + 1) _ _ hm
      · rw [if_neg c6] at hm
        refine Ev.steps tokX11_splits 2 (P := True) (pc' := 7) (lv' := [some (.ref 130), some (.int v1), some (.int (v2 + 1)), some (.int (S.2.1 137 v2.toNatClampNeg)), none, none]) (st' := []) (h' := mkS x S) rfl trivial ?_
        refine Ev.fgt (lv' := [some (.ref 130), some (.int v1), some (.int (v2 + 1)), none, none, none]) ⟨rfl, rfl, rfl, trivial⟩ ?_
        exact hk7 S v1 (v2 + 1) _ _ hm
theorem lpX11_splits_130_7 (x : XT)  : ∀ (n : Nat) (S : ST) (v1 : Int32) (v2 : Int32) (r : Unit) (S' : ST), lfX11_splits_130_7 x  n S v1 v2 = some (r, S') → Ev mX11_splits 2 0 0 7 [some (.ref 130), some (.int v1), some (.int v2), none, none, none] [] (mkS x S) (fun v h => v = none ∧ h = mkS x S')
  | 0, _, _, _, _, _, hm => by cases hm
  | n + 1, S, v1, v2, r, S', hm => bpX11_splits_130_7 x (lfX11_splits_130_7 x  n) (lpX11_splits_130_7 x  n) S v1 v2 r S' hm
set_option maxHeartbeats 4000000 in
set_option maxRecDepth 20000 in
theorem bpX11_splits_130_0 (x : XT)  (S : ST) (p1 : Int32) (r : Unit) (S' : ST) (hm : bfX11_splits_130_0 x  S p1 = some (r, S')) : Ev mX11_splits 2 0 0 0 [some (.ref 130), some (.int p1), none, none, none, none] [] (mkS x S) (fun v h => v = none ∧ h = mkS x S') := by
    unfold bfX11_splits_130_0 at hm
    refine Ev.steps tokX11_splits 5 (P := True) (pc' := 7) (lv' := [some (.ref 130), some (.int p1), some (.int 0), none, none, none]) (st' := []) (h' := mkS x ((u2 S.1 130 18 0), S.2.1, S.2.2.1, S.2.2.2)) rfl trivial ?_
    exact lpX11_splits_130_7 x  20000 ((u2 S.1 130 18 0), S.2.1, S.2.2.1, S.2.2.2) p1 0 _ _ hm
theorem gpX11_splits_130 (x : XT) (S : ST) (p1 : Int32) (r : Unit) (S' : ST) (hm : gfX11_splits_130 x S p1 = some (r, S')) : Ct mX11_splits 2 0 0 [.ref 130, .int p1] (mkS x S) (fun v h => v = none ∧ h = mkS x S') :=
  Ct.of (lv := [some (.ref 130), some (.int p1), none, none, none, none]) rfl rfl rfl (show (_ : Nat) ≤ _ from Nat.le_of_ble_eq_true rfl) (fun G => rfl) (bpX11_splits_130_0 x S p1 r S' hm)
end MIR
