section MIR
set_option maxHeartbeats 4000000 in
set_option maxRecDepth 20000 in
theorem bpX11_drawn_130_23 (x : XT)  (S : ST)  (r : Int32) (S' : ST) (hm : bfX11_drawn_130_23 x  S  = some (r, S')) : Ev mX11_drawn 2 0 0 23 [none, none, none] [] (mkS x S) (fun v h => v = some (.int r) ∧ h = mkS x S') := by
    unfold bfX11_drawn_130_23 at hm
    refine Ev.steps tokX11_drawn 1 (P := True) (pc' := 24) (lv' := [none, none, none]) (st' := [.int (-1)]) (h' := mkS x S) rfl trivial ?_
    cases hm
    exact Ev.reti tokX11_drawn rfl rfl ⟨rfl, rfl⟩
set_option maxHeartbeats 4000000 in
set_option maxRecDepth 20000 in
theorem bpX11_drawn_130_48 (x : XT)  (S : ST) (v1 : Int32) (t1 : Int32) (r : Int32) (S' : ST) (hm : bfX11_drawn_130_48 x  S v1 t1 = some (r, S')) : Ev mX11_drawn 2 0 0 48 [none, some (.int v1), none] [.int t1, .ref 157] (mkS x S) (fun v h => v = some (.int r) ∧ h = mkS x S') := by
    unfold bfX11_drawn_130_48 at hm
    obtain ⟨o1, hm⟩ := oblk hm
    refine Ev.steps tokX11_drawn 3 (P := vp_in (t1 + v1) 36 ∧ True) (pc' := 51) (lv' := [none, some (.int v1), none]) (st' := [.int (S.2.1 157 ((t1 + v1).toNatClampNeg))]) (h' := mkS x S) rfl ⟨inb_ok o1, trivial⟩ ?_
    cases hm
    exact Ev.reti tokX11_drawn rfl rfl ⟨rfl, rfl⟩
set_option maxHeartbeats 4000000 in
set_option maxRecDepth 20000 in
theorem bpX11_drawn_130_0 (x : XT)  (S : ST) (p1 : Int32) (p2 : Int32) (r : Int32) (S' : ST) (hm : bfX11_drawn_130_0 x  S p1 p2 = some (r, S')) : Ev mX11_drawn 2 0 0 0 [some (.ref 130), some (.int p1), some (.int p2)] [] (mkS x S) (fun v h => v = some (.int r) ∧ h = mkS x S') := by
    unfold bfX11_drawn_130_0 at hm
    refine Ev.steps tokX11_drawn 6 (P := True) (pc' := 8) (lv' := [some (.ref 130), some (.int p1), some (.int p2)]) (st' := [.int ((S.1 130 51) - 1), .int 0, .int p1]) (h' := mkS x S) rfl trivial ?_
    cases h1 : gfX11_lies x S p1 0 ((S.1 130 51) - 1) with
    | none => rw [h1] at hm; cases hm
    | some q2 =>
      obtain ⟨r3, S4⟩ := q2
      rw [h1] at hm
      dsimp only at hm
      refine ev_callS (N := mX11_lies) (d' := 1) (bc := 0) (bs := 0) (bc' := 0) (bs' := 0) (as := [.int p1, .int 0, .int ((S.1 130 51) - 1)]) (rest := []) (dcd tokX11_drawn rfl) okX11_lies inX11_lies lk11_18 rfl (by decide) (Nat.le_of_ble_eq_true rfl) (gpX11_lies x S p1 0 ((S.1 130 51) - 1) _ _ h1) (fun v h' hq hn => ?_)
      obtain ⟨rfl, rfl⟩ := hq
      refine Ev.steps tokX11_drawn 1 (P := True) (pc' := if r3 = 0 then 23 else 14) (lv' := [some (.ref 130), some (.int p1), some (.int p2)]) (st' := []) (h' := mkS x S4) rfl trivial ?_
      refine Ev.ite (fun c5 => ?_) (fun c5 => ?_)
      · rw [if_pos c5] at hm
        refine Ev.fgt (lv' := [none, none, none]) trivial ?_
        exact bpX11_drawn_130_23 x S4 _ _ hm
      · rw [if_neg c5] at hm
        refine Ev.steps tokX11_drawn 3 (P := True) (pc' := 17) (lv' := [some (.ref 130), some (.int p1), some (.int p2)]) (st' := [.int 2, .int 0, .int p2]) (h' := mkS x S4) rfl trivial ?_
        cases h6 : gfX11_lies x S4 p2 0 2 with
        | none => rw [h6] at hm; cases hm
        | some q7 =>
          obtain ⟨r8, S9⟩ := q7
          rw [h6] at hm
          dsimp only at hm
          refine ev_callS (N := mX11_lies) (d' := 1) (bc := 0) (bs := 0) (bc' := 0) (bs' := 0) (as := [.int p2, .int 0, .int 2]) (rest := []) (dcd tokX11_drawn rfl) okX11_lies inX11_lies lk11_18 rfl (by decide) (Nat.le_of_ble_eq_true rfl) (gpX11_lies x S4 p2 0 2 _ _ h6) (fun v h' hq hn => ?_)
          obtain ⟨rfl, rfl⟩ := hq
          refine Ev.steps tokX11_drawn 1 (P := True) (pc' := if ¬ r8 = 0 then 25 else 23) (lv' := [some (.ref 130), some (.int p1), some (.int p2)]) (st' := []) (h' := mkS x S9) rfl trivial ?_
          refine Ev.ite (fun c10 => ?_) (fun c10 => ?_)
          · rw [if_pos c10] at hm
            refine Ev.steps tokX11_drawn 4 (P := True) (pc' := if ¬ p2 = 0 then 37 else 33) (lv' := [some (.ref 130), some (.int p1), some (.int p2)]) (st' := [.ref 157]) (h' := mkS x S9) rfl trivial ?_
            refine Ev.ite (fun c11 => ?_) (fun c11 => ?_)
            · rw [if_pos c11] at hm
              refine Ev.steps tokX11_drawn 3 (P := True) (pc' := if ¬ p2 = 1 then 46 else 42) (lv' := [some (.ref 130), some (.int p1), some (.int p2)]) (st' := [.ref 157]) (h' := mkS x S9) rfl trivial ?_
              refine Ev.ite (fun c12 => ?_) (fun c12 => ?_)
              · rw [if_pos c12] at hm
                refine Ev.steps tokX11_drawn 1 (P := True) (pc' := 48) (lv' := [some (.ref 130), some (.int p1), some (.int p2)]) (st' := [.int 10, .ref 157]) (h' := mkS x S9) rfl trivial ?_
                refine Ev.fgt (lv' := [none, some (.int p1), none]) ⟨rfl, trivial⟩ ?_
                exact bpX11_drawn_130_48 x S9 p1 10 _ _ hm
              · rw [if_neg c12] at hm
                refine Ev.steps tokX11_drawn 2 (P := True) (pc' := 48) (lv' := [some (.ref 130), some (.int p1), some (.int p2)]) (st' := [.int 5, .ref 157]) (h' := mkS x S9) rfl trivial ?_
                refine Ev.fgt (lv' := [none, some (.int p1), none]) ⟨rfl, trivial⟩ ?_
                exact bpX11_drawn_130_48 x S9 p1 5 _ _ hm
            · rw [if_neg c11] at hm
              refine Ev.steps tokX11_drawn 2 (P := True) (pc' := 48) (lv' := [some (.ref 130), some (.int p1), some (.int p2)]) (st' := [.int 0, .ref 157]) (h' := mkS x S9) rfl trivial ?_
              refine Ev.fgt (lv' := [none, some (.int p1), none]) ⟨rfl, trivial⟩ ?_
              exact bpX11_drawn_130_48 x S9 p1 0 _ _ hm
          · rw [if_neg c10] at hm
            refine Ev.fgt (lv' := [none, none, none]) trivial ?_
            exact bpX11_drawn_130_23 x S9 _ _ hm
theorem gpX11_drawn_130 (x : XT) (S : ST) (p1 : Int32) (p2 : Int32) (r : Int32) (S' : ST) (hm : gfX11_drawn_130 x S p1 p2 = some (r, S')) : Ct mX11_drawn 2 0 0 [.ref 130, .int p1, .int p2] (mkS x S) (fun v h => v = some (.int r) ∧ h = mkS x S') :=
  Ct.of (lv := [some (.ref 130), some (.int p1), some (.int p2)]) rfl rfl rfl (show (_ : Nat) ≤ _ from Nat.le_of_ble_eq_true rfl) (fun G => rfl) (bpX11_drawn_130_0 x S p1 p2 r S' hm)
set_option maxHeartbeats 4000000 in
set_option maxRecDepth 20000 in
theorem bpX11_allMany_130_4 (x : XT) (k4 : ST → Int32 → Int32 → Option (Int32 × ST)) (hk4 : ∀ (S : ST) (v1 : Int32) (v2 : Int32) (r : Int32) (S' : ST), k4 S v1 v2 = some (r, S') → Ev mX11_allMany 1 0 0 4 [some (.ref 130), some (.int v1), some (.int v2)] [] (mkS x S) (fun v h => v = some (.int r) ∧ h = mkS x S')) (S : ST) (v1 : Int32) (v2 : Int32) (r : Int32) (S' : ST) (hm : bfX11_allMany_130_4 x k4 S v1 v2 = some (r, S')) : Ev mX11_allMany 1 0 0 4 [some (.ref 130), some (.int v1), some (.int v2)] [] (mkS x S) (fun v h => v = some (.int r) ∧ h = mkS x S') := by
    unfold bfX11_allMany_130_4 at hm
    refine Ev.steps tokX11_allMany 6 (P := vp_in 92 5703 ∧ True) (pc' := if (S.2.1 132 92) ≤ v2 then 32 else 15) (lv' := [some (.ref 130), some (.int v1), some (.int v2)]) (st' := []) (h' := mkS x S) rfl ⟨(by unfold vp_in; decide), trivial⟩ ?_
    refine Ev.ite (fun c1 => ?_) (fun c1 => ?_)
    · rw [if_pos c1] at hm
      refine Ev.steps tokX11_allMany 1 (P := True) (pc' := 33) (lv' := [some (.ref 130), some (.int v1), some (.int v2)]) (st' := [.int v1]) (h' := mkS x S) rfl trivial ?_
      cases hm
      exact Ev.reti tokX11_allMany rfl rfl ⟨rfl, rfl⟩
    · rw [if_neg c1] at hm
      obtain ⟨o2, hm⟩ := oblk hm
      refine Ev.steps tokX11_allMany 11 (P := vp_in (5 + v2) 5703 ∧ True) (pc' := 4) (lv' := [some (.ref 130), some (.int (v1 + (S.2.1 132 ((5 + v2).toNatClampNeg)))), some (.int (v2 + 1))]) (st' := []) (h' := mkS x S) rfl ⟨inb_ok o2, trivial⟩ ?_
      exact hk4 S (v1 + (S.2.1 132 ((5 + v2).toNatClampNeg))) (v2 + 1) _ _ hm
theorem lpX11_allMany_130_4 (x : XT)  : ∀ (n : Nat) (S : ST) (v1 : Int32) (v2 : Int32) (r : Int32) (S' : ST), lfX11_allMany_130_4 x  n S v1 v2 = some (r, S') → Ev mX11_allMany 1 0 0 4 [some (.ref 130), some (.int v1), some (.int v2)] [] (mkS x S) (fun v h => v = some (.int r) ∧ h = mkS x S')
  | 0, _, _, _, _, _, hm => by cases hm
  | n + 1, S, v1, v2, r, S', hm => bpX11_allMany_130_4 x (lfX11_allMany_130_4 x  n) (lpX11_allMany_130_4 x  n) S v1 v2 r S' hm
set_option maxHeartbeats 4000000 in
set_option maxRecDepth 20000 in
theorem bpX11_allMany_130_0 (x : XT)  (S : ST)  (r : Int32) (S' : ST) (hm : bfX11_allMany_130_0 x  S  = some (r, S')) : Ev mX11_allMany 1 0 0 0 [some (.ref 130), none, none] [] (mkS x S) (fun v h => v = some (.int r) ∧ h = mkS x S') := by
    unfold bfX11_allMany_130_0 at hm
    refine Ev.steps tokX11_allMany 4 (P := True) (pc' := 4) (lv' := [some (.ref 130), some (.int 0), some (.int 0)]) (st' := []) (h' := mkS x S) rfl trivial ?_
    exact lpX11_allMany_130_4 x  20000 S 0 0 _ _ hm
theorem gpX11_allMany_130 (x : XT) (S : ST)  (r : Int32) (S' : ST) (hm : gfX11_allMany_130 x S  = some (r, S')) : Ct mX11_allMany 1 0 0 [.ref 130] (mkS x S) (fun v h => v = some (.int r) ∧ h = mkS x S') :=
  Ct.of (lv := [some (.ref 130), none, none]) rfl rfl rfl (show (_ : Nat) ≤ _ from Nat.le_of_ble_eq_true rfl) (fun G => rfl) (bpX11_allMany_130_0 x S  r S' hm)
set_option maxHeartbeats 4000000 in
set_option maxRecDepth 20000 in
theorem bpX11_count_130_0 (x : XT)  (S : ST) (p1 : Int32) (r : Int32) (S' : ST) (hm : bfX11_count_130_0 x  S p1 = some (r, S')) : Ev mX11_count 2 0 0 0 [some (.ref 130), some (.int p1)] [] (mkS x S) (fun v h => v = some (.int r) ∧ h = mkS x S') := by
    unfold bfX11_count_130_0 at hm
    refine Ev.steps tokX11_count 1 (P := True) (pc' := 1) (lv' := [some (.ref 130), some (.int p1)]) (st' := [.int p1]) (h' := mkS x S) rfl trivial ?_
    by_cases c1 : p1 = 0
    · rw [if_pos c1] at hm
      refine ev_tIn (off := 79) (t := 80) (dcd tokX11_count rfl) (by rw [c1]; decide) (by rw [c1]; decide) (by rw [c1]; rfl) rfl ?_
      refine Ev.steps tokX11_count 1 (P := True) (pc' := 81) (lv' := [some (.ref 130), some (.int p1)]) (st' := [.ref 130]) (h' := mkS x S) rfl trivial ?_
      cases h2 : gfX11_gateMany_130 x S with
      | none => rw [h2] at hm; cases hm
      | some q3 =>
        obtain ⟨r4, S5⟩ := q3
        rw [h2] at hm
        dsimp only at hm
        refine ev_callV (N := mX11_gateMany) (d' := 1) (bc := 0) (bs := 0) (bc' := 0) (bs' := 0) (as := []) (rest := []) (a := 130) (ci := 11) (dcd tokX11_count rfl) okX11_gateMany inX11_gateMany seX11_gateMany lk11_124 rfl (by decide) (Nat.le_of_ble_eq_true rfl) rfl ⟨by decide, rfl⟩ (gpX11_gateMany_130 x S _ _ h2) (fun v h' hq hn => ?_)
        obtain ⟨rfl, rfl⟩ := hq
        cases hm
        exact Ev.reti tokX11_count rfl rfl ⟨rfl, rfl⟩
    rw [if_neg c1] at hm
    by_cases c6 : p1 = 1
    · rw [if_pos c6] at hm
      refine ev_tIn (off := 84) (t := 85) (dcd tokX11_count rfl) (by rw [c6]; decide) (by rw [c6]; decide) (by rw [c6]; rfl) rfl ?_
      refine Ev.steps tokX11_count 4 (P := vp_in 92 5703 ∧ True) (pc' := 92) (lv' := [some (.ref 130), some (.int p1)]) (st' := [.int (S.2.1 132 92)]) (h' := mkS x S) rfl ⟨(by unfold vp_in; decide), trivial⟩ ?_
      cases hm
      exact Ev.reti tokX11_count rfl rfl ⟨rfl, rfl⟩
    rw [if_neg c6] at hm
    by_cases c7 : p1 = 2
    · rw [if_pos c7] at hm
      refine ev_tIn (off := 92) (t := 93) (dcd tokX11_count rfl) (by rw [c7]; decide) (by rw [c7]; decide) (by rw [c7]; rfl) rfl ?_
      refine Ev.steps tokX11_count 1 (P := True) (pc' := 94) (lv' := [some (.ref 130), some (.int p1)]) (st' := [.ref 130]) (h' := mkS x S) rfl trivial ?_
      cases h8 : gfX11_allMany_130 x S with
      | none => rw [h8] at hm; cases hm
      | some q9 =>
        obtain ⟨r10, S11⟩ := q9
        rw [h8] at hm
        dsimp only at hm
        refine ev_callV (N := mX11_allMany) (d' := 1) (bc := 0) (bs := 0) (bc' := 0) (bs' := 0) (as := []) (rest := []) (a := 130) (ci := 11) (dcd tokX11_count rfl) okX11_allMany inX11_allMany seX11_allMany lk11_509 rfl (by decide) (Nat.le_of_ble_eq_true rfl) rfl ⟨by decide, rfl⟩ (gpX11_allMany_130 x S _ _ h8) (fun v h' hq hn => ?_)
        obtain ⟨rfl, rfl⟩ := hq
        cases hm
        exact Ev.reti tokX11_count rfl rfl ⟨rfl, rfl⟩
    rw [if_neg c7] at hm
    by_cases c12 : p1 = 3
    · rw [if_pos c12] at hm
      refine ev_tIn (off := 97) (t := 98) (dcd tokX11_count rfl) (by rw [c12]; decide) (by rw [c12]; decide) (by rw [c12]; rfl) rfl ?_
      refine Ev.steps tokX11_count 4 (P := vp_in 93 5703 ∧ True) (pc' := 105) (lv' := [some (.ref 130), some (.int p1)]) (st' := [.int (S.2.1 132 93)]) (h' := mkS x S) rfl ⟨(by unfold vp_in; decide), trivial⟩ ?_
      cases hm
      exact Ev.reti tokX11_count rfl rfl ⟨rfl, rfl⟩
    rw [if_neg c12] at hm
    by_cases c13 : p1 = 4
    · rw [if_pos c13] at hm
      refine ev_tIn (off := 105) (t := 106) (dcd tokX11_count rfl) (by rw [c13]; decide) (by rw [c13]; decide) (by rw [c13]; rfl) rfl ?_
      refine Ev.steps tokX11_count 4 (P := vp_in 94 5703 ∧ True) (pc' := 113) (lv' := [some (.ref 130), some (.int p1)]) (st' := [.int (S.2.1 132 94)]) (h' := mkS x S) rfl ⟨(by unfold vp_in; decide), trivial⟩ ?_
      cases hm
      exact Ev.reti tokX11_count rfl rfl ⟨rfl, rfl⟩
    rw [if_neg c13] at hm
    by_cases c14 : p1 = 5
    · rw [if_pos c14] at hm
      refine ev_tIn (off := 113) (t := 114) (dcd tokX11_count rfl) (by rw [c14]; decide) (by rw [c14]; decide) (by rw [c14]; rfl) rfl ?_
      refine Ev.steps tokX11_count 2 (P := True) (pc' := 118) (lv' := [some (.ref 130), some (.int p1)]) (st' := [.int (S.1 130 31)]) (h' := mkS x S) rfl trivial ?_
      cases hm
      exact Ev.reti tokX11_count rfl rfl ⟨rfl, rfl⟩
    rw [if_neg c14] at hm
    by_cases c15 : p1 = 6
    · rw [if_pos c15] at hm
      refine ev_tIn (off := 118) (t := 119) (dcd tokX11_count rfl) (by rw [c15]; decide) (by rw [c15]; decide) (by rw [c15]; rfl) rfl ?_
      refine Ev.steps tokX11_count 2 (P := True) (pc' := 123) (lv' := [some (.ref 130), some (.int p1)]) (st' := [.int (S.1 130 13)]) (h' := mkS x S) rfl trivial ?_
      cases hm
      exact Ev.reti tokX11_count rfl rfl ⟨rfl, rfl⟩
    rw [if_neg c15] at hm
    by_cases c16 : p1 = 7
    · rw [if_pos c16] at hm
      refine ev_tIn (off := 123) (t := 124) (dcd tokX11_count rfl) (by rw [c16]; decide) (by rw [c16]; decide) (by rw [c16]; rfl) rfl ?_
      obtain ⟨o17, hm⟩ := oblk hm
      refine Ev.steps tokX11_count 6 (P := vp_in (p1 - 6) 7 ∧ True) (pc' := 133) (lv' := [some (.ref 130), some (.int p1)]) (st' := [.int (S.2.1 131 ((p1 - 6).toNatClampNeg))]) (h' := mkS x S) rfl ⟨inb_ok o17, trivial⟩ ?_
      cases hm
      exact Ev.reti tokX11_count rfl rfl ⟨rfl, rfl⟩
    rw [if_neg c16] at hm
    by_cases c18 : p1 = 8
    · rw [if_pos c18] at hm
      refine ev_tIn (off := 123) (t := 124) (dcd tokX11_count rfl) (by rw [c18]; decide) (by rw [c18]; decide) (by rw [c18]; rfl) rfl ?_
      obtain ⟨o19, hm⟩ := oblk hm
      refine Ev.steps tokX11_count 6 (P := vp_in (p1 - 6) 7 ∧ True) (pc' := 133) (lv' := [some (.ref 130), some (.int p1)]) (st' := [.int (S.2.1 131 ((p1 - 6).toNatClampNeg))]) (h' := mkS x S) rfl ⟨inb_ok o19, trivial⟩ ?_
      cases hm
      exact Ev.reti tokX11_count rfl rfl ⟨rfl, rfl⟩
    rw [if_neg c18] at hm
    by_cases c20 : p1 = 9
    · rw [if_pos c20] at hm
      refine ev_tIn (off := 123) (t := 124) (dcd tokX11_count rfl) (by rw [c20]; decide) (by rw [c20]; decide) (by rw [c20]; rfl) rfl ?_
      obtain ⟨o21, hm⟩ := oblk hm
      refine Ev.steps tokX11_count 6 (P := vp_in (p1 - 6) 7 ∧ True) (pc' := 133) (lv' := [some (.ref 130), some (.int p1)]) (st' := [.int (S.2.1 131 ((p1 - 6).toNatClampNeg))]) (h' := mkS x S) rfl ⟨inb_ok o21, trivial⟩ ?_
      cases hm
      exact Ev.reti tokX11_count rfl rfl ⟨rfl, rfl⟩
    rw [if_neg c20] at hm
    by_cases c22 : p1 = 10
    · rw [if_pos c22] at hm
      refine ev_tIn (off := 133) (t := 134) (dcd tokX11_count rfl) (by rw [c22]; decide) (by rw [c22]; decide) (by rw [c22]; rfl) rfl ?_
      refine Ev.steps tokX11_count 4 (P := vp_in 5 7 ∧ True) (pc' := 140) (lv' := [some (.ref 130), some (.int p1)]) (st' := [.int (S.2.1 131 5)]) (h' := mkS x S) rfl ⟨(by unfold vp_in; decide), trivial⟩ ?_
      cases hm
      exact Ev.reti tokX11_count rfl rfl ⟨rfl, rfl⟩
    rw [if_neg c22] at hm
    by_cases c23 : p1 = 11
    · rw [if_pos c23] at hm
      refine ev_tIn (off := 140) (t := 141) (dcd tokX11_count rfl) (by rw [c23]; decide) (by rw [c23]; decide) (by rw [c23]; rfl) rfl ?_
      refine Ev.steps tokX11_count 4 (P := vp_in 6 7 ∧ True) (pc' := 148) (lv' := [some (.ref 130), some (.int p1)]) (st' := [.int (S.2.1 131 6)]) (h' := mkS x S) rfl ⟨(by unfold vp_in; decide), trivial⟩ ?_
      cases hm
      exact Ev.reti tokX11_count rfl rfl ⟨rfl, rfl⟩
    rw [if_neg c23] at hm
    by_cases c24 : p1 = 12
    · rw [if_pos c24] at hm
      refine ev_tIn (off := 148) (t := 149) (dcd tokX11_count rfl) (by rw [c24]; decide) (by rw [c24]; decide) (by rw [c24]; rfl) rfl ?_
      refine Ev.steps tokX11_count 4 (P := vp_in 95 5703 ∧ True) (pc' := 156) (lv' := [some (.ref 130), some (.int p1)]) (st' := [.int (S.2.1 132 95)]) (h' := mkS x S) rfl ⟨(by unfold vp_in; decide), trivial⟩ ?_
      cases hm
      exact Ev.reti tokX11_count rfl rfl ⟨rfl, rfl⟩
    rw [if_neg c24] at hm
    by_cases c25 : p1 = 13
    · rw [if_pos c25] at hm
      refine ev_tIn (off := 156) (t := 157) (dcd tokX11_count rfl) (by rw [c25]; decide) (by rw [c25]; decide) (by rw [c25]; rfl) rfl ?_
      refine Ev.steps tokX11_count 5 (P := True) (pc' := 165) (lv' := [some (.ref 130), some (.int p1)]) (st' := [.int (p1 - 13), .ref 132]) (h' := mkS x S) rfl trivial ?_
      cases h26 : gfX11_termAt x S (p1 - 13) with
      | none => rw [h26] at hm; cases hm
      | some q27 =>
        obtain ⟨r28, S29⟩ := q27
        rw [h26] at hm
        dsimp only at hm
        refine ev_callS (N := mX11_termAt) (d' := 1) (bc := 0) (bs := 0) (bc' := 0) (bs' := 0) (as := [.int (p1 - 13)]) (rest := [.ref 132]) (dcd tokX11_count rfl) okX11_termAt inX11_termAt lk11_176 rfl (by decide) (Nat.le_of_ble_eq_true rfl) (gpX11_termAt x S (p1 - 13) _ _ h26) (fun v h' hq hn => ?_)
        obtain ⟨rfl, rfl⟩ := hq
        obtain ⟨o30, hm⟩ := oblk hm
        refine Ev.steps tokX11_count 1 (P := vp_in r28 5703 ∧ True) (pc' := 169) (lv' := [some (.ref 130), some (.int p1)]) (st' := [.int (S29.2.1 132 r28.toNatClampNeg)]) (h' := mkS x S29) rfl ⟨inb_ok o30, trivial⟩ ?_
        cases hm
        exact Ev.reti tokX11_count rfl rfl ⟨rfl, rfl⟩
    rw [if_neg c25] at hm
    by_cases c31 : p1 = 14
    · rw [if_pos c31] at hm
      refine ev_tIn (off := 156) (t := 157) (dcd tokX11_count rfl) (by rw [c31]; decide) (by rw [c31]; decide) (by rw [c31]; rfl) rfl ?_
      refine Ev.steps tokX11_count 5 (P := True) (pc' := 165) (lv' := [some (.ref 130), some (.int p1)]) (st' := [.int (p1 - 13), .ref 132]) (h' := mkS x S) rfl trivial ?_
      cases h32 : gfX11_termAt x S (p1 - 13) with
      | none => rw [h32] at hm; cases hm
      | some q33 =>
        obtain ⟨r34, S35⟩ := q33
        rw [h32] at hm
        dsimp only at hm
        refine ev_callS (N := mX11_termAt) (d' := 1) (bc := 0) (bs := 0) (bc' := 0) (bs' := 0) (as := [.int (p1 - 13)]) (rest := [.ref 132]) (dcd tokX11_count rfl) okX11_termAt inX11_termAt lk11_176 rfl (by decide) (Nat.le_of_ble_eq_true rfl) (gpX11_termAt x S (p1 - 13) _ _ h32) (fun v h' hq hn => ?_)
        obtain ⟨rfl, rfl⟩ := hq
        obtain ⟨o36, hm⟩ := oblk hm
        refine Ev.steps tokX11_count 1 (P := vp_in r34 5703 ∧ True) (pc' := 169) (lv' := [some (.ref 130), some (.int p1)]) (st' := [.int (S35.2.1 132 r34.toNatClampNeg)]) (h' := mkS x S35) rfl ⟨inb_ok o36, trivial⟩ ?_
        cases hm
        exact Ev.reti tokX11_count rfl rfl ⟨rfl, rfl⟩
    rw [if_neg c31] at hm
    by_cases c37 : p1 = 15
    · rw [if_pos c37] at hm
      refine ev_tIn (off := 156) (t := 157) (dcd tokX11_count rfl) (by rw [c37]; decide) (by rw [c37]; decide) (by rw [c37]; rfl) rfl ?_
      refine Ev.steps tokX11_count 5 (P := True) (pc' := 165) (lv' := [some (.ref 130), some (.int p1)]) (st' := [.int (p1 - 13), .ref 132]) (h' := mkS x S) rfl trivial ?_
      cases h38 : gfX11_termAt x S (p1 - 13) with
      | none => rw [h38] at hm; cases hm
      | some q39 =>
        obtain ⟨r40, S41⟩ := q39
        rw [h38] at hm
        dsimp only at hm
        refine ev_callS (N := mX11_termAt) (d' := 1) (bc := 0) (bs := 0) (bc' := 0) (bs' := 0) (as := [.int (p1 - 13)]) (rest := [.ref 132]) (dcd tokX11_count rfl) okX11_termAt inX11_termAt lk11_176 rfl (by decide) (Nat.le_of_ble_eq_true rfl) (gpX11_termAt x S (p1 - 13) _ _ h38) (fun v h' hq hn => ?_)
        obtain ⟨rfl, rfl⟩ := hq
        obtain ⟨o42, hm⟩ := oblk hm
        refine Ev.steps tokX11_count 1 (P := vp_in r40 5703 ∧ True) (pc' := 169) (lv' := [some (.ref 130), some (.int p1)]) (st' := [.int (S41.2.1 132 r40.toNatClampNeg)]) (h' := mkS x S41) rfl ⟨inb_ok o42, trivial⟩ ?_
        cases hm
        exact Ev.reti tokX11_count rfl rfl ⟨rfl, rfl⟩
    rw [if_neg c37] at hm
    refine ev_tOut (t := 170) (dcd tokX11_count rfl) (by have zc1 := lv_neT c1 (show (0 : Int32).toInt = 0 from by decide); have zc6 := lv_neT c6 (show (1 : Int32).toInt = 1 from by decide); have zc7 := lv_neT c7 (show (2 : Int32).toInt = 2 from by decide); have zc12 := lv_neT c12 (show (3 : Int32).toInt = 3 from by decide); have zc13 := lv_neT c13 (show (4 : Int32).toInt = 4 from by decide); have zc14 := lv_neT c14 (show (5 : Int32).toInt = 5 from by decide); have zc15 := lv_neT c15 (show (6 : Int32).toInt = 6 from by decide); have zc16 := lv_neT c16 (show (7 : Int32).toInt = 7 from by decide); have zc18 := lv_neT c18 (show (8 : Int32).toInt = 8 from by decide); have zc20 := lv_neT c20 (show (9 : Int32).toInt = 9 from by decide); have zc22 := lv_neT c22 (show (10 : Int32).toInt = 10 from by decide); have zc23 := lv_neT c23 (show (11 : Int32).toInt = 11 from by decide); have zc24 := lv_neT c24 (show (12 : Int32).toInt = 12 from by decide); have zc25 := lv_neT c25 (show (13 : Int32).toInt = 13 from by decide); have zc31 := lv_neT c31 (show (14 : Int32).toInt = 14 from by decide); have zc37 := lv_neT c37 (show (15 : Int32).toInt = 15 from by decide); omega) rfl ?_
    refine Ev.steps tokX11_count 1 (P := True) (pc' := 171) (lv' := [some (.ref 130), some (.int p1)]) (st' := [.int (-1)]) (h' := mkS x S) rfl trivial ?_
    cases hm
    exact Ev.reti tokX11_count rfl rfl ⟨rfl, rfl⟩
theorem gpX11_count_130 (x : XT) (S : ST) (p1 : Int32) (r : Int32) (S' : ST) (hm : gfX11_count_130 x S p1 = some (r, S')) : Ct mX11_count 2 0 0 [.ref 130, .int p1] (mkS x S) (fun v h => v = some (.int r) ∧ h = mkS x S') :=
  Ct.of (lv := [some (.ref 130), some (.int p1)]) rfl rfl rfl (show (_ : Nat) ≤ _ from Nat.le_of_ble_eq_true rfl) (fun G => rfl) (bpX11_count_130_0 x S p1 r S' hm)
set_option maxHeartbeats 4000000 in
set_option maxRecDepth 20000 in
theorem bpX11_status_130_0 (x : XT)  (S : ST)  (r : Int32) (S' : ST) (hm : bfX11_status_130_0 x  S  = some (r, S')) : Ev mX11_status 1 0 0 0 [some (.ref 130)] [] (mkS x S) (fun v h => v = some (.int r) ∧ h = mkS x S') := by
    unfold bfX11_status_130_0 at hm
    refine Ev.steps tokX11_status 2 (P := True) (pc' := 4) (lv' := [some (.ref 130)]) (st' := [.int (S.1 130 0)]) (h' := mkS x S) rfl trivial ?_
    cases hm
    exact Ev.reti tokX11_status rfl rfl ⟨rfl, rfl⟩
theorem gpX11_status_130 (x : XT) (S : ST)  (r : Int32) (S' : ST) (hm : gfX11_status_130 x S  = some (r, S')) : Ct mX11_status 1 0 0 [.ref 130] (mkS x S) (fun v h => v = some (.int r) ∧ h = mkS x S') :=
  Ct.of (lv := [some (.ref 130)]) rfl rfl rfl (show (_ : Nat) ≤ _ from Nat.le_of_ble_eq_true rfl) (fun G => rfl) (bpX11_status_130_0 x S  r S' hm)
set_option maxHeartbeats 4000000 in
set_option maxRecDepth 20000 in
theorem bpX7_addLaw_1_T_0 (x : XT)  (S : ST) (p1 : Nat) (r : Int32) (S' : ST) (hm : bfX7_addLaw_1_T_0 x  S p1 = some (r, S')) : Ev mX7_addLaw 1 0 0 0 [some (.ref 1), some (.ref p1)] [] (mkS x S) (fun v h => v = some (.int r) ∧ h = mkS x S') := by
    unfold bfX7_addLaw_1_T_0 at hm
    obtain ⟨o1, hm⟩ := oblk hm
    obtain ⟨f9_p1, r2_p1, r3_p1, r4_p1, r5_p1, a1_p1, a2_p1, a3_p1, a4_p1⟩ := tx_ok o1
    refine Ev.steps tokX7_addLaw 4 (P := True) (pc' := if (S.1 1 16) < 6 then 12 else 9) (lv' := [some (.ref 1), some (.ref p1)]) (st' := []) (h' := mkS x S) rfl trivial ?_
    refine Ev.ite (fun c2 => ?_) (fun c2 => ?_)
    · rw [if_pos c2] at hm
      refine Ev.steps tokX7_addLaw 5 (P := True) (pc' := 21) (lv' := [some (.ref 1), some (.ref p1)]) (st' := [.ref p1, .int (S.1 1 16), .ref 15]) (h' := mkS x S) rfl trivial ?_
      obtain ⟨o3, hm⟩ := oblk hm
      refine ev_aast (kd := 17) (ci := 9) (r := some p1) (dcd tokX7_addLaw rfl) rfl (Or.inr ⟨rfl, rfl⟩) (inb_ok o3) (fun b hb => by cases hb; exact f9_p1) ?_
      refine Ev.steps tokX7_addLaw 7 (P := True) (pc' := 33) (lv' := [some (.ref 1), some (.ref p1)]) (st' := [.int (S.1 1 16)]) (h' := mkS x ((u2 S.1 1 16 ((S.1 1 16) + 1)), S.2.1, S.2.2.1, (u2 S.2.2.2 15 ((S.1 1 16).toNatClampNeg) (some p1)))) rfl trivial ?_
      cases hm
      exact Ev.reti tokX7_addLaw rfl rfl ⟨rfl, rfl⟩
    · rw [if_neg c2] at hm
      refine Ev.steps tokX7_addLaw 1 (P := True) (pc' := 11) (lv' := [some (.ref 1), some (.ref p1)]) (st' := [.int (-5)]) (h' := mkS x S) rfl trivial ?_
      cases hm
      exact Ev.reti tokX7_addLaw rfl rfl ⟨rfl, rfl⟩
theorem gpX7_addLaw_1_T (x : XT) (S : ST) (p1 : Nat) (r : Int32) (S' : ST) (hm : gfX7_addLaw_1_T x S p1 = some (r, S')) : Ct mX7_addLaw 1 0 0 [.ref 1, .ref p1] (mkS x S) (fun v h => v = some (.int r) ∧ h = mkS x S') :=
  Ct.of (lv := [some (.ref 1), some (.ref p1)]) rfl rfl rfl (show (_ : Nat) ≤ _ from Nat.le_of_ble_eq_true rfl) (fun G => rfl) (bpX7_addLaw_1_T_0 x S p1 r S' hm)
end MIR
