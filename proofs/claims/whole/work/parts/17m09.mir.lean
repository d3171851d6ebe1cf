section MIR
set_option maxHeartbeats 4000000 in
set_option maxRecDepth 20000 in
theorem bpX6_behind_54_28 (x : XT)  (S : ST)  (r : Int32) (S' : ST) (hm : bfX6_behind_54_28 x  S  = some (r, S')) : Ev mX6_behind 4 0 0 28 [none, none, none, none, none] [] (mkS x S) (fun v h => v = some (.int r) ∧ h = mkS x S') := by
    unfold bfX6_behind_54_28 at hm
    refine Ev.steps tokX6_behind 1 (P := True) (pc' := 29) (lv' := [none, none, none, none, none]) (st' := [.int (-1)]) (h' := mkS x S) rfl trivial ?_
    cases hm
    exact Ev.reti tokX6_behind rfl rfl ⟨rfl, rfl⟩
set_option maxHeartbeats 4000000 in
set_option maxRecDepth 20000 in
theorem bpX6_behind_54_150 (x : XT)  (S : ST) (t0 : Int32) (r : Int32) (S' : ST) (hm : bfX6_behind_54_150 x  S t0 = some (r, S')) : Ev mX6_behind 4 0 0 150 [none, none, none, none, none] [.int t0] (mkS x S) (fun v h => v = some (.int r) ∧ h = mkS x S') := by
    unfold bfX6_behind_54_150 at hm
    cases hm
    exact Ev.reti tokX6_behind rfl rfl ⟨rfl, rfl⟩
set_option maxHeartbeats 4000000 in
set_option maxRecDepth 20000 in
theorem bpX6_behind_54_115 (x : XT)  (S : ST) (v1 : Int32) (v4 : Int32) (r : Int32) (S' : ST) (hm : bfX6_behind_54_115 x  S v1 v4 = some (r, S')) : Ev mX6_behind 4 0 0 115 [some (.ref 54), some (.int v1), none, none, some (.int v4)] [] (mkS x S) (fun v h => v = some (.int r) ∧ h = mkS x S') := by
    unfold bfX6_behind_54_115 at hm
    obtain ⟨o1, hm⟩ := oblk hm
    refine Ev.steps tokX6_behind 6 (P := vp_in v4 200 ∧ True) (pc' := if ¬ (S.2.1 70 v4.toNatClampNeg) = (-1) then 130 else 126) (lv' := [some (.ref 54), some (.int v1), none, none, some (.int v4)]) (st' := []) (h' := mkS x S) rfl ⟨inb_ok o1, trivial⟩ ?_
    refine Ev.ite (fun c2 => ?_) (fun c2 => ?_)
    · rw [if_pos c2] at hm
      obtain ⟨o3, hm⟩ := oblk hm
      obtain ⟨o4, hm⟩ := oblk hm
      refine Ev.steps tokX6_behind 12 (P := vp_in v1 10 ∧ vp_in v4 200 ∧ True) (pc' := 150) (lv' := [some (.ref 54), some (.int v1), none, none, some (.int v4)]) (st' := [.int (((S.2.1 57 v1.toNatClampNeg) * 20) + (S.2.1 70 v4.toNatClampNeg))]) (h' := mkS x S) rfl ⟨inb_ok o3, inb_ok o4, trivial⟩ ?_
      refine Ev.fgt (lv' := [none, none, none, none, none]) trivial ?_
      exact bpX6_behind_54_150 x S (((S.2.1 57 v1.toNatClampNeg) * 20) + (S.2.1 70 v4.toNatClampNeg)) _ _ hm
    · rw [if_neg c2] at hm
      refine Ev.steps tokX6_behind 2 (P := True) (pc' := 150) (lv' := [some (.ref 54), some (.int v1), none, none, some (.int v4)]) (st' := [.int (-1)]) (h' := mkS x S) rfl trivial ?_
      refine Ev.fgt (lv' := [none, none, none, none, none]) trivial ?_
      exact bpX6_behind_54_150 x S (-1) _ _ hm
set_option maxHeartbeats 4000000 in
set_option maxRecDepth 20000 in
theorem bpX6_behind_54_114 (x : XT)  (S : ST) (v1 : Int32) (v4 : Int32) (t1 : Int32) (t2 : Int32) (r : Int32) (S' : ST) (hm : bfX6_behind_54_114 x  S v1 v4 t1 t2 = some (r, S')) : Ev mX6_behind 4 0 0 114 [some (.ref 54), some (.int v1), none, none, some (.int v4)] [.int t2, .int t1, .ref 70] (mkS x S) (fun v h => v = some (.int r) ∧ h = mkS x S') := by
    unfold bfX6_behind_54_114 at hm
    obtain ⟨o1, hm⟩ := oblk hm
    refine Ev.steps tokX6_behind 1 (P := vp_in t1 200 ∧ True) (pc' := 115) (lv' := [some (.ref 54), some (.int v1), none, none, some (.int v4)]) (st' := []) (h' := mkS x (S.1, (u2 S.2.1 70 t1.toNatClampNeg t2), S.2.2.1, S.2.2.2)) rfl ⟨inb_ok o1, trivial⟩ ?_
    exact bpX6_behind_54_115 x (S.1, (u2 S.2.1 70 t1.toNatClampNeg t2), S.2.2.1, S.2.2.2) v1 v4 _ _ hm
set_option maxHeartbeats 4000000 in
set_option maxRecDepth 20000 in
theorem bpX6_behind_54_0 (x : XT)  (S : ST) (p1 : Int32) (p2 : Int32) (r : Int32) (S' : ST) (hm : bfX6_behind_54_0 x  S p1 p2 = some (r, S')) : Ev mX6_behind 4 0 0 0 [some (.ref 54), some (.int p1), some (.int p2), none, none] [] (mkS x S) (fun v h => v = some (.int r) ∧ h = mkS x S') := by
    unfold bfX6_behind_54_0 at hm
    obtain ⟨o1, hm⟩ := oblk hm
    refine Ev.steps tokX6_behind 9 (P := vp_in p1 10 ∧ ¬ 20 = 0 ∧ True) (pc' := if ¬ (S.2.1 56 p1.toNatClampNeg) = (p2 / 20) then 28 else 16) (lv' := [some (.ref 54), some (.int p1), some (.int p2), none, none]) (st' := []) (h' := mkS x S) rfl ⟨inb_ok o1, (by decide), trivial⟩ ?_
    refine Ev.ite (fun c2 => ?_) (fun c2 => ?_)
    · rw [if_pos c2] at hm
      refine Ev.fgt (lv' := [none, none, none, none, none]) trivial ?_
      exact bpX6_behind_54_28 x S _ _ hm
    · rw [if_neg c2] at hm
      obtain ⟨o3, hm⟩ := oblk hm
      refine Ev.steps tokX6_behind 6 (P := vp_in p1 10 ∧ True) (pc' := if ¬ (S.2.1 60 p1.toNatClampNeg) = 0 then 30 else 28) (lv' := [some (.ref 54), some (.int p1), some (.int p2), none, none]) (st' := []) (h' := mkS x S) rfl ⟨inb_ok o3, trivial⟩ ?_
      refine Ev.ite (fun c4 => ?_) (fun c4 => ?_)
      · rw [if_pos c4] at hm
        obtain ⟨o5, hm⟩ := oblk hm
        refine Ev.steps tokX6_behind 16 (P := ¬ 20 = 0 ∧ vp_in ((p1 * 20) + (p2 - p2 / 20 * 20)) 200 ∧ True) (pc' := if ¬ (S.2.1 70 (((p1 * 20) + (p2 - p2 / 20 * 20)).toNatClampNeg)) = (-2) then 115 else 55) (lv' := [some (.ref 54), some (.int p1), some (.int p2), some (.int (p2 - p2 / 20 * 20)), some (.int ((p1 * 20) + (p2 - p2 / 20 * 20)))]) (st' := []) (h' := mkS x S) rfl ⟨(by decide), inb_ok o5, trivial⟩ ?_
        refine Ev.ite (fun c6 => ?_) (fun c6 => ?_)
        · rw [if_pos c6] at hm
          refine Ev.fgt (lv' := [some (.ref 54), some (.int p1), none, none, some (.int ((p1 * 20) + (p2 - p2 / 20 * 20)))]) ⟨rfl, rfl, rfl, trivial⟩ ?_
          exact bpX6_behind_54_115 x S p1 ((p1 * 20) + (p2 - p2 / 20 * 20)) _ _ hm
        · rw [if_neg c6] at hm
          refine Ev.steps tokX6_behind 8 (P := True) (pc' := 69) (lv' := [some (.ref 54), some (.int p1), some (.int p2), some (.int (p2 - p2 / 20 * 20)), some (.int ((p1 * 20) + (p2 - p2 / 20 * 20)))]) (st' := [.int (p2 - p2 / 20 * 20), .int p1, .int (S.1 54 2), .ref 55, .ref 20]) (h' := mkS x S) rfl trivial ?_
          cases h7 : gfX0_regard_20_55 x S (S.1 54 2) p1 (p2 - p2 / 20 * 20) with
          | none => rw [h7] at hm; cases hm
          | some q8 =>
            obtain ⟨r9, S10⟩ := q8
            rw [h7] at hm
            dsimp only at hm
            refine ev_callV (N := mX0_regard) (d' := 2) (bc := 0) (bs := 0) (bc' := 0) (bs' := 0) (as := [.ref 55, .int (S.1 54 2), .int p1, .int (p2 - p2 / 20 * 20)]) (rest := []) (a := 20) (ci := 0) (dcd tokX6_behind rfl) okX0_regard inX0_regard seX0_regard lk6_87 rfl (by decide) (Nat.le_of_ble_eq_true rfl) rfl ⟨by decide, rfl⟩ (gpX0_regard_20_55 x S (S.1 54 2) p1 (p2 - p2 / 20 * 20) _ _ h7) (fun v h' hq hn => ?_)
            obtain ⟨rfl, rfl⟩ := hq
            refine Ev.steps tokX6_behind 8 (P := True) (pc' := 89) (lv' := [some (.ref 54), some (.int p1), some (.int p2), some (.int (p2 - p2 / 20 * 20)), some (.int ((p1 * 20) + (p2 - p2 / 20 * 20)))]) (st' := [.int 262, .ref 55, .ref 20, .int ((p1 * 20) + (p2 - p2 / 20 * 20)), .ref 70]) (h' := mkS x S10) rfl trivial ?_
            cases h11 : gfX0_told_20_55 x S10 262 with
            | none => rw [h11] at hm; cases hm
            | some q12 =>
              obtain ⟨r13, S14⟩ := q12
              rw [h11] at hm
              dsimp only at hm
              refine ev_callV (N := mX0_told) (d' := 3) (bc := 0) (bs := 0) (bc' := 0) (bs' := 0) (as := [.ref 55, .int 262]) (rest := [.int ((p1 * 20) + (p2 - p2 / 20 * 20)), .ref 70]) (a := 20) (ci := 0) (dcd tokX6_behind rfl) okX0_told inX0_told seX0_told lk6_93 rfl (by decide) (Nat.le_of_ble_eq_true rfl) rfl ⟨by decide, rfl⟩ (gpX0_told_20_55 x S10 262 _ _ h11) (fun v h' hq hn => ?_)
              obtain ⟨rfl, rfl⟩ := hq
              refine Ev.steps tokX6_behind 2 (P := True) (pc' := if ¬ r13 = 1 then 100 else 96) (lv' := [some (.ref 54), some (.int p1), some (.int p2), some (.int (p2 - p2 / 20 * 20)), some (.int ((p1 * 20) + (p2 - p2 / 20 * 20)))]) (st' := [.int ((p1 * 20) + (p2 - p2 / 20 * 20)), .ref 70]) (h' := mkS x S14) rfl trivial ?_
              refine Ev.ite (fun c15 => ?_) (fun c15 => ?_)
              · rw [if_pos c15] at hm
                refine Ev.steps tokX6_behind 5 (P := True) (pc' := 111) (lv' := [some (.ref 54), some (.int p1), some (.int p2), some (.int (p2 - p2 / 20 * 20)), some (.int ((p1 * 20) + (p2 - p2 / 20 * 20)))]) (st' := [.int 260, .ref 55, .ref 20, .int ((p1 * 20) + (p2 - p2 / 20 * 20)), .ref 70]) (h' := mkS x S14) rfl trivial ?_
                cases h16 : gfX0_told_20_55 x S14 260 with
                | none => rw [h16] at hm; cases hm
                | some q17 =>
                  obtain ⟨r18, S19⟩ := q17
                  rw [h16] at hm
                  dsimp only at hm
                  refine ev_callV (N := mX0_told) (d' := 3) (bc := 0) (bs := 0) (bc' := 0) (bs' := 0) (as := [.ref 55, .int 260]) (rest := [.int ((p1 * 20) + (p2 - p2 / 20 * 20)), .ref 70]) (a := 20) (ci := 0) (dcd tokX6_behind rfl) okX0_told inX0_told seX0_told lk6_93 rfl (by decide) (Nat.le_of_ble_eq_true rfl) rfl ⟨by decide, rfl⟩ (gpX0_told_20_55 x S14 260 _ _ h16) (fun v h' hq hn => ?_)
                  obtain ⟨rfl, rfl⟩ := hq
                  refine Ev.fgt (lv' := [some (.ref 54), some (.int p1), none, none, some (.int ((p1 * 20) + (p2 - p2 / 20 * 20)))]) ⟨rfl, rfl, rfl, trivial⟩ ?_
                  exact bpX6_behind_54_114 x S19 p1 ((p1 * 20) + (p2 - p2 / 20 * 20)) ((p1 * 20) + (p2 - p2 / 20 * 20)) r18 _ _ hm
              · rw [if_neg c15] at hm
                refine Ev.steps tokX6_behind 2 (P := True) (pc' := 114) (lv' := [some (.ref 54), some (.int p1), some (.int p2), some (.int (p2 - p2 / 20 * 20)), some (.int ((p1 * 20) + (p2 - p2 / 20 * 20)))]) (st' := [.int (-1), .int ((p1 * 20) + (p2 - p2 / 20 * 20)), .ref 70]) (h' := mkS x S14) rfl trivial ?_
                refine Ev.fgt (lv' := [some (.ref 54), some (.int p1), none, none, some (.int ((p1 * 20) + (p2 - p2 / 20 * 20)))]) ⟨rfl, rfl, rfl, trivial⟩ ?_
                exact bpX6_behind_54_114 x S14 p1 ((p1 * 20) + (p2 - p2 / 20 * 20)) ((p1 * 20) + (p2 - p2 / 20 * 20)) (-1) _ _ hm
      · rw [if_neg c4] at hm
        refine Ev.fgt (lv' := [none, none, none, none, none]) trivial ?_
        exact bpX6_behind_54_28 x S _ _ hm
theorem gpX6_behind_54 (x : XT) (S : ST) (p1 : Int32) (p2 : Int32) (r : Int32) (S' : ST) (hm : gfX6_behind_54 x S p1 p2 = some (r, S')) : Ct mX6_behind 4 0 0 [.ref 54, .int p1, .int p2] (mkS x S) (fun v h => v = some (.int r) ∧ h = mkS x S') :=
  Ct.of (lv := [some (.ref 54), some (.int p1), some (.int p2), none, none]) rfl rfl rfl (show (_ : Nat) ≤ _ from Nat.le_of_ble_eq_true rfl) (fun G => rfl) (bpX6_behind_54_0 x S p1 p2 r S' hm)
set_option maxHeartbeats 4000000 in
set_option maxRecDepth 20000 in
theorem bpJ7_fill_53178_72_5 (x : XT) (k5 : ST → Int32 → Int32 → Int32 → Option (Unit × ST)) (hk5 : ∀ (S : ST) (v1 : Int32) (v2 : Int32) (v3 : Int32) (r : Unit) (S' : ST), k5 S v1 v2 v3 = some (r, S') → Ev mJ7_fill_53178 1 0 0 5 [some (.ref 72), some (.int v1), some (.int v2), some (.int v3)] [] (mkS x S) (fun v h => v = none ∧ h = mkS x S')) (S : ST) (v1 : Int32) (v2 : Int32) (v3 : Int32) (r : Unit) (S' : ST) (hm : bfJ7_fill_53178_72_5 x k5 S v1 v2 v3 = some (r, S')) : Ev mJ7_fill_53178 1 0 0 5 [some (.ref 72), some (.int v1), some (.int v2), some (.int v3)] [] (mkS x S) (fun v h => v = none ∧ h = mkS x S') := by
    unfold bfJ7_fill_53178_72_5 at hm
    refine Ev.steps tokJ7_fill_53178 3 (P := True) (pc' := if v3 ≤ v2 then 20 else 10) (lv' := [some (.ref 72), some (.int v1), some (.int v2), some (.int v3)]) (st' := []) (h' := mkS x S) rfl trivial ?_
    refine Ev.ite (fun c1 => ?_) (fun c1 => ?_)
    · rw [if_pos c1] at hm
      cases hm
      exact Ev.retv tokJ7_fill_53178 rfl rfl ⟨rfl, rfl⟩
    · rw [if_neg c1] at hm
      obtain ⟨o2, hm⟩ := oblk hm
      refine Ev.steps tokJ7_fill_53178 6 (P := vp_in v2 120 ∧ True) (pc' := 5) (lv' := [some (.ref 72), some (.int v1), some (.int (v2 + 1)), some (.int v3)]) (st' := []) (h' := mkS x (S.1, (u2 S.2.1 72 v2.toNatClampNeg v1), S.2.2.1, S.2.2.2)) rfl ⟨inb_ok o2, trivial⟩ ?_
      exact hk5 (S.1, (u2 S.2.1 72 v2.toNatClampNeg v1), S.2.2.1, S.2.2.2) v1 (v2 + 1) v3 _ _ hm
theorem lpJ7_fill_53178_72_5 (x : XT)  : ∀ (n : Nat) (S : ST) (v1 : Int32) (v2 : Int32) (v3 : Int32) (r : Unit) (S' : ST), lfJ7_fill_53178_72_5 x  n S v1 v2 v3 = some (r, S') → Ev mJ7_fill_53178 1 0 0 5 [some (.ref 72), some (.int v1), some (.int v2), some (.int v3)] [] (mkS x S) (fun v h => v = none ∧ h = mkS x S')
  | 0, _, _, _, _, _, _, hm => by cases hm
  | n + 1, S, v1, v2, v3, r, S', hm => bpJ7_fill_53178_72_5 x (lfJ7_fill_53178_72_5 x  n) (lpJ7_fill_53178_72_5 x  n) S v1 v2 v3 r S' hm
set_option maxHeartbeats 4000000 in
set_option maxRecDepth 20000 in
theorem bpJ7_fill_53178_72_0 (x : XT)  (S : ST) (p1 : Int32) (r : Unit) (S' : ST) (hm : bfJ7_fill_53178_72_0 x  S p1 = some (r, S')) : Ev mJ7_fill_53178 1 0 0 0 [some (.ref 72), some (.int p1), none, none] [] (mkS x S) (fun v h => v = none ∧ h = mkS x S') := by
    unfold bfJ7_fill_53178_72_0 at hm
    refine Ev.steps tokJ7_fill_53178 5 (P := True) (pc' := 5) (lv' := [some (.ref 72), some (.int p1), some (.int 0), some (.int 120)]) (st' := []) (h' := mkS x S) rfl trivial ?_
    exact lpJ7_fill_53178_72_5 x  20000 S p1 0 120 _ _ hm
theorem gpJ7_fill_53178_72 (x : XT) (S : ST) (p1 : Int32) (r : Unit) (S' : ST) (hm : gfJ7_fill_53178_72 x S p1 = some (r, S')) : Ct mJ7_fill_53178 1 0 0 [.ref 72, .int p1] (mkS x S) (fun v h => v = none ∧ h = mkS x S') :=
  Ct.of (lv := [some (.ref 72), some (.int p1), none, none]) rfl rfl rfl (show (_ : Nat) ≤ _ from Nat.le_of_ble_eq_true rfl) (fun G => rfl) (bpJ7_fill_53178_72_0 x S p1 r S' hm)
set_option maxHeartbeats 4000000 in
set_option maxRecDepth 20000 in
theorem bpX6_start_54_0 (x : XT)  (S : ST)  (r : Int32) (S' : ST) (hm : bfX6_start_54_0 x  S  = some (r, S')) : Ev mX6_start 1 0 0 0 [some (.ref 54)] [] (mkS x S) (fun v h => v = some (.int r) ∧ h = mkS x S') := by
    unfold bfX6_start_54_0 at hm
    obtain ⟨o1, hm⟩ := oblk hm
    obtain ⟨o2, hm⟩ := oblk hm
    refine Ev.steps tokX6_start 15 (P := vp_in (S.1 54 2) 5 ∧ vp_in (S.1 54 2) 5 ∧ True) (pc' := 28) (lv' := [some (.ref 54)]) (st' := [.int (((S.2.1 61 ((S.1 54 2).toNatClampNeg)) * 20) + (S.2.1 62 ((S.1 54 2).toNatClampNeg)))]) (h' := mkS x S) rfl ⟨inb_ok o1, inb_ok o2, trivial⟩ ?_
    cases hm
    exact Ev.reti tokX6_start rfl rfl ⟨rfl, rfl⟩
theorem gpX6_start_54 (x : XT) (S : ST)  (r : Int32) (S' : ST) (hm : gfX6_start_54 x S  = some (r, S')) : Ct mX6_start 1 0 0 [.ref 54] (mkS x S) (fun v h => v = some (.int r) ∧ h = mkS x S') :=
  Ct.of (lv := [some (.ref 54)]) rfl rfl rfl (show (_ : Nat) ≤ _ from Nat.le_of_ble_eq_true rfl) (fun G => rfl) (bpX6_start_54_0 x S  r S' hm)
set_option maxHeartbeats 4000000 in
set_option maxRecDepth 20000 in
theorem bpX6_find_54_236 (x : XT)  (S : ST)  (r : Int32) (S' : ST) (hm : bfX6_find_54_236 x  S  = some (r, S')) : Ev mX6_find 5 0 0 236 [none, none, none, none, none, none, none, none] [] (mkS x S) (fun v h => v = some (.int r) ∧ h = mkS x S') := by
    unfold bfX6_find_54_236 at hm
    refine Ev.steps tokX6_find 1 (P := True) (pc' := 237) (lv' := [none, none, none, none, none, none, none, none]) (st' := [.int (-1)]) (h' := mkS x S) rfl trivial ?_
    cases hm
    exact Ev.reti tokX6_find rfl rfl ⟨rfl, rfl⟩
set_option maxHeartbeats 4000000 in
set_option maxRecDepth 20000 in
theorem bpX6_find_54_224 (x : XT) (k56 : ST → Int32 → Int32 → Int32 → Int32 → Option (Int32 × ST)) (hk56 : ∀ (S : ST) (v1 : Int32) (v2 : Int32) (v3 : Int32) (v4 : Int32) (r : Int32) (S' : ST), k56 S v1 v2 v3 v4 = some (r, S') → Ev mX6_find 5 0 0 56 [some (.ref 54), some (.int v1), some (.int v2), some (.int v3), some (.int v4), none, none, none] [] (mkS x S) (fun v h => v = some (.int r) ∧ h = mkS x S')) (k84 : ST → Int32 → Int32 → Int32 → Int32 → Int32 → Int32 → Option (Int32 × ST)) (hk84 : ∀ (S : ST) (v1 : Int32) (v2 : Int32) (v3 : Int32) (v4 : Int32) (v5 : Int32) (v6 : Int32) (r : Int32) (S' : ST), k84 S v1 v2 v3 v4 v5 v6 = some (r, S') → Ev mX6_find 5 0 0 84 [some (.ref 54), some (.int v1), some (.int v2), some (.int v3), some (.int v4), some (.int v5), some (.int v6), none] [] (mkS x S) (fun v h => v = some (.int r) ∧ h = mkS x S')) (S : ST) (v1 : Int32) (v2 : Int32) (v3 : Int32) (v4 : Int32) (v5 : Int32) (v6 : Int32) (r : Int32) (S' : ST) (hm : bfX6_find_54_224 x k56 k84 S v1 v2 v3 v4 v5 v6 = some (r, S')) : Ev mX6_find 5 0 0 224 [some (.ref 54), some (.int v1), some (.int v2), some (.int v3), some (.int v4), some (.int v5), some (.int v6), none] [] (mkS x S) (fun v h => v = some (.int r) ∧ h = mkS x S') := by
    unfold bfX6_find_54_224 at hm
    refine Ev.steps tokX6_find 2 (P := True) (pc' := 84) (lv' := [some (.ref 54), some (.int v1), some (.int v2), some (.int v3), some (.int v4), some (.int v5), some (.int (v6 + 1)), none]) (st' := []) (h' := mkS x S) rfl trivial ?_
    exact hk84 S v1 v2 v3 v4 v5 (v6 + 1) _ _ hm
set_option maxHeartbeats 4000000 in
set_option maxRecDepth 20000 in
theorem bpX6_find_54_128 (x : XT) (k56 : ST → Int32 → Int32 → Int32 → Int32 → Option (Int32 × ST)) (hk56 : ∀ (S : ST) (v1 : Int32) (v2 : Int32) (v3 : Int32) (v4 : Int32) (r : Int32) (S' : ST), k56 S v1 v2 v3 v4 = some (r, S') → Ev mX6_find 5 0 0 56 [some (.ref 54), some (.int v1), some (.int v2), some (.int v3), some (.int v4), none, none, none] [] (mkS x S) (fun v h => v = some (.int r) ∧ h = mkS x S')) (k84 : ST → Int32 → Int32 → Int32 → Int32 → Int32 → Int32 → Option (Int32 × ST)) (hk84 : ∀ (S : ST) (v1 : Int32) (v2 : Int32) (v3 : Int32) (v4 : Int32) (v5 : Int32) (v6 : Int32) (r : Int32) (S' : ST), k84 S v1 v2 v3 v4 v5 v6 = some (r, S') → Ev mX6_find 5 0 0 84 [some (.ref 54), some (.int v1), some (.int v2), some (.int v3), some (.int v4), some (.int v5), some (.int v6), none] [] (mkS x S) (fun v h => v = some (.int r) ∧ h = mkS x S')) (S : ST) (v1 : Int32) (v2 : Int32) (v3 : Int32) (v4 : Int32) (v5 : Int32) (v6 : Int32) (t0 : Int32) (r : Int32) (S' : ST) (hm : bfX6_find_54_128 x k56 k84 S v1 v2 v3 v4 v5 v6 t0 = some (r, S')) : Ev mX6_find 5 0 0 128 [some (.ref 54), some (.int v1), some (.int v2), some (.int v3), some (.int v4), some (.int v5), some (.int v6), none] [.int t0] (mkS x S) (fun v h => v = some (.int r) ∧ h = mkS x S') := by
    unfold bfX6_find_54_128 at hm
    refine Ev.steps tokX6_find 4 (P := True) (pc' := if t0 = (-1) then 224 else 136) (lv' := [some (.ref 54), some (.int v1), some (.int v2), some (.int v3), some (.int v4), some (.int v5), some (.int v6), some (.int t0)]) (st' := []) (h' := mkS x S) rfl trivial ?_
    refine Ev.ite (fun c1 => ?_) (fun c1 => ?_)
    · rw [if_pos c1] at hm
      refine Ev.fgt (lv' := [some (.ref 54), some (.int v1), some (.int v2), some (.int v3), some (.int v4), some (.int v5), some (.int v6), none]) ⟨rfl, rfl, rfl, rfl, rfl, rfl, rfl, trivial⟩ ?_
      exact bpX6_find_54_224 x k56 hk56 k84 hk84 S v1 v2 v3 v4 v5 v6 _ _ hm
    · rw [if_neg c1] at hm
      obtain ⟨o2, hm⟩ := oblk hm
      refine Ev.steps tokX6_find 6 (P := vp_in t0 120 ∧ True) (pc' := if ¬ (S.2.1 72 t0.toNatClampNeg) = (-1) then 224 else 147) (lv' := [some (.ref 54), some (.int v1), some (.int v2), some (.int v3), some (.int v4), some (.int v5), some (.int v6), some (.int t0)]) (st' := []) (h' := mkS x S) rfl ⟨inb_ok o2, trivial⟩ ?_
      refine Ev.ite (fun c3 => ?_) (fun c3 => ?_)
      · rw [if_pos c3] at hm
        refine Ev.fgt (lv' := [some (.ref 54), some (.int v1), some (.int v2), some (.int v3), some (.int v4), some (.int v5), some (.int v6), none]) ⟨rfl, rfl, rfl, rfl, rfl, rfl, rfl, trivial⟩ ?_
        exact bpX6_find_54_224 x k56 hk56 k84 hk84 S v1 v2 v3 v4 v5 v6 _ _ hm
      · rw [if_neg c3] at hm
        refine Ev.steps tokX6_find 3 (P := True) (pc' := if v3 < 120 then 156 else 153) (lv' := [some (.ref 54), some (.int v1), some (.int v2), some (.int v3), some (.int v4), some (.int v5), some (.int v6), some (.int t0)]) (st' := []) (h' := mkS x S) rfl trivial ?_
        refine Ev.ite (fun c4 => ?_) (fun c4 => ?_)
        · rw [if_pos c4] at hm
          obtain ⟨o5, hm⟩ := oblk hm
          obtain ⟨o6, hm⟩ := oblk hm
          obtain ⟨o7, hm⟩ := oblk hm
          obtain ⟨o8, hm⟩ := oblk hm
          obtain ⟨o9, hm⟩ := oblk hm
          obtain ⟨o10, hm⟩ := oblk hm
          refine Ev.steps tokX6_find 29 (P := vp_in v4 120 ∧ vp_in (S.2.1 71 v4.toNatClampNeg) 120 ∧ vp_in t0 120 ∧ vp_in t0 120 ∧ vp_in v4 120 ∧ vp_in t0 120 ∧ True) (pc' := 204) (lv' := [some (.ref 54), some (.int v1), some (.int v2), some (.int v3), some (.int v4), some (.int v5), some (.int v6), some (.int t0)]) (st' := [.int v2, .int v1, .int t0]) (h' := mkS x (S.1, (u2 (u2 (u2 S.2.1 72 t0.toNatClampNeg ((S.2.1 72 ((S.2.1 71 v4.toNatClampNeg).toNatClampNeg)) + 1)) 73 t0.toNatClampNeg v6) 74 t0.toNatClampNeg (S.2.1 71 v4.toNatClampNeg)), S.2.2.1, S.2.2.2)) rfl ⟨inb_ok o5, inb_ok o6, inb_ok o7, inb_ok o8, inb_ok o9, inb_ok o10, trivial⟩ ?_
          cases h11 : gfX6_isAt x (S.1, (u2 (u2 (u2 S.2.1 72 t0.toNatClampNeg ((S.2.1 72 ((S.2.1 71 v4.toNatClampNeg).toNatClampNeg)) + 1)) 73 t0.toNatClampNeg v6) 74 t0.toNatClampNeg (S.2.1 71 v4.toNatClampNeg)), S.2.2.1, S.2.2.2) t0 v1 v2 with
          | none => rw [h11] at hm; cases hm
          | some q12 =>
            obtain ⟨r13, S14⟩ := q12
            rw [h11] at hm
            dsimp only at hm
            refine ev_callS (N := mX6_isAt) (d' := 1) (bc := 0) (bs := 0) (bc' := 0) (bs' := 0) (as := [.int t0, .int v1, .int v2]) (rest := []) (dcd tokX6_find rfl) okX6_isAt inX6_isAt lk6_104 rfl (by decide) (Nat.le_of_ble_eq_true rfl) (gpX6_isAt x (S.1, (u2 (u2 (u2 S.2.1 72 t0.toNatClampNeg ((S.2.1 72 ((S.2.1 71 v4.toNatClampNeg).toNatClampNeg)) + 1)) 73 t0.toNatClampNeg v6) 74 t0.toNatClampNeg (S.2.1 71 v4.toNatClampNeg)), S.2.2.1, S.2.2.2) t0 v1 v2 _ _ h11) (fun v h' hq hn => ?_)
            obtain ⟨rfl, rfl⟩ := hq
            refine Ev.steps tokX6_find 1 (P := True) (pc' := if r13 = 0 then 213 else 210) (lv' := [some (.ref 54), some (.int v1), some (.int v2), some (.int v3), some (.int v4), some (.int v5), some (.int v6), some (.int t0)]) (st' := []) (h' := mkS x S14) rfl trivial ?_
            refine Ev.ite (fun c15 => ?_) (fun c15 => ?_)
            · rw [if_pos c15] at hm
              obtain ⟨o16, hm⟩ := oblk hm
              refine Ev.steps tokX6_find 6 (P := vp_in v3 120 ∧ True) (pc' := 224) (lv' := [some (.ref 54), some (.int v1), some (.int v2), some (.int (v3 + 1)), some (.int v4), some (.int v5), some (.int v6), some (.int t0)]) (st' := []) (h' := mkS x (S14.1, (u2 S14.2.1 71 v3.toNatClampNeg t0), S14.2.2.1, S14.2.2.2)) rfl ⟨inb_ok o16, trivial⟩ ?_
              refine Ev.fgt (lv' := [some (.ref 54), some (.int v1), some (.int v2), some (.int (v3 + 1)), some (.int v4), some (.int v5), some (.int v6), none]) ⟨rfl, rfl, rfl, rfl, rfl, rfl, rfl, trivial⟩ ?_
              exact bpX6_find_54_224 x k56 hk56 k84 hk84 (S14.1, (u2 S14.2.1 71 v3.toNatClampNeg t0), S14.2.2.1, S14.2.2.2) v1 v2 (v3 + 1) v4 v5 v6 _ _ hm
            · rw [if_neg c15] at hm
              refine Ev.steps tokX6_find 1 (P := True) (pc' := 212) (lv' := [some (.ref 54), some (.int v1), some (.int v2), some (.int v3), some (.int v4), some (.int v5), some (.int v6), some (.int t0)]) (st' := [.int t0]) (h' := mkS x S14) rfl trivial ?_
              cases hm
              exact Ev.reti tokX6_find rfl rfl ⟨rfl, rfl⟩
        · rw [if_neg c4] at hm
          refine Ev.steps tokX6_find 1 (P := True) (pc' := 224) (lv' := [some (.ref 54), some (.int v1), some (.int v2), some (.int v3), some (.int v4), some (.int v5), some (.int v6), some (.int t0)]) (st' := []) (h' := mkS x S) rfl trivial ?_
          refine Ev.fgt (lv' := [some (.ref 54), some (.int v1), some (.int v2), some (.int v3), some (.int v4), some (.int v5), some (.int v6), none]) ⟨rfl, rfl, rfl, rfl, rfl, rfl, rfl, trivial⟩ ?_
          exact bpX6_find_54_224 x k56 hk56 k84 hk84 S v1 v2 v3 v4 v5 v6 _ _ hm
set_option maxHeartbeats 4000000 in
set_option maxRecDepth 20000 in
theorem bpX6_find_54_84 (x : XT) (k56 : ST → Int32 → Int32 → Int32 → Int32 → Option (Int32 × ST)) (hk56 : ∀ (S : ST) (v1 : Int32) (v2 : Int32) (v3 : Int32) (v4 : Int32) (r : Int32) (S' : ST), k56 S v1 v2 v3 v4 = some (r, S') → Ev mX6_find 5 0 0 56 [some (.ref 54), some (.int v1), some (.int v2), some (.int v3), some (.int v4), none, none, none] [] (mkS x S) (fun v h => v = some (.int r) ∧ h = mkS x S')) (k84 : ST → Int32 → Int32 → Int32 → Int32 → Int32 → Int32 → Option (Int32 × ST)) (hk84 : ∀ (S : ST) (v1 : Int32) (v2 : Int32) (v3 : Int32) (v4 : Int32) (v5 : Int32) (v6 : Int32) (r : Int32) (S' : ST), k84 S v1 v2 v3 v4 v5 v6 = some (r, S') → Ev mX6_find 5 0 0 84 [some (.ref 54), some (.int v1), some (.int v2), some (.int v3), some (.int v4), some (.int v5), some (.int v6), none] [] (mkS x S) (fun v h => v = some (.int r) ∧ h = mkS x S')) (S : ST) (v1 : Int32) (v2 : Int32) (v3 : Int32) (v4 : Int32) (v5 : Int32) (v6 : Int32) (r : Int32) (S' : ST) (hm : bfX6_find_54_84 x k56 k84 S v1 v2 v3 v4 v5 v6 = some (r, S')) : Ev mX6_find 5 0 0 84 [some (.ref 54), some (.int v1), some (.int v2), some (.int v3), some (.int v4), some (.int v5), some (.int v6), none] [] (mkS x S) (fun v h => v = some (.int r) ∧ h = mkS x S') := by
    unfold bfX6_find_54_84 at hm
    refine Ev.steps tokX6_find 5 (P := True) (pc' := if (S.1 55 0) ≤ v6 then 230 else 96) (lv' := [some (.ref 54), some (.int v1), some (.int v2), some (.int v3), some (.int v4), some (.int v5), some (.int v6), none]) (st' := []) (h' := mkS x S) rfl trivial ?_
    refine Ev.ite (fun c1 => ?_) (fun c1 => ?_)
    · rw [if_pos c1] at hm
      refine Ev.steps tokX6_find 2 (P := True) (pc' := 56) (lv' := [some (.ref 54), some (.int v1), some (.int v2), some (.int v3), some (.int (v4 + 1)), some (.int v5), some (.int v6), none]) (st' := []) (h' := mkS x S) rfl trivial ?_
      refine Ev.fgt (lv' := [some (.ref 54), some (.int v1), some (.int v2), some (.int v3), some (.int (v4 + 1)), none, none, none]) ⟨rfl, rfl, rfl, rfl, rfl, trivial⟩ ?_
      exact hk56 S v1 v2 v3 (v4 + 1) _ _ hm
    · rw [if_neg c1] at hm
      obtain ⟨o2, hm⟩ := oblk hm
      refine Ev.steps tokX6_find 7 (P := vp_in v6 10 ∧ True) (pc' := if ¬ (S.2.1 56 v6.toNatClampNeg) = v5 then 127 else 111) (lv' := [some (.ref 54), some (.int v1), some (.int v2), some (.int v3), some (.int v4), some (.int v5), some (.int v6), none]) (st' := []) (h' := mkS x S) rfl ⟨inb_ok o2, trivial⟩ ?_
      refine Ev.ite (fun c3 => ?_) (fun c3 => ?_)
      · rw [if_pos c3] at hm
        refine Ev.steps tokX6_find 1 (P := True) (pc' := 128) (lv' := [some (.ref 54), some (.int v1), some (.int v2), some (.int v3), some (.int v4), some (.int v5), some (.int v6), none]) (st' := [.int (-1)]) (h' := mkS x S) rfl trivial ?_
        exact bpX6_find_54_128 x k56 hk56 k84 hk84 S v1 v2 v3 v4 v5 v6 (-1) _ _ hm
      · rw [if_neg c3] at hm
        obtain ⟨o4, hm⟩ := oblk hm
        refine Ev.steps tokX6_find 6 (P := vp_in v4 120 ∧ True) (pc' := 121) (lv' := [some (.ref 54), some (.int v1), some (.int v2), some (.int v3), some (.int v4), some (.int v5), some (.int v6), none]) (st' := [.int (S.2.1 71 v4.toNatClampNeg), .int v6, .ref 54]) (h' := mkS x S) rfl ⟨inb_ok o4, trivial⟩ ?_
        cases h5 : gfX6_behind_54 x S v6 (S.2.1 71 v4.toNatClampNeg) with
        | none => rw [h5] at hm; cases hm
        | some q6 =>
          obtain ⟨r7, S8⟩ := q6
          rw [h5] at hm
          dsimp only at hm
          refine ev_callV (N := mX6_behind) (d' := 4) (bc := 0) (bs := 0) (bc' := 0) (bs' := 0) (as := [.int v6, .int (S.2.1 71 v4.toNatClampNeg)]) (rest := []) (a := 54) (ci := 6) (dcd tokX6_find rfl) okX6_behind inX6_behind seX6_behind lk6_111 rfl (by decide) (Nat.le_of_ble_eq_true rfl) rfl ⟨by decide, rfl⟩ (gpX6_behind_54 x S v6 (S.2.1 71 v4.toNatClampNeg) _ _ h5) (fun v h' hq hn => ?_)
          obtain ⟨rfl, rfl⟩ := hq
          refine Ev.steps tokX6_find 1 (P := True) (pc' := 128) (lv' := [some (.ref 54), some (.int v1), some (.int v2), some (.int v3), some (.int v4), some (.int v5), some (.int v6), none]) (st' := [.int r7]) (h' := mkS x S8) rfl trivial ?_
          exact bpX6_find_54_128 x k56 hk56 k84 hk84 S8 v1 v2 v3 v4 v5 v6 r7 _ _ hm
theorem lpX6_find_54_84 (x : XT) (k56 : ST → Int32 → Int32 → Int32 → Int32 → Option (Int32 × ST)) (hk56 : ∀ (S : ST) (v1 : Int32) (v2 : Int32) (v3 : Int32) (v4 : Int32) (r : Int32) (S' : ST), k56 S v1 v2 v3 v4 = some (r, S') → Ev mX6_find 5 0 0 56 [some (.ref 54), some (.int v1), some (.int v2), some (.int v3), some (.int v4), none, none, none] [] (mkS x S) (fun v h => v = some (.int r) ∧ h = mkS x S')) : ∀ (n : Nat) (S : ST) (v1 : Int32) (v2 : Int32) (v3 : Int32) (v4 : Int32) (v5 : Int32) (v6 : Int32) (r : Int32) (S' : ST), lfX6_find_54_84 x k56 n S v1 v2 v3 v4 v5 v6 = some (r, S') → Ev mX6_find 5 0 0 84 [some (.ref 54), some (.int v1), some (.int v2), some (.int v3), some (.int v4), some (.int v5), some (.int v6), none] [] (mkS x S) (fun v h => v = some (.int r) ∧ h = mkS x S')
  | 0, _, _, _, _, _, _, _, _, _, hm => by cases hm
  | n + 1, S, v1, v2, v3, v4, v5, v6, r, S', hm => bpX6_find_54_84 x k56 hk56 (lfX6_find_54_84 x k56 n) (lpX6_find_54_84 x k56 hk56 n) S v1 v2 v3 v4 v5 v6 r S' hm
set_option maxHeartbeats 4000000 in
set_option maxRecDepth 20000 in
theorem bpX6_find_54_56 (x : XT) (k56 : ST → Int32 → Int32 → Int32 → Int32 → Option (Int32 × ST)) (hk56 : ∀ (S : ST) (v1 : Int32) (v2 : Int32) (v3 : Int32) (v4 : Int32) (r : Int32) (S' : ST), k56 S v1 v2 v3 v4 = some (r, S') → Ev mX6_find 5 0 0 56 [some (.ref 54), some (.int v1), some (.int v2), some (.int v3), some (.int v4), none, none, none] [] (mkS x S) (fun v h => v = some (.int r) ∧ h = mkS x S')) (S : ST) (v1 : Int32) (v2 : Int32) (v3 : Int32) (v4 : Int32) (r : Int32) (S' : ST) (hm : bfX6_find_54_56 x k56 S v1 v2 v3 v4 = some (r, S')) : Ev mX6_find 5 0 0 56 [some (.ref 54), some (.int v1), some (.int v2), some (.int v3), some (.int v4), none, none, none] [] (mkS x S) (fun v h => v = some (.int r) ∧ h = mkS x S') := by
    unfold bfX6_find_54_56 at hm
    refine Ev.steps tokX6_find 3 (P := True) (pc' := if v3 ≤ v4 then 236 else 62) (lv' := [some (.ref 54), some (.int v1), some (.int v2), some (.int v3), some (.int v4), none, none, none]) (st' := []) (h' := mkS x S) rfl trivial ?_
    refine Ev.ite (fun c1 => ?_) (fun c1 => ?_)
    · rw [if_pos c1] at hm
      refine Ev.fgt (lv' := [none, none, none, none, none, none, none, none]) trivial ?_
      exact bpX6_find_54_236 x S _ _ hm
    · rw [if_neg c1] at hm
      refine Ev.steps tokX6_find 3 (P := True) (pc' := if 120 ≤ v4 then 236 else 69) (lv' := [some (.ref 54), some (.int v1), some (.int v2), some (.int v3), some (.int v4), none, none, none]) (st' := []) (h' := mkS x S) rfl trivial ?_
      refine Ev.ite (fun c2 => ?_) (fun c2 => ?_)
      · rw [if_pos c2] at hm
        refine Ev.fgt (lv' := [none, none, none, none, none, none, none, none]) trivial ?_
        exact bpX6_find_54_236 x S _ _ hm
      · rw [if_neg c2] at hm
        obtain ⟨o3, hm⟩ := oblk hm
        refine Ev.steps tokX6_find 9 (P := vp_in v4 120 ∧ ¬ 20 = 0 ∧ True) (pc' := 84) (lv' := [some (.ref 54), some (.int v1), some (.int v2), some (.int v3), some (.int v4), some (.int ((S.2.1 71 v4.toNatClampNeg) / 20)), some (.int 0), none]) (st' := []) (h' := mkS x S) rfl ⟨inb_ok o3, (by decide), trivial⟩ ?_
        exact lpX6_find_54_84 x k56 hk56 20000 S v1 v2 v3 v4 ((S.2.1 71 v4.toNatClampNeg) / 20) 0 _ _ hm
theorem lpX6_find_54_56 (x : XT)  : ∀ (n : Nat) (S : ST) (v1 : Int32) (v2 : Int32) (v3 : Int32) (v4 : Int32) (r : Int32) (S' : ST), lfX6_find_54_56 x  n S v1 v2 v3 v4 = some (r, S') → Ev mX6_find 5 0 0 56 [some (.ref 54), some (.int v1), some (.int v2), some (.int v3), some (.int v4), none, none, none] [] (mkS x S) (fun v h => v = some (.int r) ∧ h = mkS x S')
  | 0, _, _, _, _, _, _, _, hm => by cases hm
  | n + 1, S, v1, v2, v3, v4, r, S', hm => bpX6_find_54_56 x (lfX6_find_54_56 x  n) (lpX6_find_54_56 x  n) S v1 v2 v3 v4 r S' hm
set_option maxHeartbeats 4000000 in
set_option maxRecDepth 20000 in
theorem bpX6_find_54_0 (x : XT)  (S : ST) (p1 : Int32) (p2 : Int32) (r : Int32) (S' : ST) (hm : bfX6_find_54_0 x  S p1 p2 = some (r, S')) : Ev mX6_find 5 0 0 0 [some (.ref 54), some (.int p1), some (.int p2), none, none, none, none, none] [] (mkS x S) (fun v h => v = some (.int r) ∧ h = mkS x S') := by
    unfold bfX6_find_54_0 at hm
    refine Ev.steps tokX6_find 3 (P := True) (pc' := 5) (lv' := [some (.ref 54), some (.int p1), some (.int p2), none, none, none, none, none]) (st' := [.int (-1), .ref 72]) (h' := mkS x S) rfl trivial ?_
    cases h1 : gfJ7_fill_53178_72 x S (-1) with
    | none => rw [h1] at hm; cases hm
    | some q2 =>
      obtain ⟨r3, S4⟩ := q2
      rw [h1] at hm
      dsimp only at hm
      refine ev_callS (N := mJ7_fill_53178) (d' := 1) (bc := 0) (bs := 0) (bc' := 0) (bs' := 0) (as := [.ref 72, .int (-1)]) (rest := []) (dcd tokX6_find rfl) okJ7_fill_53178 inJ7_fill_53178 lk6_62 rfl (by decide) (Nat.le_of_ble_eq_true rfl) (gpJ7_fill_53178_72 x S (-1) _ _ h1) (fun v h' hq hn => ?_)
      obtain ⟨rfl, rfl⟩ := hq
      refine Ev.steps tokX6_find 4 (P := True) (pc' := 14) (lv' := [some (.ref 54), some (.int p1), some (.int p2), none, none, none, none, none]) (st' := [.ref 54, .int 0, .ref 71]) (h' := mkS x S4) rfl trivial ?_
      cases h5 : gfX6_start_54 x S4 with
      | none => rw [h5] at hm; cases hm
      | some q6 =>
        obtain ⟨r7, S8⟩ := q6
        rw [h5] at hm
        dsimp only at hm
        refine ev_callV (N := mX6_start) (d' := 1) (bc := 0) (bs := 0) (bc' := 0) (bs' := 0) (as := []) (rest := [.int 0, .ref 71]) (a := 54) (ci := 6) (dcd tokX6_find rfl) okX6_start inX6_start seX6_start lk6_100 rfl (by decide) (Nat.le_of_ble_eq_true rfl) rfl ⟨by decide, rfl⟩ (gpX6_start_54 x S4 _ _ h5) (fun v h' hq hn => ?_)
        obtain ⟨rfl, rfl⟩ := hq
        obtain ⟨o9, hm⟩ := oblk hm
        refine Ev.steps tokX6_find 15 (P := vp_in 0 120 ∧ vp_in 0 120 ∧ vp_in r7 120 ∧ vp_in 0 120 ∧ True) (pc' := 38) (lv' := [some (.ref 54), some (.int p1), some (.int p2), none, none, none, none, none]) (st' := [.int p2, .int p1, .int r7]) (h' := mkS x (S8.1, (u2 (u2 S8.2.1 71 0 r7) 72 r7.toNatClampNeg 0), S8.2.2.1, S8.2.2.2)) rfl ⟨(by unfold vp_in; decide), (by unfold vp_in; decide), inb_ok o9, (by unfold vp_in; decide), trivial⟩ ?_
        cases h10 : gfX6_isAt x (S8.1, (u2 (u2 S8.2.1 71 0 r7) 72 r7.toNatClampNeg 0), S8.2.2.1, S8.2.2.2) r7 p1 p2 with
        | none => rw [h10] at hm; cases hm
        | some q11 =>
          obtain ⟨r12, S13⟩ := q11
          rw [h10] at hm
          dsimp only at hm
          refine ev_callS (N := mX6_isAt) (d' := 1) (bc := 0) (bs := 0) (bc' := 0) (bs' := 0) (as := [.int r7, .int p1, .int p2]) (rest := []) (dcd tokX6_find rfl) okX6_isAt inX6_isAt lk6_104 rfl (by decide) (Nat.le_of_ble_eq_true rfl) (gpX6_isAt x (S8.1, (u2 (u2 S8.2.1 71 0 r7) 72 r7.toNatClampNeg 0), S8.2.2.1, S8.2.2.2) r7 p1 p2 _ _ h10) (fun v h' hq hn => ?_)
          obtain ⟨rfl, rfl⟩ := hq
          refine Ev.steps tokX6_find 1 (P := True) (pc' := if r12 = 0 then 51 else 44) (lv' := [some (.ref 54), some (.int p1), some (.int p2), none, none, none, none, none]) (st' := []) (h' := mkS x S13) rfl trivial ?_
          refine Ev.ite (fun c14 => ?_) (fun c14 => ?_)
          · rw [if_pos c14] at hm
            refine Ev.steps tokX6_find 4 (P := True) (pc' := 56) (lv' := [some (.ref 54), some (.int p1), some (.int p2), some (.int 1), some (.int 0), none, none, none]) (st' := []) (h' := mkS x S13) rfl trivial ?_
            exact lpX6_find_54_56 x  20000 S13 p1 p2 1 0 _ _ hm
          · rw [if_neg c14] at hm
            refine Ev.steps tokX6_find 4 (P := vp_in 0 120 ∧ True) (pc' := 50) (lv' := [some (.ref 54), some (.int p1), some (.int p2), none, none, none, none, none]) (st' := [.int (S13.2.1 71 0)]) (h' := mkS x S13) rfl ⟨(by unfold vp_in; decide), trivial⟩ ?_
            cases hm
            exact Ev.reti tokX6_find rfl rfl ⟨rfl, rfl⟩
theorem gpX6_find_54 (x : XT) (S : ST) (p1 : Int32) (p2 : Int32) (r : Int32) (S' : ST) (hm : gfX6_find_54 x S p1 p2 = some (r, S')) : Ct mX6_find 5 0 0 [.ref 54, .int p1, .int p2] (mkS x S) (fun v h => v = some (.int r) ∧ h = mkS x S') :=
  Ct.of (lv := [some (.ref 54), some (.int p1), some (.int p2), none, none, none, none, none]) rfl rfl rfl (show (_ : Nat) ≤ _ from Nat.le_of_ble_eq_true rfl) (fun G => rfl) (bpX6_find_54_0 x S p1 p2 r S' hm)
set_option maxHeartbeats 4000000 in
set_option maxRecDepth 20000 in
theorem bpX6_wayGate_54_29 (x : XT)  (S : ST)  (r : Int32) (S' : ST) (hm : bfX6_wayGate_54_29 x  S  = some (r, S')) : Ev mX6_wayGate 6 0 0 29 [none, none, none, none, none, none] [] (mkS x S) (fun v h => v = some (.int r) ∧ h = mkS x S') := by
    unfold bfX6_wayGate_54_29 at hm
    refine Ev.steps tokX6_wayGate 1 (P := True) (pc' := 30) (lv' := [none, none, none, none, none, none]) (st' := [.int (-1)]) (h' := mkS x S) rfl trivial ?_
    cases hm
    exact Ev.reti tokX6_wayGate rfl rfl ⟨rfl, rfl⟩
set_option maxHeartbeats 4000000 in
set_option maxRecDepth 20000 in
theorem bpX6_wayGate_54_42 (x : XT) (k42 : ST → Int32 → Int32 → Int32 → Option (Int32 × ST)) (hk42 : ∀ (S : ST) (v3 : Int32) (v4 : Int32) (v5 : Int32) (r : Int32) (S' : ST), k42 S v3 v4 v5 = some (r, S') → Ev mX6_wayGate 6 0 0 42 [some (.ref 54), none, none, some (.int v3), some (.int v4), some (.int v5)] [] (mkS x S) (fun v h => v = some (.int r) ∧ h = mkS x S')) (S : ST) (v3 : Int32) (v4 : Int32) (v5 : Int32) (r : Int32) (S' : ST) (hm : bfX6_wayGate_54_42 x k42 S v3 v4 v5 = some (r, S')) : Ev mX6_wayGate 6 0 0 42 [some (.ref 54), none, none, some (.int v3), some (.int v4), some (.int v5)] [] (mkS x S) (fun v h => v = some (.int r) ∧ h = mkS x S') := by
    unfold bfX6_wayGate_54_42 at hm
    refine Ev.steps tokX6_wayGate 3 (P := True) (pc' := if v5 ≤ v3 then 63 else 48) (lv' := [some (.ref 54), none, none, some (.int v3), some (.int v4), some (.int v5)]) (st' := []) (h' := mkS x S) rfl trivial ?_
    refine Ev.ite (fun c1 => ?_) (fun c1 => ?_)
    · rw [if_pos c1] at hm
      obtain ⟨o2, hm⟩ := oblk hm
      refine Ev.steps tokX6_wayGate 4 (P := vp_in v4 120 ∧ True) (pc' := 70) (lv' := [some (.ref 54), none, none, some (.int v3), some (.int v4), some (.int v5)]) (st' := [.int (S.2.1 73 v4.toNatClampNeg)]) (h' := mkS x S) rfl ⟨inb_ok o2, trivial⟩ ?_
      cases hm
      exact Ev.reti tokX6_wayGate rfl rfl ⟨rfl, rfl⟩
    · rw [if_neg c1] at hm
      obtain ⟨o3, hm⟩ := oblk hm
      refine Ev.steps tokX6_wayGate 7 (P := vp_in v4 120 ∧ True) (pc' := 42) (lv' := [some (.ref 54), none, none, some (.int v3), some (.int (S.2.1 74 v4.toNatClampNeg)), some (.int (v5 + (-1)))]) (st' := []) (h' := mkS x S) rfl ⟨inb_ok o3, trivial⟩ ?_
      exact hk42 S v3 (S.2.1 74 v4.toNatClampNeg) (v5 + (-1)) _ _ hm
theorem lpX6_wayGate_54_42 (x : XT)  : ∀ (n : Nat) (S : ST) (v3 : Int32) (v4 : Int32) (v5 : Int32) (r : Int32) (S' : ST), lfX6_wayGate_54_42 x  n S v3 v4 v5 = some (r, S') → Ev mX6_wayGate 6 0 0 42 [some (.ref 54), none, none, some (.int v3), some (.int v4), some (.int v5)] [] (mkS x S) (fun v h => v = some (.int r) ∧ h = mkS x S')
  | 0, _, _, _, _, _, _, hm => by cases hm
  | n + 1, S, v3, v4, v5, r, S', hm => bpX6_wayGate_54_42 x (lfX6_wayGate_54_42 x  n) (lpX6_wayGate_54_42 x  n) S v3 v4 v5 r S' hm
set_option maxHeartbeats 4000000 in
set_option maxRecDepth 20000 in
theorem bpX6_wayGate_54_0 (x : XT)  (S : ST) (p1 : Int32) (p2 : Int32) (p3 : Int32) (r : Int32) (S' : ST) (hm : bfX6_wayGate_54_0 x  S p1 p2 p3 = some (r, S')) : Ev mX6_wayGate 6 0 0 0 [some (.ref 54), some (.int p1), some (.int p2), some (.int p3), none, none] [] (mkS x S) (fun v h => v = some (.int r) ∧ h = mkS x S') := by
    unfold bfX6_wayGate_54_0 at hm
    refine Ev.steps tokX6_wayGate 3 (P := True) (pc' := 3) (lv' := [some (.ref 54), some (.int p1), some (.int p2), some (.int p3), none, none]) (st' := [.int p2, .int p1, .ref 54]) (h' := mkS x S) rfl trivial ?_
    cases h1 : gfX6_find_54 x S p1 p2 with
    | none => rw [h1] at hm; cases hm
    | some q2 =>
      obtain ⟨r3, S4⟩ := q2
      rw [h1] at hm
      dsimp only at hm
      refine ev_callV (N := mX6_find) (d' := 5) (bc := 0) (bs := 0) (bc' := 0) (bs' := 0) (as := [.int p1, .int p2]) (rest := []) (a := 54) (ci := 6) (dcd tokX6_wayGate rfl) okX6_find inX6_find seX6_find lk6_115 rfl (by decide) (Nat.le_of_ble_eq_true rfl) rfl ⟨by decide, rfl⟩ (gpX6_find_54 x S p1 p2 _ _ h1) (fun v h' hq hn => ?_)
      obtain ⟨rfl, rfl⟩ := hq
      refine Ev.steps tokX6_wayGate 4 (P := True) (pc' := if r3 = (-1) then 29 else 14) (lv' := [some (.ref 54), some (.int p1), some (.int p2), some (.int p3), some (.int r3), none]) (st' := []) (h' := mkS x S4) rfl trivial ?_
      refine Ev.ite (fun c5 => ?_) (fun c5 => ?_)
      · rw [if_pos c5] at hm
        refine Ev.fgt (lv' := [none, none, none, none, none, none]) trivial ?_
        exact bpX6_wayGate_54_29 x S4 _ _ hm
      · rw [if_neg c5] at hm
        refine Ev.steps tokX6_wayGate 2 (P := True) (pc' := if p3 < 0 then 29 else 18) (lv' := [some (.ref 54), some (.int p1), some (.int p2), some (.int p3), some (.int r3), none]) (st' := []) (h' := mkS x S4) rfl trivial ?_
        refine Ev.ite (fun c6 => ?_) (fun c6 => ?_)
        · rw [if_pos c6] at hm
          refine Ev.fgt (lv' := [none, none, none, none, none, none]) trivial ?_
          exact bpX6_wayGate_54_29 x S4 _ _ hm
        · rw [if_neg c6] at hm
          obtain ⟨o7, hm⟩ := oblk hm
          refine Ev.steps tokX6_wayGate 6 (P := vp_in r3 120 ∧ True) (pc' := if p3 < (S4.2.1 72 r3.toNatClampNeg) then 31 else 29) (lv' := [some (.ref 54), some (.int p1), some (.int p2), some (.int p3), some (.int r3), none]) (st' := []) (h' := mkS x S4) rfl ⟨inb_ok o7, trivial⟩ ?_
          refine Ev.ite (fun c8 => ?_) (fun c8 => ?_)
          · rw [if_pos c8] at hm
            obtain ⟨o9, hm⟩ := oblk hm
            refine Ev.steps tokX6_wayGate 7 (P := vp_in r3 120 ∧ True) (pc' := 42) (lv' := [some (.ref 54), some (.int p1), some (.int p2), some (.int p3), some (.int r3), some (.int ((S4.2.1 72 r3.toNatClampNeg) - 1))]) (st' := []) (h' := mkS x S4) rfl ⟨inb_ok o9, trivial⟩ ?_
            refine Ev.fgt (lv' := [some (.ref 54), none, none, some (.int p3), some (.int r3), some (.int ((S4.2.1 72 r3.toNatClampNeg) - 1))]) ⟨rfl, rfl, rfl, rfl, trivial⟩ ?_
            exact lpX6_wayGate_54_42 x  20000 S4 p3 r3 ((S4.2.1 72 r3.toNatClampNeg) - 1) _ _ hm
          · rw [if_neg c8] at hm
            refine Ev.fgt (lv' := [none, none, none, none, none, none]) trivial ?_
            exact bpX6_wayGate_54_29 x S4 _ _ hm
theorem gpX6_wayGate_54 (x : XT) (S : ST) (p1 : Int32) (p2 : Int32) (p3 : Int32) (r : Int32) (S' : ST) (hm : gfX6_wayGate_54 x S p1 p2 p3 = some (r, S')) : Ct mX6_wayGate 6 0 0 [.ref 54, .int p1, .int p2, .int p3] (mkS x S) (fun v h => v = some (.int r) ∧ h = mkS x S') :=
  Ct.of (lv := [some (.ref 54), some (.int p1), some (.int p2), some (.int p3), none, none]) rfl rfl rfl (show (_ : Nat) ≤ _ from Nat.le_of_ble_eq_true rfl) (fun G => rfl) (bpX6_wayGate_54_0 x S p1 p2 p3 r S' hm)
set_option maxHeartbeats 4000000 in
set_option maxRecDepth 20000 in
theorem bpX6_wayLength_54_22 (x : XT)  (S : ST) (t0 : Int32) (r : Int32) (S' : ST) (hm : bfX6_wayLength_54_22 x  S t0 = some (r, S')) : Ev mX6_wayLength 6 0 0 22 [none, none, none, none] [.int t0] (mkS x S) (fun v h => v = some (.int r) ∧ h = mkS x S') := by
    unfold bfX6_wayLength_54_22 at hm
    cases hm
    exact Ev.reti tokX6_wayLength rfl rfl ⟨rfl, rfl⟩
set_option maxHeartbeats 4000000 in
set_option maxRecDepth 20000 in
theorem bpX6_wayLength_54_0 (x : XT)  (S : ST) (p1 : Int32) (p2 : Int32) (r : Int32) (S' : ST) (hm : bfX6_wayLength_54_0 x  S p1 p2 = some (r, S')) : Ev mX6_wayLength 6 0 0 0 [some (.ref 54), some (.int p1), some (.int p2), none] [] (mkS x S) (fun v h => v = some (.int r) ∧ h = mkS x S') := by
    unfold bfX6_wayLength_54_0 at hm
    refine Ev.steps tokX6_wayLength 3 (P := True) (pc' := 3) (lv' := [some (.ref 54), some (.int p1), some (.int p2), none]) (st' := [.int p2, .int p1, .ref 54]) (h' := mkS x S) rfl trivial ?_
    cases h1 : gfX6_find_54 x S p1 p2 with
    | none => rw [h1] at hm; cases hm
    | some q2 =>
      obtain ⟨r3, S4⟩ := q2
      rw [h1] at hm
      dsimp only at hm
      refine ev_callV (N := mX6_find) (d' := 5) (bc := 0) (bs := 0) (bc' := 0) (bs' := 0) (as := [.int p1, .int p2]) (rest := []) (a := 54) (ci := 6) (dcd tokX6_wayLength rfl) okX6_find inX6_find seX6_find lk6_115 rfl (by decide) (Nat.le_of_ble_eq_true rfl) rfl ⟨by decide, rfl⟩ (gpX6_find_54 x S p1 p2 _ _ h1) (fun v h' hq hn => ?_)
      obtain ⟨rfl, rfl⟩ := hq
      refine Ev.steps tokX6_wayLength 4 (P := True) (pc' := if ¬ r3 = (-1) then 16 else 12) (lv' := [some (.ref 54), some (.int p1), some (.int p2), some (.int r3)]) (st' := []) (h' := mkS x S4) rfl trivial ?_
      refine Ev.ite (fun c5 => ?_) (fun c5 => ?_)
      · rw [if_pos c5] at hm
        obtain ⟨o6, hm⟩ := oblk hm
        refine Ev.steps tokX6_wayLength 4 (P := vp_in r3 120 ∧ True) (pc' := 22) (lv' := [some (.ref 54), some (.int p1), some (.int p2), some (.int r3)]) (st' := [.int (S4.2.1 72 r3.toNatClampNeg)]) (h' := mkS x S4) rfl ⟨inb_ok o6, trivial⟩ ?_
        refine Ev.fgt (lv' := [none, none, none, none]) trivial ?_
        exact bpX6_wayLength_54_22 x S4 (S4.2.1 72 r3.toNatClampNeg) _ _ hm
      · rw [if_neg c5] at hm
        refine Ev.steps tokX6_wayLength 2 (P := True) (pc' := 22) (lv' := [some (.ref 54), some (.int p1), some (.int p2), some (.int r3)]) (st' := [.int (-1)]) (h' := mkS x S4) rfl trivial ?_
        refine Ev.fgt (lv' := [none, none, none, none]) trivial ?_
        exact bpX6_wayLength_54_22 x S4 (-1) _ _ hm
theorem gpX6_wayLength_54 (x : XT) (S : ST) (p1 : Int32) (p2 : Int32) (r : Int32) (S' : ST) (hm : gfX6_wayLength_54 x S p1 p2 = some (r, S')) : Ct mX6_wayLength 6 0 0 [.ref 54, .int p1, .int p2] (mkS x S) (fun v h => v = some (.int r) ∧ h = mkS x S') :=
  Ct.of (lv := [some (.ref 54), some (.int p1), some (.int p2), none]) rfl rfl rfl (show (_ : Nat) ≤ _ from Nat.le_of_ble_eq_true rfl) (fun G => rfl) (bpX6_wayLength_54_0 x S p1 p2 r S' hm)
set_option maxHeartbeats 4000000 in
set_option maxRecDepth 20000 in
theorem bpX10_way_0_53 (x : XT)  (S : ST) (t0 : Int32) (r : Int32) (S' : ST) (hm : bfX10_way_0_53 x  S t0 = some (r, S')) : Ev mX10_way 7 0 0 53 [none, none, none, none, none] [.int t0] (mkS x S) (fun v h => v = some (.int r) ∧ h = mkS x S') := by
    unfold bfX10_way_0_53 at hm
    cases hm
    exact Ev.reti tokX10_way rfl rfl ⟨rfl, rfl⟩
set_option maxHeartbeats 4000000 in
set_option maxRecDepth 20000 in
theorem bpX10_way_0_0 (x : XT)  (S : ST) (p1 : Int32) (p2 : Int32) (p3 : Int32) (p4 : Int32) (r : Int32) (S' : ST) (hm : bfX10_way_0_0 x  S p1 p2 p3 p4 = some (r, S')) : Ev mX10_way 7 0 0 0 [some (.ref 0), some (.int p1), some (.int p2), some (.int p3), some (.int p4)] [] (mkS x S) (fun v h => v = some (.int r) ∧ h = mkS x S') := by
    unfold bfX10_way_0_0 at hm
    refine Ev.steps tokX10_way 4 (P := True) (pc' := 4) (lv' := [some (.ref 0), some (.int p1), some (.int p2), some (.int p3), some (.int p4)]) (st' := [.int p3, .int p2, .int p1, .ref 0]) (h' := mkS x S) rfl trivial ?_
    cases h1 : gfX10_canSeek_0 x S p1 p2 p3 with
    | none => rw [h1] at hm; cases hm
    | some q2 =>
      obtain ⟨r3, S4⟩ := q2
      rw [h1] at hm
      dsimp only at hm
      refine ev_callV (N := mX10_canSeek) (d' := 2) (bc := 0) (bs := 0) (bc' := 0) (bs' := 0) (as := [.int p1, .int p2, .int p3]) (rest := []) (a := 0) (ci := 10) (dcd tokX10_way rfl) okX10_canSeek inX10_canSeek seX10_canSeek lk10_241 rfl (by decide) (Nat.le_of_ble_eq_true rfl) rfl ⟨by decide, rfl⟩ (gpX10_canSeek_0 x S p1 p2 p3 _ _ h1) (fun v h' hq hn => ?_)
      obtain ⟨rfl, rfl⟩ := hq
      refine Ev.steps tokX10_way 1 (P := True) (pc' := if ¬ r3 = 0 then 12 else 10) (lv' := [some (.ref 0), some (.int p1), some (.int p2), some (.int p3), some (.int p4)]) (st' := []) (h' := mkS x S4) rfl trivial ?_
      refine Ev.ite (fun c5 => ?_) (fun c5 => ?_)
      · rw [if_pos c5] at hm
        refine Ev.steps tokX10_way 5 (P := True) (pc' := 21) (lv' := [some (.ref 0), some (.int p1), some (.int p2), some (.int p3), some (.int p4)]) (st' := [.int p1, .ref 1, .ref 54]) (h' := mkS x S4) rfl trivial ?_
        cases h6 : gfX6_begin_54_1 x S4 p1 with
        | none => rw [h6] at hm; cases hm
        | some q7 =>
          obtain ⟨r8, S9⟩ := q7
          rw [h6] at hm
          dsimp only at hm
          refine ev_callV (N := mX6_begin) (d' := 2) (bc := 0) (bs := 0) (bc' := 0) (bs' := 0) (as := [.ref 1, .int p1]) (rest := []) (a := 54) (ci := 6) (dcd tokX10_way rfl) okX6_begin inX6_begin seX6_begin lk10_245 rfl (by decide) (Nat.le_of_ble_eq_true rfl) rfl ⟨by decide, rfl⟩ (gpX6_begin_54_1 x S4 p1 _ _ h6) (fun v h' hq hn => ?_)
          obtain ⟨rfl, rfl⟩ := hq
          refine Ev.steps tokX10_way 3 (P := True) (pc' := if ¬ p4 = (-1) then 42 else 30) (lv' := [some (.ref 0), some (.int p1), some (.int p2), some (.int p3), some (.int p4)]) (st' := []) (h' := mkS x S9) rfl trivial ?_
          refine Ev.ite (fun c10 => ?_) (fun c10 => ?_)
          · rw [if_pos c10] at hm
            refine Ev.steps tokX10_way 5 (P := True) (pc' := 50) (lv' := [some (.ref 0), some (.int p1), some (.int p2), some (.int p3), some (.int p4)]) (st' := [.int p4, .int p3, .int p2, .ref 54]) (h' := mkS x S9) rfl trivial ?_
            cases h11 : gfX6_wayGate_54 x S9 p2 p3 p4 with
            | none => rw [h11] at hm; cases hm
            | some q12 =>
              obtain ⟨r13, S14⟩ := q12
              rw [h11] at hm
              dsimp only at hm
              refine ev_callV (N := mX6_wayGate) (d' := 6) (bc := 0) (bs := 0) (bc' := 0) (bs' := 0) (as := [.int p2, .int p3, .int p4]) (rest := []) (a := 54) (ci := 6) (dcd tokX10_way rfl) okX6_wayGate inX6_wayGate seX6_wayGate lk10_252 rfl (by decide) (Nat.le_of_ble_eq_true rfl) rfl ⟨by decide, rfl⟩ (gpX6_wayGate_54 x S9 p2 p3 p4 _ _ h11) (fun v h' hq hn => ?_)
              obtain ⟨rfl, rfl⟩ := hq
              refine Ev.fgt (lv' := [none, none, none, none, none]) trivial ?_
              exact bpX10_way_0_53 x S14 r13 _ _ hm
          · rw [if_neg c10] at hm
            refine Ev.steps tokX10_way 4 (P := True) (pc' := 36) (lv' := [some (.ref 0), some (.int p1), some (.int p2), some (.int p3), some (.int p4)]) (st' := [.int p3, .int p2, .ref 54]) (h' := mkS x S9) rfl trivial ?_
            cases h15 : gfX6_wayLength_54 x S9 p2 p3 with
            | none => rw [h15] at hm; cases hm
            | some q16 =>
              obtain ⟨r17, S18⟩ := q16
              rw [h15] at hm
              dsimp only at hm
              refine ev_callV (N := mX6_wayLength) (d' := 6) (bc := 0) (bs := 0) (bc' := 0) (bs' := 0) (as := [.int p2, .int p3]) (rest := []) (a := 54) (ci := 6) (dcd tokX10_way rfl) okX6_wayLength inX6_wayLength seX6_wayLength lk10_249 rfl (by decide) (Nat.le_of_ble_eq_true rfl) rfl ⟨by decide, rfl⟩ (gpX6_wayLength_54 x S9 p2 p3 _ _ h15) (fun v h' hq hn => ?_)
              obtain ⟨rfl, rfl⟩ := hq
              refine Ev.steps tokX10_way 1 (P := True) (pc' := 53) (lv' := [some (.ref 0), some (.int p1), some (.int p2), some (.int p3), some (.int p4)]) (st' := [.int r17]) (h' := mkS x S18) rfl trivial ?_
              refine Ev.fgt (lv' := [none, none, none, none, none]) trivial ?_
              exact bpX10_way_0_53 x S18 r17 _ _ hm
      · rw [if_neg c5] at hm
        refine Ev.steps tokX10_way 1 (P := True) (pc' := 11) (lv' := [some (.ref 0), some (.int p1), some (.int p2), some (.int p3), some (.int p4)]) (st' := [.int (-1)]) (h' := mkS x S4) rfl trivial ?_
        cases hm
        exact Ev.reti tokX10_way rfl rfl ⟨rfl, rfl⟩
theorem gpX10_way_0 (x : XT) (S : ST) (p1 : Int32) (p2 : Int32) (p3 : Int32) (p4 : Int32) (r : Int32) (S' : ST) (hm : gfX10_way_0 x S p1 p2 p3 p4 = some (r, S')) : Ct mX10_way 7 0 0 [.ref 0, .int p1, .int p2, .int p3, .int p4] (mkS x S) (fun v h => v = some (.int r) ∧ h = mkS x S') :=
  Ct.of (lv := [some (.ref 0), some (.int p1), some (.int p2), some (.int p3), some (.int p4)]) rfl rfl rfl (show (_ : Nat) ≤ _ from Nat.le_of_ble_eq_true rfl) (fun G => rfl) (bpX10_way_0_0 x S p1 p2 p3 p4 r S' hm)
set_option maxHeartbeats 4000000 in
set_option maxRecDepth 20000 in
theorem bpX6_payInto_54_85 (x : XT)  (S : ST)  (r : Unit) (S' : ST) (hm : bfX6_payInto_54_85 x  S  = some (r, S')) : Ev mX6_payInto 5 0 0 85 [none, none, none, none, none] [] (mkS x S) (fun v h => v = none ∧ h = mkS x S') := by
    unfold bfX6_payInto_54_85 at hm
    cases hm
    exact Ev.retv tokX6_payInto rfl rfl ⟨rfl, rfl⟩
set_option maxHeartbeats 4000000 in
set_option maxRecDepth 20000 in
theorem bpX6_payInto_54_77 (x : XT)  (S : ST) (v3 : Int32) (v4 : Int32) (r : Unit) (S' : ST) (hm : bfX6_payInto_54_77 x  S v3 v4 = some (r, S')) : Ev mX6_payInto 5 0 0 77 [some (.ref 54), none, none, some (.int v3), some (.int v4)] [] (mkS x S) (fun v h => v = none ∧ h = mkS x S') := by
    unfold bfX6_payInto_54_77 at hm
    obtain ⟨o1, hm⟩ := oblk hm
    refine Ev.steps tokX6_payInto 5 (P := vp_in v3 120 ∧ True) (pc' := 85) (lv' := [some (.ref 54), none, none, some (.int v3), some (.int v4)]) (st' := []) (h' := mkS x (S.1, (u2 S.2.1 76 v3.toNatClampNeg v4), S.2.2.1, S.2.2.2)) rfl ⟨inb_ok o1, trivial⟩ ?_
    refine Ev.fgt (lv' := [none, none, none, none, none]) trivial ?_
    exact bpX6_payInto_54_85 x (S.1, (u2 S.2.1 76 v3.toNatClampNeg v4), S.2.2.1, S.2.2.2) _ _ hm
set_option maxHeartbeats 4000000 in
set_option maxRecDepth 20000 in
theorem bpX6_payInto_54_0 (x : XT)  (S : ST) (p1 : Int32) (p2 : Int32) (r : Unit) (S' : ST) (hm : bfX6_payInto_54_0 x  S p1 p2 = some (r, S')) : Ev mX6_payInto 5 0 0 0 [some (.ref 54), some (.int p1), some (.int p2), none, none] [] (mkS x S) (fun v h => v = none ∧ h = mkS x S') := by
    unfold bfX6_payInto_54_0 at hm
    refine Ev.steps tokX6_payInto 3 (P := True) (pc' := 3) (lv' := [some (.ref 54), some (.int p1), some (.int p2), none, none]) (st' := [.int p2, .int p1, .ref 54]) (h' := mkS x S) rfl trivial ?_
    cases h1 : gfX6_behind_54 x S p1 p2 with
    | none => rw [h1] at hm; cases hm
    | some q2 =>
      obtain ⟨r3, S4⟩ := q2
      rw [h1] at hm
      dsimp only at hm
      refine ev_callV (N := mX6_behind) (d' := 4) (bc := 0) (bs := 0) (bc' := 0) (bs' := 0) (as := [.int p1, .int p2]) (rest := []) (a := 54) (ci := 6) (dcd tokX6_payInto rfl) okX6_behind inX6_behind seX6_behind lk6_111 rfl (by decide) (Nat.le_of_ble_eq_true rfl) rfl ⟨by decide, rfl⟩ (gpX6_behind_54 x S p1 p2 _ _ h1) (fun v h' hq hn => ?_)
      obtain ⟨rfl, rfl⟩ := hq
      refine Ev.steps tokX6_payInto 4 (P := True) (pc' := if ¬ r3 = (-1) then 13 else 12) (lv' := [some (.ref 54), some (.int p1), some (.int p2), some (.int r3), none]) (st' := []) (h' := mkS x S4) rfl trivial ?_
      refine Ev.ite (fun c5 => ?_) (fun c5 => ?_)
      · rw [if_pos c5] at hm
        refine Ev.steps tokX6_payInto 10 (P := ¬ 20 = 0 ∧ True) (pc' := 30) (lv' := [some (.ref 54), some (.int p1), some (.int p2), some (.int r3), none]) (st' := [.int (p2 - p2 / 20 * 20), .int p1, .int (S4.1 54 2), .ref 55, .ref 20]) (h' := mkS x S4) rfl ⟨(by decide), trivial⟩ ?_
        cases h6 : gfX0_regard_20_55 x S4 (S4.1 54 2) p1 (p2 - p2 / 20 * 20) with
        | none => rw [h6] at hm; cases hm
        | some q7 =>
          obtain ⟨r8, S9⟩ := q7
          rw [h6] at hm
          dsimp only at hm
          refine ev_callV (N := mX0_regard) (d' := 2) (bc := 0) (bs := 0) (bc' := 0) (bs' := 0) (as := [.ref 55, .int (S4.1 54 2), .int p1, .int (p2 - p2 / 20 * 20)]) (rest := []) (a := 20) (ci := 0) (dcd tokX6_payInto rfl) okX0_regard inX0_regard seX0_regard lk6_87 rfl (by decide) (Nat.le_of_ble_eq_true rfl) rfl ⟨by decide, rfl⟩ (gpX0_regard_20_55 x S4 (S4.1 54 2) p1 (p2 - p2 / 20 * 20) _ _ h6) (fun v h' hq hn => ?_)
          obtain ⟨rfl, rfl⟩ := hq
          obtain ⟨o10, hm⟩ := oblk hm
          refine Ev.steps tokX6_payInto 9 (P := vp_in p2 120 ∧ True) (pc' := 50) (lv' := [some (.ref 54), some (.int p1), some (.int p2), some (.int r3), none]) (st' := [.int 261, .ref 55, .ref 20, .int (S9.2.1 76 p2.toNatClampNeg)]) (h' := mkS x S9) rfl ⟨inb_ok o10, trivial⟩ ?_
          cases h11 : gfX0_told_20_55 x S9 261 with
          | none => rw [h11] at hm; cases hm
          | some q12 =>
            obtain ⟨r13, S14⟩ := q12
            rw [h11] at hm
            dsimp only at hm
            refine ev_callV (N := mX0_told) (d' := 3) (bc := 0) (bs := 0) (bc' := 0) (bs' := 0) (as := [.ref 55, .int 261]) (rest := [.int (S9.2.1 76 p2.toNatClampNeg)]) (a := 20) (ci := 0) (dcd tokX6_payInto rfl) okX0_told inX0_told seX0_told lk6_93 rfl (by decide) (Nat.le_of_ble_eq_true rfl) rfl ⟨by decide, rfl⟩ (gpX0_told_20_55 x S9 261 _ _ h11) (fun v h' hq hn => ?_)
            obtain ⟨rfl, rfl⟩ := hq
            obtain ⟨o15, hm⟩ := oblk hm
            refine Ev.steps tokX6_payInto 8 (P := vp_in r3 120 ∧ True) (pc' := if (S14.2.1 76 r3.toNatClampNeg) = (-1) then 77 else 66) (lv' := [some (.ref 54), some (.int p1), some (.int p2), some (.int r3), some (.int ((S9.2.1 76 p2.toNatClampNeg) + r13))]) (st' := []) (h' := mkS x S14) rfl ⟨inb_ok o15, trivial⟩ ?_
            refine Ev.ite (fun c16 => ?_) (fun c16 => ?_)
            · rw [if_pos c16] at hm
              refine Ev.fgt (lv' := [some (.ref 54), none, none, some (.int r3), some (.int ((S9.2.1 76 p2.toNatClampNeg) + r13))]) ⟨rfl, rfl, rfl, trivial⟩ ?_
              exact bpX6_payInto_54_77 x S14 r3 ((S9.2.1 76 p2.toNatClampNeg) + r13) _ _ hm
            · rw [if_neg c16] at hm
              obtain ⟨o17, hm⟩ := oblk hm
              refine Ev.steps tokX6_payInto 6 (P := vp_in r3 120 ∧ True) (pc' := if (S14.2.1 76 r3.toNatClampNeg) ≤ ((S9.2.1 76 p2.toNatClampNeg) + r13) then 85 else 77) (lv' := [some (.ref 54), some (.int p1), some (.int p2), some (.int r3), some (.int ((S9.2.1 76 p2.toNatClampNeg) + r13))]) (st' := []) (h' := mkS x S14) rfl ⟨inb_ok o17, trivial⟩ ?_
              refine Ev.ite (fun c18 => ?_) (fun c18 => ?_)
              · rw [if_pos c18] at hm
                refine Ev.fgt (lv' := [none, none, none, none, none]) trivial ?_
                exact bpX6_payInto_54_85 x S14 _ _ hm
              · rw [if_neg c18] at hm
                refine Ev.fgt (lv' := [some (.ref 54), none, none, some (.int r3), some (.int ((S9.2.1 76 p2.toNatClampNeg) + r13))]) ⟨rfl, rfl, rfl, trivial⟩ ?_
                exact bpX6_payInto_54_77 x S14 r3 ((S9.2.1 76 p2.toNatClampNeg) + r13) _ _ hm
      · rw [if_neg c5] at hm
        cases hm
        exact Ev.retv tokX6_payInto rfl rfl ⟨rfl, rfl⟩
theorem gpX6_payInto_54 (x : XT) (S : ST) (p1 : Int32) (p2 : Int32) (r : Unit) (S' : ST) (hm : gfX6_payInto_54 x S p1 p2 = some (r, S')) : Ct mX6_payInto 5 0 0 [.ref 54, .int p1, .int p2] (mkS x S) (fun v h => v = none ∧ h = mkS x S') :=
  Ct.of (lv := [some (.ref 54), some (.int p1), some (.int p2), none, none]) rfl rfl rfl (show (_ : Nat) ≤ _ from Nat.le_of_ble_eq_true rfl) (fun G => rfl) (bpX6_payInto_54_0 x S p1 p2 r S' hm)
set_option maxHeartbeats 4000000 in
set_option maxRecDepth 20000 in
theorem bpX6_cheapestUnsettled_54_51 (x : XT) (k4 : ST → Int32 → Int32 → Option (Int32 × ST)) (hk4 : ∀ (S : ST) (v1 : Int32) (v2 : Int32) (r : Int32) (S' : ST), k4 S v1 v2 = some (r, S') → Ev mX6_cheapestUnsettled 1 0 0 4 [some (.ref 54), some (.int v1), some (.int v2)] [] (mkS x S) (fun v h => v = some (.int r) ∧ h = mkS x S')) (S : ST) (v1 : Int32) (v2 : Int32) (r : Int32) (S' : ST) (hm : bfX6_cheapestUnsettled_54_51 x k4 S v1 v2 = some (r, S')) : Ev mX6_cheapestUnsettled 1 0 0 51 [some (.ref 54), some (.int v1), some (.int v2)] [] (mkS x S) (fun v h => v = some (.int r) ∧ h = mkS x S') := by
    unfold bfX6_cheapestUnsettled_54_51 at hm
    refine Ev.steps tokX6_cheapestUnsettled 2 (P := True) (pc' := 4) (lv' := [some (.ref 54), some (.int v1), some (.int (v2 + 1))]) (st' := []) (h' := mkS x S) rfl trivial ?_
    exact hk4 S v1 (v2 + 1) _ _ hm
set_option maxHeartbeats 4000000 in
set_option maxRecDepth 20000 in
theorem bpX6_cheapestUnsettled_54_49 (x : XT) (k4 : ST → Int32 → Int32 → Option (Int32 × ST)) (hk4 : ∀ (S : ST) (v1 : Int32) (v2 : Int32) (r : Int32) (S' : ST), k4 S v1 v2 = some (r, S') → Ev mX6_cheapestUnsettled 1 0 0 4 [some (.ref 54), some (.int v1), some (.int v2)] [] (mkS x S) (fun v h => v = some (.int r) ∧ h = mkS x S')) (S : ST) (v2 : Int32) (r : Int32) (S' : ST) (hm : bfX6_cheapestUnsettled_54_49 x k4 S v2 = some (r, S')) : Ev mX6_cheapestUnsettled 1 0 0 49 [some (.ref 54), none, some (.int v2)] [] (mkS x S) (fun v h => v = some (.int r) ∧ h = mkS x S') := by
    unfold bfX6_cheapestUnsettled_54_49 at hm
    refine Ev.steps tokX6_cheapestUnsettled 2 (P := True) (pc' := 51) (lv' := [some (.ref 54), some (.int v2), some (.int v2)]) (st' := []) (h' := mkS x S) rfl trivial ?_
    exact bpX6_cheapestUnsettled_54_51 x k4 hk4 S v2 v2 _ _ hm
set_option maxHeartbeats 4000000 in
set_option maxRecDepth 20000 in
theorem bpX6_cheapestUnsettled_54_4 (x : XT) (k4 : ST → Int32 → Int32 → Option (Int32 × ST)) (hk4 : ∀ (S : ST) (v1 : Int32) (v2 : Int32) (r : Int32) (S' : ST), k4 S v1 v2 = some (r, S') → Ev mX6_cheapestUnsettled 1 0 0 4 [some (.ref 54), some (.int v1), some (.int v2)] [] (mkS x S) (fun v h => v = some (.int r) ∧ h = mkS x S')) (S : ST) (v1 : Int32) (v2 : Int32) (r : Int32) (S' : ST) (hm : bfX6_cheapestUnsettled_54_4 x k4 S v1 v2 = some (r, S')) : Ev mX6_cheapestUnsettled 1 0 0 4 [some (.ref 54), some (.int v1), some (.int v2)] [] (mkS x S) (fun v h => v = some (.int r) ∧ h = mkS x S') := by
    unfold bfX6_cheapestUnsettled_54_4 at hm
    refine Ev.steps tokX6_cheapestUnsettled 3 (P := True) (pc' := if 120 ≤ v2 then 57 else 10) (lv' := [some (.ref 54), some (.int v1), some (.int v2)]) (st' := []) (h' := mkS x S) rfl trivial ?_
    refine Ev.ite (fun c1 => ?_) (fun c1 => ?_)
    · rw [if_pos c1] at hm
      refine Ev.steps tokX6_cheapestUnsettled 1 (P := True) (pc' := 58) (lv' := [some (.ref 54), some (.int v1), some (.int v2)]) (st' := [.int v1]) (h' := mkS x S) rfl trivial ?_
      cases hm
      exact Ev.reti tokX6_cheapestUnsettled rfl rfl ⟨rfl, rfl⟩
    · rw [if_neg c1] at hm
      obtain ⟨o2, hm⟩ := oblk hm
      refine Ev.steps tokX6_cheapestUnsettled 5 (P := vp_in v2 120 ∧ True) (pc' := if ¬ (S.2.1 77 v2.toNatClampNeg) = 0 then 51 else 19) (lv' := [some (.ref 54), some (.int v1), some (.int v2)]) (st' := []) (h' := mkS x S) rfl ⟨inb_ok o2, trivial⟩ ?_
      refine Ev.ite (fun c3 => ?_) (fun c3 => ?_)
      · rw [if_pos c3] at hm
        exact bpX6_cheapestUnsettled_54_51 x k4 hk4 S v1 v2 _ _ hm
      · rw [if_neg c3] at hm
        obtain ⟨o4, hm⟩ := oblk hm
        refine Ev.steps tokX6_cheapestUnsettled 6 (P := vp_in v2 120 ∧ True) (pc' := if (S.2.1 76 v2.toNatClampNeg) = (-1) then 51 else 29) (lv' := [some (.ref 54), some (.int v1), some (.int v2)]) (st' := []) (h' := mkS x S) rfl ⟨inb_ok o4, trivial⟩ ?_
        refine Ev.ite (fun c5 => ?_) (fun c5 => ?_)
        · rw [if_pos c5] at hm
          exact bpX6_cheapestUnsettled_54_51 x k4 hk4 S v1 v2 _ _ hm
        · rw [if_neg c5] at hm
          refine Ev.steps tokX6_cheapestUnsettled 3 (P := True) (pc' := if v1 = (-1) then 49 else 34) (lv' := [some (.ref 54), some (.int v1), some (.int v2)]) (st' := []) (h' := mkS x S) rfl trivial ?_
          refine Ev.ite (fun c6 => ?_) (fun c6 => ?_)
          · rw [if_pos c6] at hm
            refine Ev.fgt (lv' := [some (.ref 54), none, some (.int v2)]) ⟨rfl, rfl, trivial⟩ ?_
            exact bpX6_cheapestUnsettled_54_49 x k4 hk4 S v2 _ _ hm
          · rw [if_neg c6] at hm
            obtain ⟨o7, hm⟩ := oblk hm
            obtain ⟨o8, hm⟩ := oblk hm
            refine Ev.steps tokX6_cheapestUnsettled 9 (P := vp_in v2 120 ∧ vp_in v1 120 ∧ True) (pc' := if (S.2.1 76 v1.toNatClampNeg) ≤ (S.2.1 76 v2.toNatClampNeg) then 51 else 49) (lv' := [some (.ref 54), some (.int v1), some (.int v2)]) (st' := []) (h' := mkS x S) rfl ⟨inb_ok o7, inb_ok o8, trivial⟩ ?_
            refine Ev.ite (fun c9 => ?_) (fun c9 => ?_)
            · rw [if_pos c9] at hm
              exact bpX6_cheapestUnsettled_54_51 x k4 hk4 S v1 v2 _ _ hm
            · rw [if_neg c9] at hm
              refine Ev.fgt (lv' := [some (.ref 54), none, some (.int v2)]) ⟨rfl, rfl, trivial⟩ ?_
              exact bpX6_cheapestUnsettled_54_49 x k4 hk4 S v2 _ _ hm
theorem lpX6_cheapestUnsettled_54_4 (x : XT)  : ∀ (n : Nat) (S : ST) (v1 : Int32) (v2 : Int32) (r : Int32) (S' : ST), lfX6_cheapestUnsettled_54_4 x  n S v1 v2 = some (r, S') → Ev mX6_cheapestUnsettled 1 0 0 4 [some (.ref 54), some (.int v1), some (.int v2)] [] (mkS x S) (fun v h => v = some (.int r) ∧ h = mkS x S')
  | 0, _, _, _, _, _, hm => by cases hm
  | n + 1, S, v1, v2, r, S', hm => bpX6_cheapestUnsettled_54_4 x (lfX6_cheapestUnsettled_54_4 x  n) (lpX6_cheapestUnsettled_54_4 x  n) S v1 v2 r S' hm
set_option maxHeartbeats 4000000 in
set_option maxRecDepth 20000 in
theorem bpX6_cheapestUnsettled_54_0 (x : XT)  (S : ST)  (r : Int32) (S' : ST) (hm : bfX6_cheapestUnsettled_54_0 x  S  = some (r, S')) : Ev mX6_cheapestUnsettled 1 0 0 0 [some (.ref 54), none, none] [] (mkS x S) (fun v h => v = some (.int r) ∧ h = mkS x S') := by
    unfold bfX6_cheapestUnsettled_54_0 at hm
    refine Ev.steps tokX6_cheapestUnsettled 4 (P := True) (pc' := 4) (lv' := [some (.ref 54), some (.int (-1)), some (.int 0)]) (st' := []) (h' := mkS x S) rfl trivial ?_
    exact lpX6_cheapestUnsettled_54_4 x  20000 S (-1) 0 _ _ hm
theorem gpX6_cheapestUnsettled_54 (x : XT) (S : ST)  (r : Int32) (S' : ST) (hm : gfX6_cheapestUnsettled_54 x S  = some (r, S')) : Ct mX6_cheapestUnsettled 1 0 0 [.ref 54] (mkS x S) (fun v h => v = some (.int r) ∧ h = mkS x S') :=
  Ct.of (lv := [some (.ref 54), none, none]) rfl rfl rfl (show (_ : Nat) ≤ _ from Nat.le_of_ble_eq_true rfl) (fun G => rfl) (bpX6_cheapestUnsettled_54_0 x S  r S' hm)
end MIR
