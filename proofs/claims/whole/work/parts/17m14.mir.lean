section MIR
set_option maxHeartbeats 4000000 in
set_option maxRecDepth 20000 in
theorem bpJ7_fill_d0a16_82_6 (x : XT) (k6 : ST → Int64 → Int32 → Int32 → Option (Unit × ST)) (hk6 : ∀ (S : ST) (v1 : Int64) (v3 : Int32) (v4 : Int32) (r : Unit) (S' : ST), k6 S v1 v3 v4 = some (r, S') → Ev mJ7_fill_d0a16 1 0 0 6 [some (.ref 82), some (.long v1), none, some (.int v3), some (.int v4)] [] (mkS x S) (fun v h => v = none ∧ h = mkS x S')) (S : ST) (v1 : Int64) (v3 : Int32) (v4 : Int32) (r : Unit) (S' : ST) (hm : bfJ7_fill_d0a16_82_6 x k6 S v1 v3 v4 = some (r, S')) : Ev mJ7_fill_d0a16 1 0 0 6 [some (.ref 82), some (.long v1), none, some (.int v3), some (.int v4)] [] (mkS x S) (fun v h => v = none ∧ h = mkS x S') := by
    unfold bfJ7_fill_d0a16_82_6 at hm
    refine Ev.steps tokJ7_fill_d0a16 3 (P := True) (pc' := if v4 ≤ v3 then 22 else 12) (lv' := [some (.ref 82), some (.long v1), none, some (.int v3), some (.int v4)]) (st' := []) (h' := mkS x S) rfl trivial ?_
    refine Ev.ite (fun c1 => ?_) (fun c1 => ?_)
    · rw [if_pos c1] at hm
      cases hm
      exact Ev.retv tokJ7_fill_d0a16 rfl rfl ⟨rfl, rfl⟩
    · rw [if_neg c1] at hm
      obtain ⟨o2, hm⟩ := oblk hm
      refine Ev.steps tokJ7_fill_d0a16 6 (P := vp_in v3 20 ∧ True) (pc' := 6) (lv' := [some (.ref 82), some (.long v1), none, some (.int (v3 + 1)), some (.int v4)]) (st' := []) (h' := mkS x (S.1, S.2.1, (u2 S.2.2.1 82 v3.toNatClampNeg v1), S.2.2.2)) rfl ⟨inb_ok o2, trivial⟩ ?_
      exact hk6 (S.1, S.2.1, (u2 S.2.2.1 82 v3.toNatClampNeg v1), S.2.2.2) v1 (v3 + 1) v4 _ _ hm
theorem lpJ7_fill_d0a16_82_6 (x : XT)  : ∀ (n : Nat) (S : ST) (v1 : Int64) (v3 : Int32) (v4 : Int32) (r : Unit) (S' : ST), lfJ7_fill_d0a16_82_6 x  n S v1 v3 v4 = some (r, S') → Ev mJ7_fill_d0a16 1 0 0 6 [some (.ref 82), some (.long v1), none, some (.int v3), some (.int v4)] [] (mkS x S) (fun v h => v = none ∧ h = mkS x S')
  | 0, _, _, _, _, _, _, hm => by cases hm
  | n + 1, S, v1, v3, v4, r, S', hm => bpJ7_fill_d0a16_82_6 x (lfJ7_fill_d0a16_82_6 x  n) (lpJ7_fill_d0a16_82_6 x  n) S v1 v3 v4 r S' hm
set_option maxHeartbeats 4000000 in
set_option maxRecDepth 20000 in
theorem bpJ7_fill_d0a16_82_0 (x : XT)  (S : ST) (p1 : Int64) (r : Unit) (S' : ST) (hm : bfJ7_fill_d0a16_82_0 x  S p1 = some (r, S')) : Ev mJ7_fill_d0a16 1 0 0 0 [some (.ref 82), some (.long p1), none, none, none] [] (mkS x S) (fun v h => v = none ∧ h = mkS x S') := by
    unfold bfJ7_fill_d0a16_82_0 at hm
    refine Ev.steps tokJ7_fill_d0a16 5 (P := True) (pc' := 6) (lv' := [some (.ref 82), some (.long p1), none, some (.int 0), some (.int 20)]) (st' := []) (h' := mkS x S) rfl trivial ?_
    exact lpJ7_fill_d0a16_82_6 x  20000 S p1 0 20 _ _ hm
theorem gpJ7_fill_d0a16_82 (x : XT) (S : ST) (p1 : Int64) (r : Unit) (S' : ST) (hm : gfJ7_fill_d0a16_82 x S p1 = some (r, S')) : Ct mJ7_fill_d0a16 1 0 0 [.ref 82, .long p1] (mkS x S) (fun v h => v = none ∧ h = mkS x S') :=
  Ct.of (lv := [some (.ref 82), some (.long p1), none, none, none]) rfl rfl rfl (show (_ : Nat) ≤ _ from Nat.le_of_ble_eq_true rfl) (fun G => rfl) (bpJ7_fill_d0a16_82_0 x S p1 r S' hm)
set_option maxHeartbeats 4000000 in
set_option maxRecDepth 20000 in
theorem bpX3_fewerBitten_80_134 (x : XT)  (S : ST) (v4 : Int64) (r : Int64) (S' : ST) (hm : bfX3_fewerBitten_80_134 x  S v4 = some (r, S')) : Ev mX3_fewerBitten 2 0 0 134 [none, none, none, none, some (.long v4), none, none] [] (mkS x S) (fun v h => v = some (.long r) ∧ h = mkS x S') := by
    unfold bfX3_fewerBitten_80_134 at hm
    refine Ev.steps tokX3_fewerBitten 1 (P := True) (pc' := 136) (lv' := [none, none, none, none, some (.long v4), none, none]) (st' := [.long v4]) (h' := mkS x S) rfl trivial ?_
    cases hm
    exact Ev.retl tokX3_fewerBitten rfl rfl ⟨rfl, rfl⟩
set_option maxHeartbeats 4000000 in
set_option maxRecDepth 20000 in
theorem bpX3_fewerBitten_80_103 (x : XT) (k103 : ST → Int32 → Int64 → Int32 → Option (Int64 × ST)) (hk103 : ∀ (S : ST) (v2 : Int32) (v4 : Int64) (v6 : Int32) (r : Int64) (S' : ST), k103 S v2 v4 v6 = some (r, S') → Ev mX3_fewerBitten 2 0 0 103 [some (.ref 80), none, some (.int v2), none, some (.long v4), none, some (.int v6)] [] (mkS x S) (fun v h => v = some (.long r) ∧ h = mkS x S')) (S : ST) (v2 : Int32) (v4 : Int64) (v6 : Int32) (r : Int64) (S' : ST) (hm : bfX3_fewerBitten_80_103 x k103 S v2 v4 v6 = some (r, S')) : Ev mX3_fewerBitten 2 0 0 103 [some (.ref 80), none, some (.int v2), none, some (.long v4), none, some (.int v6)] [] (mkS x S) (fun v h => v = some (.long r) ∧ h = mkS x S') := by
    unfold bfX3_fewerBitten_80_103 at hm
    refine Ev.steps tokX3_fewerBitten 3 (P := True) (pc' := if v2 ≤ v6 then 134 else 109) (lv' := [some (.ref 80), none, some (.int v2), none, some (.long v4), none, some (.int v6)]) (st' := []) (h' := mkS x S) rfl trivial ?_
    refine Ev.ite (fun c1 => ?_) (fun c1 => ?_)
    · rw [if_pos c1] at hm
      refine Ev.fgt (lv' := [none, none, none, none, some (.long v4), none, none]) ⟨rfl, trivial⟩ ?_
      exact bpX3_fewerBitten_80_134 x S v4 _ _ hm
    · rw [if_neg c1] at hm
      refine Ev.steps tokX3_fewerBitten 3 (P := True) (pc' := if 20 ≤ v6 then 134 else 116) (lv' := [some (.ref 80), none, some (.int v2), none, some (.long v4), none, some (.int v6)]) (st' := []) (h' := mkS x S) rfl trivial ?_
      refine Ev.ite (fun c2 => ?_) (fun c2 => ?_)
      · rw [if_pos c2] at hm
        refine Ev.fgt (lv' := [none, none, none, none, some (.long v4), none, none]) ⟨rfl, trivial⟩ ?_
        exact bpX3_fewerBitten_80_134 x S v4 _ _ hm
      · rw [if_neg c2] at hm
        obtain ⟨o3, hm⟩ := oblk hm
        refine Ev.steps tokX3_fewerBitten 9 (P := vp_in v6 20 ∧ True) (pc' := 103) (lv' := [some (.ref 80), none, some (.int v2), none, some (.long (v4 + (S.2.2.1 82 v6.toNatClampNeg))), none, some (.int (v6 + 1))]) (st' := []) (h' := mkS x S) rfl ⟨inb_ok o3, trivial⟩ ?_
        exact hk103 S v2 (v4 + (S.2.2.1 82 v6.toNatClampNeg)) (v6 + 1) _ _ hm
theorem lpX3_fewerBitten_80_103 (x : XT)  : ∀ (n : Nat) (S : ST) (v2 : Int32) (v4 : Int64) (v6 : Int32) (r : Int64) (S' : ST), lfX3_fewerBitten_80_103 x  n S v2 v4 v6 = some (r, S') → Ev mX3_fewerBitten 2 0 0 103 [some (.ref 80), none, some (.int v2), none, some (.long v4), none, some (.int v6)] [] (mkS x S) (fun v h => v = some (.long r) ∧ h = mkS x S')
  | 0, _, _, _, _, _, _, hm => by cases hm
  | n + 1, S, v2, v4, v6, r, S', hm => bpX3_fewerBitten_80_103 x (lfX3_fewerBitten_80_103 x  n) (lpX3_fewerBitten_80_103 x  n) S v2 v4 v6 r S' hm
set_option maxHeartbeats 4000000 in
set_option maxRecDepth 20000 in
theorem bpX3_fewerBitten_80_83 (x : XT) (k20 : ST → Int32 → Int32 → Int32 → Int32 → Option (Int64 × ST)) (hk20 : ∀ (S : ST) (v1 : Int32) (v2 : Int32) (v3 : Int32) (v4 : Int32) (r : Int64) (S' : ST), k20 S v1 v2 v3 v4 = some (r, S') → Ev mX3_fewerBitten 2 0 0 20 [some (.ref 80), some (.int v1), some (.int v2), some (.int v3), some (.int v4), none, none] [] (mkS x S) (fun v h => v = some (.long r) ∧ h = mkS x S')) (k30 : ST → Int32 → Int32 → Int32 → Int32 → Int32 → Option (Int64 × ST)) (hk30 : ∀ (S : ST) (v1 : Int32) (v2 : Int32) (v3 : Int32) (v4 : Int32) (v5 : Int32) (r : Int64) (S' : ST), k30 S v1 v2 v3 v4 v5 = some (r, S') → Ev mX3_fewerBitten 2 0 0 30 [some (.ref 80), some (.int v1), some (.int v2), some (.int v3), some (.int v4), some (.int v5), none] [] (mkS x S) (fun v h => v = some (.long r) ∧ h = mkS x S')) (S : ST) (v1 : Int32) (v2 : Int32) (v3 : Int32) (v4 : Int32) (v5 : Int32) (t1 : Int32) (t2 : Int64) (t3 : Int64) (r : Int64) (S' : ST) (hm : bfX3_fewerBitten_80_83 x k20 k30 S v1 v2 v3 v4 v5 t1 t2 t3 = some (r, S')) : Ev mX3_fewerBitten 2 0 0 83 [some (.ref 80), some (.int v1), some (.int v2), some (.int v3), some (.int v4), some (.int v5), none] [.long t3, .long t2, .int t1, .ref 82] (mkS x S) (fun v h => v = some (.long r) ∧ h = mkS x S') := by
    unfold bfX3_fewerBitten_80_83 at hm
    obtain ⟨o1, hm⟩ := oblk hm
    refine Ev.steps tokX3_fewerBitten 4 (P := vp_in t1 20 ∧ True) (pc' := 30) (lv' := [some (.ref 80), some (.int v1), some (.int v2), some (.int v3), some (.int v4), some (.int (v5 + (-1))), none]) (st' := []) (h' := mkS x (S.1, S.2.1, (u2 S.2.2.1 82 t1.toNatClampNeg (t2 + t3)), S.2.2.2)) rfl ⟨inb_ok o1, trivial⟩ ?_
    exact hk30 (S.1, S.2.1, (u2 S.2.2.1 82 t1.toNatClampNeg (t2 + t3)), S.2.2.2) v1 v2 v3 v4 (v5 + (-1)) _ _ hm
set_option maxHeartbeats 4000000 in
set_option maxRecDepth 20000 in
theorem bpX3_fewerBitten_80_30 (x : XT) (k20 : ST → Int32 → Int32 → Int32 → Int32 → Option (Int64 × ST)) (hk20 : ∀ (S : ST) (v1 : Int32) (v2 : Int32) (v3 : Int32) (v4 : Int32) (r : Int64) (S' : ST), k20 S v1 v2 v3 v4 = some (r, S') → Ev mX3_fewerBitten 2 0 0 20 [some (.ref 80), some (.int v1), some (.int v2), some (.int v3), some (.int v4), none, none] [] (mkS x S) (fun v h => v = some (.long r) ∧ h = mkS x S')) (k30 : ST → Int32 → Int32 → Int32 → Int32 → Int32 → Option (Int64 × ST)) (hk30 : ∀ (S : ST) (v1 : Int32) (v2 : Int32) (v3 : Int32) (v4 : Int32) (v5 : Int32) (r : Int64) (S' : ST), k30 S v1 v2 v3 v4 v5 = some (r, S') → Ev mX3_fewerBitten 2 0 0 30 [some (.ref 80), some (.int v1), some (.int v2), some (.int v3), some (.int v4), some (.int v5), none] [] (mkS x S) (fun v h => v = some (.long r) ∧ h = mkS x S')) (S : ST) (v1 : Int32) (v2 : Int32) (v3 : Int32) (v4 : Int32) (v5 : Int32) (r : Int64) (S' : ST) (hm : bfX3_fewerBitten_80_30 x k20 k30 S v1 v2 v3 v4 v5 = some (r, S')) : Ev mX3_fewerBitten 2 0 0 30 [some (.ref 80), some (.int v1), some (.int v2), some (.int v3), some (.int v4), some (.int v5), none] [] (mkS x S) (fun v h => v = some (.long r) ∧ h = mkS x S') := by
    unfold bfX3_fewerBitten_80_30 at hm
    refine Ev.steps tokX3_fewerBitten 2 (P := True) (pc' := if v5 < 0 then 91 else 35) (lv' := [some (.ref 80), some (.int v1), some (.int v2), some (.int v3), some (.int v4), some (.int v5), none]) (st' := []) (h' := mkS x S) rfl trivial ?_
    refine Ev.ite (fun c1 => ?_) (fun c1 => ?_)
    · rw [if_pos c1] at hm
      refine Ev.steps tokX3_fewerBitten 2 (P := True) (pc' := 20) (lv' := [some (.ref 80), some (.int v1), some (.int v2), some (.int v3), some (.int (v4 + 1)), some (.int v5), none]) (st' := []) (h' := mkS x S) rfl trivial ?_
      refine Ev.fgt (lv' := [some (.ref 80), some (.int v1), some (.int v2), some (.int v3), some (.int (v4 + 1)), none, none]) ⟨rfl, rfl, rfl, rfl, rfl, trivial⟩ ?_
      exact hk20 S v1 v2 v3 (v4 + 1) _ _ hm
    · rw [if_neg c1] at hm
      obtain ⟨o2, hm⟩ := oblk hm
      refine Ev.steps tokX3_fewerBitten 16 (P := vp_in v5 20 ∧ ¬ 10 = 0 ∧ True) (pc' := if v5 ≤ 0 then 82 else 63) (lv' := [some (.ref 80), some (.int v1), some (.int v2), some (.int v3), some (.int v4), some (.int v5), none]) (st' := [.long (((S.2.2.1 82 v5.toNatClampNeg) * ((10 - v1).toInt64)) / 10), .int v5, .ref 82]) (h' := mkS x S) rfl ⟨inb_ok o2, (by decide), trivial⟩ ?_
      refine Ev.ite (fun c3 => ?_) (fun c3 => ?_)
      · rw [if_pos c3] at hm
        refine Ev.steps tokX3_fewerBitten 1 (P := True) (pc' := 83) (lv' := [some (.ref 80), some (.int v1), some (.int v2), some (.int v3), some (.int v4), some (.int v5), none]) (st' := [.long 0, .long (((S.2.2.1 82 v5.toNatClampNeg) * ((10 - v1).toInt64)) / 10), .int v5, .ref 82]) (h' := mkS x S) rfl trivial ?_
        exact bpX3_fewerBitten_80_83 x k20 hk20 k30 hk30 S v1 v2 v3 v4 v5 v5 (((S.2.2.1 82 v5.toNatClampNeg) * ((10 - v1).toInt64)) / 10) 0 _ _ hm
      · rw [if_neg c3] at hm
        obtain ⟨o4, hm⟩ := oblk hm
        refine Ev.steps tokX3_fewerBitten 12 (P := vp_in (v5 - 1) 20 ∧ ¬ 10 = 0 ∧ True) (pc' := 83) (lv' := [some (.ref 80), some (.int v1), some (.int v2), some (.int v3), some (.int v4), some (.int v5), none]) (st' := [.long (((S.2.2.1 82 ((v5 - 1).toNatClampNeg)) * v1.toInt64) / 10), .long (((S.2.2.1 82 v5.toNatClampNeg) * ((10 - v1).toInt64)) / 10), .int v5, .ref 82]) (h' := mkS x S) rfl ⟨inb_ok o4, (by decide), trivial⟩ ?_
        exact bpX3_fewerBitten_80_83 x k20 hk20 k30 hk30 S v1 v2 v3 v4 v5 v5 (((S.2.2.1 82 v5.toNatClampNeg) * ((10 - v1).toInt64)) / 10) (((S.2.2.1 82 ((v5 - 1).toNatClampNeg)) * v1.toInt64) / 10) _ _ hm
theorem lpX3_fewerBitten_80_30 (x : XT) (k20 : ST → Int32 → Int32 → Int32 → Int32 → Option (Int64 × ST)) (hk20 : ∀ (S : ST) (v1 : Int32) (v2 : Int32) (v3 : Int32) (v4 : Int32) (r : Int64) (S' : ST), k20 S v1 v2 v3 v4 = some (r, S') → Ev mX3_fewerBitten 2 0 0 20 [some (.ref 80), some (.int v1), some (.int v2), some (.int v3), some (.int v4), none, none] [] (mkS x S) (fun v h => v = some (.long r) ∧ h = mkS x S')) : ∀ (n : Nat) (S : ST) (v1 : Int32) (v2 : Int32) (v3 : Int32) (v4 : Int32) (v5 : Int32) (r : Int64) (S' : ST), lfX3_fewerBitten_80_30 x k20 n S v1 v2 v3 v4 v5 = some (r, S') → Ev mX3_fewerBitten 2 0 0 30 [some (.ref 80), some (.int v1), some (.int v2), some (.int v3), some (.int v4), some (.int v5), none] [] (mkS x S) (fun v h => v = some (.long r) ∧ h = mkS x S')
  | 0, _, _, _, _, _, _, _, _, hm => by cases hm
  | n + 1, S, v1, v2, v3, v4, v5, r, S', hm => bpX3_fewerBitten_80_30 x k20 hk20 (lfX3_fewerBitten_80_30 x k20 n) (lpX3_fewerBitten_80_30 x k20 hk20 n) S v1 v2 v3 v4 v5 r S' hm
set_option maxHeartbeats 4000000 in
set_option maxRecDepth 20000 in
theorem bpX3_fewerBitten_80_20 (x : XT) (k20 : ST → Int32 → Int32 → Int32 → Int32 → Option (Int64 × ST)) (hk20 : ∀ (S : ST) (v1 : Int32) (v2 : Int32) (v3 : Int32) (v4 : Int32) (r : Int64) (S' : ST), k20 S v1 v2 v3 v4 = some (r, S') → Ev mX3_fewerBitten 2 0 0 20 [some (.ref 80), some (.int v1), some (.int v2), some (.int v3), some (.int v4), none, none] [] (mkS x S) (fun v h => v = some (.long r) ∧ h = mkS x S')) (S : ST) (v1 : Int32) (v2 : Int32) (v3 : Int32) (v4 : Int32) (r : Int64) (S' : ST) (hm : bfX3_fewerBitten_80_20 x k20 S v1 v2 v3 v4 = some (r, S')) : Ev mX3_fewerBitten 2 0 0 20 [some (.ref 80), some (.int v1), some (.int v2), some (.int v3), some (.int v4), none, none] [] (mkS x S) (fun v h => v = some (.long r) ∧ h = mkS x S') := by
    unfold bfX3_fewerBitten_80_20 at hm
    refine Ev.steps tokX3_fewerBitten 3 (P := True) (pc' := if v3 ≤ v4 then 97 else 26) (lv' := [some (.ref 80), some (.int v1), some (.int v2), some (.int v3), some (.int v4), none, none]) (st' := []) (h' := mkS x S) rfl trivial ?_
    refine Ev.ite (fun c1 => ?_) (fun c1 => ?_)
    · rw [if_pos c1] at hm
      refine Ev.steps tokX3_fewerBitten 4 (P := True) (pc' := 103) (lv' := [some (.ref 80), some (.int v1), some (.int v2), some (.int v3), some (.long 0), none, some (.int 0)]) (st' := []) (h' := mkS x S) rfl trivial ?_
      refine Ev.fgt (lv' := [some (.ref 80), none, some (.int v2), none, some (.long 0), none, some (.int 0)]) ⟨rfl, rfl, rfl, rfl, trivial⟩ ?_
      exact lpX3_fewerBitten_80_103 x  20000 S v2 0 0 _ _ hm
    · rw [if_neg c1] at hm
      refine Ev.steps tokX3_fewerBitten 2 (P := True) (pc' := 30) (lv' := [some (.ref 80), some (.int v1), some (.int v2), some (.int v3), some (.int v4), some (.int 19), none]) (st' := []) (h' := mkS x S) rfl trivial ?_
      exact lpX3_fewerBitten_80_30 x k20 hk20 20000 S v1 v2 v3 v4 19 _ _ hm
theorem lpX3_fewerBitten_80_20 (x : XT)  : ∀ (n : Nat) (S : ST) (v1 : Int32) (v2 : Int32) (v3 : Int32) (v4 : Int32) (r : Int64) (S' : ST), lfX3_fewerBitten_80_20 x  n S v1 v2 v3 v4 = some (r, S') → Ev mX3_fewerBitten 2 0 0 20 [some (.ref 80), some (.int v1), some (.int v2), some (.int v3), some (.int v4), none, none] [] (mkS x S) (fun v h => v = some (.long r) ∧ h = mkS x S')
  | 0, _, _, _, _, _, _, _, hm => by cases hm
  | n + 1, S, v1, v2, v3, v4, r, S', hm => bpX3_fewerBitten_80_20 x (lfX3_fewerBitten_80_20 x  n) (lpX3_fewerBitten_80_20 x  n) S v1 v2 v3 v4 r S' hm
set_option maxHeartbeats 4000000 in
set_option maxRecDepth 20000 in
theorem bpX3_fewerBitten_80_0 (x : XT)  (S : ST) (p1 : Int32) (p2 : Int32) (p3 : Int32) (r : Int64) (S' : ST) (hm : bfX3_fewerBitten_80_0 x  S p1 p2 p3 = some (r, S')) : Ev mX3_fewerBitten 2 0 0 0 [some (.ref 80), some (.int p1), some (.int p2), some (.int p3), none, none, none] [] (mkS x S) (fun v h => v = some (.long r) ∧ h = mkS x S') := by
    unfold bfX3_fewerBitten_80_0 at hm
    refine Ev.steps tokX3_fewerBitten 3 (P := True) (pc' := 5) (lv' := [some (.ref 80), some (.int p1), some (.int p2), some (.int p3), none, none, none]) (st' := [.long 0, .ref 82]) (h' := mkS x S) rfl trivial ?_
    cases h1 : gfJ7_fill_d0a16_82 x S 0 with
    | none => rw [h1] at hm; cases hm
    | some q2 =>
      obtain ⟨r3, S4⟩ := q2
      rw [h1] at hm
      dsimp only at hm
      refine ev_callS (N := mJ7_fill_d0a16) (d' := 1) (bc := 0) (bs := 0) (bc' := 0) (bs' := 0) (as := [.ref 82, .long 0]) (rest := []) (dcd tokX3_fewerBitten rfl) okJ7_fill_d0a16 inJ7_fill_d0a16 lk3_66 rfl (by decide) (Nat.le_of_ble_eq_true rfl) (gpJ7_fill_d0a16_82 x S 0 _ _ h1) (fun v h' hq hn => ?_)
      obtain ⟨rfl, rfl⟩ := hq
      refine Ev.steps tokX3_fewerBitten 7 (P := vp_in 0 20 ∧ True) (pc' := 20) (lv' := [some (.ref 80), some (.int p1), some (.int p2), some (.int p3), some (.int 0), none, none]) (st' := []) (h' := mkS x (S4.1, S4.2.1, (u2 S4.2.2.1 82 0 1000000000000), S4.2.2.2)) rfl ⟨(by unfold vp_in; decide), trivial⟩ ?_
      exact lpX3_fewerBitten_80_20 x  20000 (S4.1, S4.2.1, (u2 S4.2.2.1 82 0 1000000000000), S4.2.2.2) p1 p2 p3 0 _ _ hm
theorem gpX3_fewerBitten_80 (x : XT) (S : ST) (p1 : Int32) (p2 : Int32) (p3 : Int32) (r : Int64) (S' : ST) (hm : gfX3_fewerBitten_80 x S p1 p2 p3 = some (r, S')) : Ct mX3_fewerBitten 2 0 0 [.ref 80, .int p1, .int p2, .int p3] (mkS x S) (fun v h => v = some (.long r) ∧ h = mkS x S') :=
  Ct.of (lv := [some (.ref 80), some (.int p1), some (.int p2), some (.int p3), none, none, none]) rfl rfl rfl (show (_ : Nat) ≤ _ from Nat.le_of_ble_eq_true rfl) (fun G => rfl) (bpX3_fewerBitten_80_0 x S p1 p2 p3 r S' hm)
set_option maxHeartbeats 4000000 in
set_option maxRecDepth 20000 in
theorem bpX10_few_0_21 (x : XT)  (S : ST)  (r : Int64) (S' : ST) (hm : bfX10_few_0_21 x  S  = some (r, S')) : Ev mX10_few 3 0 0 21 [none, none, none] [] (mkS x S) (fun v h => v = some (.long r) ∧ h = mkS x S') := by
    unfold bfX10_few_0_21 at hm
    refine Ev.steps tokX10_few 1 (P := True) (pc' := 24) (lv' := [none, none, none]) (st' := [.long (-1)]) (h' := mkS x S) rfl trivial ?_
    cases hm
    exact Ev.retl tokX10_few rfl rfl ⟨rfl, rfl⟩
set_option maxHeartbeats 4000000 in
set_option maxRecDepth 20000 in
theorem bpX10_few_0_0 (x : XT)  (S : ST) (p1 : Int32) (p2 : Int32) (r : Int64) (S' : ST) (hm : bfX10_few_0_0 x  S p1 p2 = some (r, S')) : Ev mX10_few 3 0 0 0 [some (.ref 0), some (.int p1), some (.int p2)] [] (mkS x S) (fun v h => v = some (.long r) ∧ h = mkS x S') := by
    unfold bfX10_few_0_0 at hm
    refine Ev.steps tokX10_few 3 (P := True) (pc' := if p1 < 1 then 21 else 5) (lv' := [some (.ref 0), some (.int p1), some (.int p2)]) (st' := []) (h' := mkS x S) rfl trivial ?_
    refine Ev.ite (fun c1 => ?_) (fun c1 => ?_)
    · rw [if_pos c1] at hm
      refine Ev.fgt (lv' := [none, none, none]) trivial ?_
      exact bpX10_few_0_21 x S _ _ hm
    · rw [if_neg c1] at hm
      refine Ev.steps tokX10_few 3 (P := True) (pc' := if 20 < p1 then 21 else 11) (lv' := [some (.ref 0), some (.int p1), some (.int p2)]) (st' := []) (h' := mkS x S) rfl trivial ?_
      refine Ev.ite (fun c2 => ?_) (fun c2 => ?_)
      · rw [if_pos c2] at hm
        refine Ev.fgt (lv' := [none, none, none]) trivial ?_
        exact bpX10_few_0_21 x S _ _ hm
      · rw [if_neg c2] at hm
        refine Ev.steps tokX10_few 2 (P := True) (pc' := if p2 < 0 then 21 else 15) (lv' := [some (.ref 0), some (.int p1), some (.int p2)]) (st' := []) (h' := mkS x S) rfl trivial ?_
        refine Ev.ite (fun c3 => ?_) (fun c3 => ?_)
        · rw [if_pos c3] at hm
          refine Ev.fgt (lv' := [none, none, none]) trivial ?_
          exact bpX10_few_0_21 x S _ _ hm
        · rw [if_neg c3] at hm
          refine Ev.steps tokX10_few 3 (P := True) (pc' := if p2 ≤ 99 then 25 else 21) (lv' := [some (.ref 0), some (.int p1), some (.int p2)]) (st' := []) (h' := mkS x S) rfl trivial ?_
          refine Ev.ite (fun c4 => ?_) (fun c4 => ?_)
          · rw [if_pos c4] at hm
            refine Ev.steps tokX10_few 9 (P := vp_in 1 3 ∧ True) (pc' := 40) (lv' := [some (.ref 0), some (.int p1), some (.int p2)]) (st' := [.int p2, .int p1, .int (S.2.1 14 1), .ref 80]) (h' := mkS x S) rfl ⟨(by unfold vp_in; decide), trivial⟩ ?_
            cases h5 : gfX3_fewerBitten_80 x S (S.2.1 14 1) p1 p2 with
            | none => rw [h5] at hm; cases hm
            | some q6 =>
              obtain ⟨r7, S8⟩ := q6
              rw [h5] at hm
              dsimp only at hm
              refine ev_callV (N := mX3_fewerBitten) (d' := 2) (bc := 0) (bs := 0) (bc' := 0) (bs' := 0) (as := [.int (S.2.1 14 1), .int p1, .int p2]) (rest := []) (a := 80) (ci := 3) (dcd tokX10_few rfl) okX3_fewerBitten inX3_fewerBitten seX3_fewerBitten lk10_317 rfl (by decide) (Nat.le_of_ble_eq_true rfl) rfl ⟨by decide, rfl⟩ (gpX3_fewerBitten_80 x S (S.2.1 14 1) p1 p2 _ _ h5) (fun v h' hq hn => ?_)
              obtain ⟨rfl, rfl⟩ := hq
              cases hm
              exact Ev.retl tokX10_few rfl rfl ⟨rfl, rfl⟩
          · rw [if_neg c4] at hm
            refine Ev.fgt (lv' := [none, none, none]) trivial ?_
            exact bpX10_few_0_21 x S _ _ hm
theorem gpX10_few_0 (x : XT) (S : ST) (p1 : Int32) (p2 : Int32) (r : Int64) (S' : ST) (hm : gfX10_few_0 x S p1 p2 = some (r, S')) : Ct mX10_few 3 0 0 [.ref 0, .int p1, .int p2] (mkS x S) (fun v h => v = some (.long r) ∧ h = mkS x S') :=
  Ct.of (lv := [some (.ref 0), some (.int p1), some (.int p2)]) rfl rfl rfl (show (_ : Nat) ≤ _ from Nat.le_of_ble_eq_true rfl) (fun G => rfl) (bpX10_few_0_0 x S p1 p2 r S' hm)
set_option maxHeartbeats 4000000 in
set_option maxRecDepth 20000 in
theorem bpX6_tryLaw_54_0 (x : XT)  (S : ST) (p1 : Int32) (r : Unit) (S' : ST) (hm : bfX6_tryLaw_54_0 x  S p1 = some (r, S')) : Ev mX6_tryLaw 1 0 0 0 [some (.ref 54), some (.int p1)] [] (mkS x S) (fun v h => v = none ∧ h = mkS x S') := by
    unfold bfX6_tryLaw_54_0 at hm
    refine Ev.steps tokX6_tryLaw 4 (P := True) (pc' := 8) (lv' := [some (.ref 54), some (.int p1)]) (st' := []) (h' := mkS x ((u2 S.1 55 18 p1), S.2.1, S.2.2.1, S.2.2.2)) rfl trivial ?_
    cases hm
    exact Ev.retv tokX6_tryLaw rfl rfl ⟨rfl, rfl⟩
theorem gpX6_tryLaw_54 (x : XT) (S : ST) (p1 : Int32) (r : Unit) (S' : ST) (hm : gfX6_tryLaw_54 x S p1 = some (r, S')) : Ct mX6_tryLaw 1 0 0 [.ref 54, .int p1] (mkS x S) (fun v h => v = none ∧ h = mkS x S') :=
  Ct.of (lv := [some (.ref 54), some (.int p1)]) rfl rfl rfl (show (_ : Nat) ≤ _ from Nat.le_of_ble_eq_true rfl) (fun G => rfl) (bpX6_tryLaw_54_0 x S p1 r S' hm)
set_option maxHeartbeats 4000000 in
set_option maxRecDepth 20000 in
theorem bpX10_compare_0_27 (x : XT)  (S : ST)  (r : Int32) (S' : ST) (hm : bfX10_compare_0_27 x  S  = some (r, S')) : Ev mX10_compare 7 0 0 27 [none, none, none, none, none] [] (mkS x S) (fun v h => v = some (.int r) ∧ h = mkS x S') := by
    unfold bfX10_compare_0_27 at hm
    refine Ev.steps tokX10_compare 1 (P := True) (pc' := 28) (lv' := [none, none, none, none, none]) (st' := [.int (-1)]) (h' := mkS x S) rfl trivial ?_
    cases hm
    exact Ev.reti tokX10_compare rfl rfl ⟨rfl, rfl⟩
set_option maxHeartbeats 4000000 in
set_option maxRecDepth 20000 in
theorem bpX10_compare_0_16 (x : XT)  (S : ST) (v1 : Int32) (v2 : Int32) (v3 : Int32) (v4 : Int32) (r : Int32) (S' : ST) (hm : bfX10_compare_0_16 x  S v1 v2 v3 v4 = some (r, S')) : Ev mX10_compare 7 0 0 16 [some (.ref 0), some (.int v1), some (.int v2), some (.int v3), some (.int v4)] [] (mkS x S) (fun v h => v = some (.int r) ∧ h = mkS x S') := by
    unfold bfX10_compare_0_16 at hm
    refine Ev.steps tokX10_compare 4 (P := True) (pc' := 21) (lv' := [some (.ref 0), some (.int v1), some (.int v2), some (.int v3), some (.int v4)]) (st' := [.int v4, .int v3, .int v2, .ref 0]) (h' := mkS x S) rfl trivial ?_
    cases h1 : gfX10_canSeek_0 x S v2 v3 v4 with
    | none => rw [h1] at hm; cases hm
    | some q2 =>
      obtain ⟨r3, S4⟩ := q2
      rw [h1] at hm
      dsimp only at hm
      refine ev_callV (N := mX10_canSeek) (d' := 2) (bc := 0) (bs := 0) (bc' := 0) (bs' := 0) (as := [.int v2, .int v3, .int v4]) (rest := []) (a := 0) (ci := 10) (dcd tokX10_compare rfl) okX10_canSeek inX10_canSeek seX10_canSeek lk10_241 rfl (by decide) (Nat.le_of_ble_eq_true rfl) rfl ⟨by decide, rfl⟩ (gpX10_canSeek_0 x S v2 v3 v4 _ _ h1) (fun v h' hq hn => ?_)
      obtain ⟨rfl, rfl⟩ := hq
      refine Ev.steps tokX10_compare 1 (P := True) (pc' := if ¬ r3 = 0 then 29 else 27) (lv' := [some (.ref 0), some (.int v1), some (.int v2), some (.int v3), some (.int v4)]) (st' := []) (h' := mkS x S4) rfl trivial ?_
      refine Ev.ite (fun c5 => ?_) (fun c5 => ?_)
      · rw [if_pos c5] at hm
        refine Ev.steps tokX10_compare 5 (P := True) (pc' := 38) (lv' := [some (.ref 0), some (.int v1), some (.int v2), some (.int v3), some (.int v4)]) (st' := [.int v2, .ref 1, .ref 54]) (h' := mkS x S4) rfl trivial ?_
        cases h6 : gfX6_begin_54_1 x S4 v2 with
        | none => rw [h6] at hm; cases hm
        | some q7 =>
          obtain ⟨r8, S9⟩ := q7
          rw [h6] at hm
          dsimp only at hm
          refine ev_callV (N := mX6_begin) (d' := 2) (bc := 0) (bs := 0) (bc' := 0) (bs' := 0) (as := [.ref 1, .int v2]) (rest := []) (a := 54) (ci := 6) (dcd tokX10_compare rfl) okX6_begin inX6_begin seX6_begin lk10_245 rfl (by decide) (Nat.le_of_ble_eq_true rfl) rfl ⟨by decide, rfl⟩ (gpX6_begin_54_1 x S4 v2 _ _ h6) (fun v h' hq hn => ?_)
          obtain ⟨rfl, rfl⟩ := hq
          refine Ev.steps tokX10_compare 3 (P := True) (pc' := 46) (lv' := [some (.ref 0), some (.int v1), some (.int v2), some (.int v3), some (.int v4)]) (st' := [.int v1, .ref 54]) (h' := mkS x S9) rfl trivial ?_
          cases h10 : gfX6_tryLaw_54 x S9 v1 with
          | none => rw [h10] at hm; cases hm
          | some q11 =>
            obtain ⟨r12, S13⟩ := q11
            rw [h10] at hm
            dsimp only at hm
            refine ev_callV (N := mX6_tryLaw) (d' := 1) (bc := 0) (bs := 0) (bc' := 0) (bs' := 0) (as := [.int v1]) (rest := []) (a := 54) (ci := 6) (dcd tokX10_compare rfl) okX6_tryLaw inX6_tryLaw seX6_tryLaw lk10_321 rfl (by decide) (Nat.le_of_ble_eq_true rfl) rfl ⟨by decide, rfl⟩ (gpX6_tryLaw_54 x S9 v1 _ _ h10) (fun v h' hq hn => ?_)
            obtain ⟨rfl, rfl⟩ := hq
            refine Ev.steps tokX10_compare 4 (P := True) (pc' := 56) (lv' := [some (.ref 0), some (.int v1), some (.int v2), some (.int v3), some (.int v4)]) (st' := [.int v4, .int v3, .ref 54]) (h' := mkS x S13) rfl trivial ?_
            cases h14 : gfX6_wayLength_54 x S13 v3 v4 with
            | none => rw [h14] at hm; cases hm
            | some q15 =>
              obtain ⟨r16, S17⟩ := q15
              rw [h14] at hm
              dsimp only at hm
              refine ev_callV (N := mX6_wayLength) (d' := 6) (bc := 0) (bs := 0) (bc' := 0) (bs' := 0) (as := [.int v3, .int v4]) (rest := []) (a := 54) (ci := 6) (dcd tokX10_compare rfl) okX6_wayLength inX6_wayLength seX6_wayLength lk10_249 rfl (by decide) (Nat.le_of_ble_eq_true rfl) rfl ⟨by decide, rfl⟩ (gpX6_wayLength_54 x S13 v3 v4 _ _ h14) (fun v h' hq hn => ?_)
              obtain ⟨rfl, rfl⟩ := hq
              cases hm
              exact Ev.reti tokX10_compare rfl rfl ⟨rfl, rfl⟩
      · rw [if_neg c5] at hm
        refine Ev.fgt (lv' := [none, none, none, none, none]) trivial ?_
        exact bpX10_compare_0_27 x S4 _ _ hm
set_option maxHeartbeats 4000000 in
set_option maxRecDepth 20000 in
theorem bpX10_compare_0_0 (x : XT)  (S : ST) (p1 : Int32) (p2 : Int32) (p3 : Int32) (p4 : Int32) (r : Int32) (S' : ST) (hm : bfX10_compare_0_0 x  S p1 p2 p3 p4 = some (r, S')) : Ev mX10_compare 7 0 0 0 [some (.ref 0), some (.int p1), some (.int p2), some (.int p3), some (.int p4)] [] (mkS x S) (fun v h => v = some (.int r) ∧ h = mkS x S') := by
    unfold bfX10_compare_0_0 at hm
    refine Ev.steps tokX10_compare 3 (P := True) (pc' := if p1 = (-1) then 16 else 5) (lv' := [some (.ref 0), some (.int p1), some (.int p2), some (.int p3), some (.int p4)]) (st' := []) (h' := mkS x S) rfl trivial ?_
    refine Ev.ite (fun c1 => ?_) (fun c1 => ?_)
    · rw [if_pos c1] at hm
      exact bpX10_compare_0_16 x S p1 p2 p3 p4 _ _ hm
    · rw [if_neg c1] at hm
      refine Ev.steps tokX10_compare 3 (P := True) (pc' := 10) (lv' := [some (.ref 0), some (.int p1), some (.int p2), some (.int p3), some (.int p4)]) (st' := [.int p1, .ref 1]) (h' := mkS x S) rfl trivial ?_
      cases h2 : gfX7_hasLaw_1 x S p1 with
      | none => rw [h2] at hm; cases hm
      | some q3 =>
        obtain ⟨r4, S5⟩ := q3
        rw [h2] at hm
        dsimp only at hm
        refine ev_callV (N := mX7_hasLaw) (d' := 1) (bc := 0) (bs := 0) (bc' := 0) (bs' := 0) (as := [.int p1]) (rest := []) (a := 1) (ci := 7) (dcd tokX10_compare rfl) okX7_hasLaw inX7_hasLaw seX7_hasLaw lk10_219 rfl (by decide) (Nat.le_of_ble_eq_true rfl) rfl ⟨by decide, rfl⟩ (gpX7_hasLaw_1 x S p1 _ _ h2) (fun v h' hq hn => ?_)
        obtain ⟨rfl, rfl⟩ := hq
        refine Ev.steps tokX10_compare 1 (P := True) (pc' := if r4 = 0 then 27 else 16) (lv' := [some (.ref 0), some (.int p1), some (.int p2), some (.int p3), some (.int p4)]) (st' := []) (h' := mkS x S5) rfl trivial ?_
        refine Ev.ite (fun c6 => ?_) (fun c6 => ?_)
        · rw [if_pos c6] at hm
          refine Ev.fgt (lv' := [none, none, none, none, none]) trivial ?_
          exact bpX10_compare_0_27 x S5 _ _ hm
        · rw [if_neg c6] at hm
          exact bpX10_compare_0_16 x S5 p1 p2 p3 p4 _ _ hm
theorem gpX10_compare_0 (x : XT) (S : ST) (p1 : Int32) (p2 : Int32) (p3 : Int32) (p4 : Int32) (r : Int32) (S' : ST) (hm : gfX10_compare_0 x S p1 p2 p3 p4 = some (r, S')) : Ct mX10_compare 7 0 0 [.ref 0, .int p1, .int p2, .int p3, .int p4] (mkS x S) (fun v h => v = some (.int r) ∧ h = mkS x S') :=
  Ct.of (lv := [some (.ref 0), some (.int p1), some (.int p2), some (.int p3), some (.int p4)]) rfl rfl rfl (show (_ : Nat) ≤ _ from Nat.le_of_ble_eq_true rfl) (fun G => rfl) (bpX10_compare_0_0 x S p1 p2 p3 p4 r S' hm)
set_option maxHeartbeats 4000000 in
set_option maxRecDepth 20000 in
theorem bpX2_draw_83_33 (x : XT)  (S : ST) (t0 : Int32) (r : Int32) (S' : ST) (hm : bfX2_draw_83_33 x  S t0 = some (r, S')) : Ev mX2_draw 1 0 0 33 [none, none] [.int t0] (mkS x S) (fun v h => v = some (.int r) ∧ h = mkS x S') := by
    unfold bfX2_draw_83_33 at hm
    cases hm
    exact Ev.reti tokX2_draw rfl rfl ⟨rfl, rfl⟩
set_option maxHeartbeats 4000000 in
set_option maxRecDepth 20000 in
theorem bpX2_draw_83_0 (x : XT)  (S : ST) (p1 : Int32) (r : Int32) (S' : ST) (hm : bfX2_draw_83_0 x  S p1 = some (r, S')) : Ev mX2_draw 1 0 0 0 [some (.ref 83), some (.int p1)] [] (mkS x S) (fun v h => v = some (.int r) ∧ h = mkS x S') := by
    unfold bfX2_draw_83_0 at hm
    refine Ev.steps tokX2_draw 12 (P := ¬ 1000003 = 0 ∧ True) (pc' := if p1 ≤ 0 then 32 else 23) (lv' := [some (.ref 83), some (.int p1)]) (st' := []) (h' := mkS x ((u2 S.1 83 2 ((((S.1 83 2) * 1103) + 12345) - (((S.1 83 2) * 1103) + 12345) / 1000003 * 1000003)), S.2.1, S.2.2.1, S.2.2.2)) rfl ⟨(by decide), trivial⟩ ?_
    refine Ev.ite (fun c1 => ?_) (fun c1 => ?_)
    · rw [if_pos c1] at hm
      refine Ev.steps tokX2_draw 1 (P := True) (pc' := 33) (lv' := [some (.ref 83), some (.int p1)]) (st' := [.int (-1)]) (h' := mkS x ((u2 S.1 83 2 ((((S.1 83 2) * 1103) + 12345) - (((S.1 83 2) * 1103) + 12345) / 1000003 * 1000003)), S.2.1, S.2.2.1, S.2.2.2)) rfl trivial ?_
      refine Ev.fgt (lv' := [none, none]) trivial ?_
      exact bpX2_draw_83_33 x ((u2 S.1 83 2 ((((S.1 83 2) * 1103) + 12345) - (((S.1 83 2) * 1103) + 12345) / 1000003 * 1000003)), S.2.1, S.2.2.1, S.2.2.2) (-1) _ _ hm
    · rw [if_neg c1] at hm
      obtain ⟨o2, hm⟩ := oblk hm
      refine Ev.steps tokX2_draw 5 (P := ¬ p1 = 0 ∧ True) (pc' := 33) (lv' := [some (.ref 83), some (.int p1)]) (st' := [.int (((((S.1 83 2) * 1103) + 12345) - (((S.1 83 2) * 1103) + 12345) / 1000003 * 1000003) - ((((S.1 83 2) * 1103) + 12345) - (((S.1 83 2) * 1103) + 12345) / 1000003 * 1000003) / p1 * p1)]) (h' := mkS x ((u2 S.1 83 2 ((((S.1 83 2) * 1103) + 12345) - (((S.1 83 2) * 1103) + 12345) / 1000003 * 1000003)), S.2.1, S.2.2.1, S.2.2.2)) rfl ⟨nzi_ok o2, trivial⟩ ?_
      refine Ev.fgt (lv' := [none, none]) trivial ?_
      exact bpX2_draw_83_33 x ((u2 S.1 83 2 ((((S.1 83 2) * 1103) + 12345) - (((S.1 83 2) * 1103) + 12345) / 1000003 * 1000003)), S.2.1, S.2.2.1, S.2.2.2) (((((S.1 83 2) * 1103) + 12345) - (((S.1 83 2) * 1103) + 12345) / 1000003 * 1000003) - ((((S.1 83 2) * 1103) + 12345) - (((S.1 83 2) * 1103) + 12345) / 1000003 * 1000003) / p1 * p1) _ _ hm
theorem gpX2_draw_83 (x : XT) (S : ST) (p1 : Int32) (r : Int32) (S' : ST) (hm : gfX2_draw_83 x S p1 = some (r, S')) : Ct mX2_draw 1 0 0 [.ref 83, .int p1] (mkS x S) (fun v h => v = some (.int r) ∧ h = mkS x S') :=
  Ct.of (lv := [some (.ref 83), some (.int p1)]) rfl rfl rfl (show (_ : Nat) ≤ _ from Nat.le_of_ble_eq_true rfl) (fun G => rfl) (bpX2_draw_83_0 x S p1 r S' hm)
set_option maxHeartbeats 4000000 in
set_option maxRecDepth 20000 in
theorem bpX7_hasGoer_84_17 (x : XT)  (S : ST) (t0 : Int32) (r : Int32) (S' : ST) (hm : bfX7_hasGoer_84_17 x  S t0 = some (r, S')) : Ev mX7_hasGoer 1 0 0 17 [none, none] [.int t0] (mkS x S) (fun v h => v = some (.int r) ∧ h = mkS x S') := by
    unfold bfX7_hasGoer_84_17 at hm
    obtain ⟨o1, hm⟩ := oblk hm
    cases hm
    exact Ev.retz tokX7_hasGoer rfl rfl (bbz_ok o1) ⟨rfl, rfl⟩
set_option maxHeartbeats 4000000 in
set_option maxRecDepth 20000 in
theorem bpX7_hasGoer_84_16 (x : XT)  (S : ST)  (r : Int32) (S' : ST) (hm : bfX7_hasGoer_84_16 x  S  = some (r, S')) : Ev mX7_hasGoer 1 0 0 16 [none, none] [] (mkS x S) (fun v h => v = some (.int r) ∧ h = mkS x S') := by
    unfold bfX7_hasGoer_84_16 at hm
    refine Ev.steps tokX7_hasGoer 1 (P := True) (pc' := 17) (lv' := [none, none]) (st' := [.int 0]) (h' := mkS x S) rfl trivial ?_
    exact bpX7_hasGoer_84_17 x S 0 _ _ hm
set_option maxHeartbeats 4000000 in
set_option maxRecDepth 20000 in
theorem bpX7_hasGoer_84_0 (x : XT)  (S : ST) (p1 : Int32) (r : Int32) (S' : ST) (hm : bfX7_hasGoer_84_0 x  S p1 = some (r, S')) : Ev mX7_hasGoer 1 0 0 0 [some (.ref 84), some (.int p1)] [] (mkS x S) (fun v h => v = some (.int r) ∧ h = mkS x S') := by
    unfold bfX7_hasGoer_84_0 at hm
    refine Ev.steps tokX7_hasGoer 2 (P := True) (pc' := if p1 < 0 then 16 else 4) (lv' := [some (.ref 84), some (.int p1)]) (st' := []) (h' := mkS x S) rfl trivial ?_
    refine Ev.ite (fun c1 => ?_) (fun c1 => ?_)
    · rw [if_pos c1] at hm
      refine Ev.fgt (lv' := [none, none]) trivial ?_
      exact bpX7_hasGoer_84_16 x S _ _ hm
    · rw [if_neg c1] at hm
      refine Ev.steps tokX7_hasGoer 4 (P := True) (pc' := if (S.1 84 6) ≤ p1 then 16 else 12) (lv' := [some (.ref 84), some (.int p1)]) (st' := []) (h' := mkS x S) rfl trivial ?_
      refine Ev.ite (fun c2 => ?_) (fun c2 => ?_)
      · rw [if_pos c2] at hm
        refine Ev.fgt (lv' := [none, none]) trivial ?_
        exact bpX7_hasGoer_84_16 x S _ _ hm
      · rw [if_neg c2] at hm
        refine Ev.steps tokX7_hasGoer 2 (P := True) (pc' := 17) (lv' := [some (.ref 84), some (.int p1)]) (st' := [.int 1]) (h' := mkS x S) rfl trivial ?_
        refine Ev.fgt (lv' := [none, none]) trivial ?_
        exact bpX7_hasGoer_84_17 x S 1 _ _ hm
theorem gpX7_hasGoer_84 (x : XT) (S : ST) (p1 : Int32) (r : Int32) (S' : ST) (hm : gfX7_hasGoer_84 x S p1 = some (r, S')) : Ct mX7_hasGoer 1 0 0 [.ref 84, .int p1] (mkS x S) (fun v h => v = some (.int r) ∧ h = mkS x S') :=
  Ct.of (lv := [some (.ref 84), some (.int p1)]) rfl rfl rfl (show (_ : Nat) ≤ _ from Nat.le_of_ble_eq_true rfl) (fun G => rfl) (bpX7_hasGoer_84_0 x S p1 r S' hm)
set_option maxHeartbeats 4000000 in
set_option maxRecDepth 20000 in
theorem bpX7_hasGate_84_17 (x : XT)  (S : ST) (t0 : Int32) (r : Int32) (S' : ST) (hm : bfX7_hasGate_84_17 x  S t0 = some (r, S')) : Ev mX7_hasGate 1 0 0 17 [none, none] [.int t0] (mkS x S) (fun v h => v = some (.int r) ∧ h = mkS x S') := by
    unfold bfX7_hasGate_84_17 at hm
    obtain ⟨o1, hm⟩ := oblk hm
    cases hm
    exact Ev.retz tokX7_hasGate rfl rfl (bbz_ok o1) ⟨rfl, rfl⟩
set_option maxHeartbeats 4000000 in
set_option maxRecDepth 20000 in
theorem bpX7_hasGate_84_16 (x : XT)  (S : ST)  (r : Int32) (S' : ST) (hm : bfX7_hasGate_84_16 x  S  = some (r, S')) : Ev mX7_hasGate 1 0 0 16 [none, none] [] (mkS x S) (fun v h => v = some (.int r) ∧ h = mkS x S') := by
    unfold bfX7_hasGate_84_16 at hm
    refine Ev.steps tokX7_hasGate 1 (P := True) (pc' := 17) (lv' := [none, none]) (st' := [.int 0]) (h' := mkS x S) rfl trivial ?_
    exact bpX7_hasGate_84_17 x S 0 _ _ hm
set_option maxHeartbeats 4000000 in
set_option maxRecDepth 20000 in
theorem bpX7_hasGate_84_0 (x : XT)  (S : ST) (p1 : Int32) (r : Int32) (S' : ST) (hm : bfX7_hasGate_84_0 x  S p1 = some (r, S')) : Ev mX7_hasGate 1 0 0 0 [some (.ref 84), some (.int p1)] [] (mkS x S) (fun v h => v = some (.int r) ∧ h = mkS x S') := by
    unfold bfX7_hasGate_84_0 at hm
    refine Ev.steps tokX7_hasGate 2 (P := True) (pc' := if p1 < 0 then 16 else 4) (lv' := [some (.ref 84), some (.int p1)]) (st' := []) (h' := mkS x S) rfl trivial ?_
    refine Ev.ite (fun c1 => ?_) (fun c1 => ?_)
    · rw [if_pos c1] at hm
      refine Ev.fgt (lv' := [none, none]) trivial ?_
      exact bpX7_hasGate_84_16 x S _ _ hm
    · rw [if_neg c1] at hm
      refine Ev.steps tokX7_hasGate 4 (P := True) (pc' := if (S.1 84 0) ≤ p1 then 16 else 12) (lv' := [some (.ref 84), some (.int p1)]) (st' := []) (h' := mkS x S) rfl trivial ?_
      refine Ev.ite (fun c2 => ?_) (fun c2 => ?_)
      · rw [if_pos c2] at hm
        refine Ev.fgt (lv' := [none, none]) trivial ?_
        exact bpX7_hasGate_84_16 x S _ _ hm
      · rw [if_neg c2] at hm
        refine Ev.steps tokX7_hasGate 2 (P := True) (pc' := 17) (lv' := [some (.ref 84), some (.int p1)]) (st' := [.int 1]) (h' := mkS x S) rfl trivial ?_
        refine Ev.fgt (lv' := [none, none]) trivial ?_
        exact bpX7_hasGate_84_17 x S 1 _ _ hm
theorem gpX7_hasGate_84 (x : XT) (S : ST) (p1 : Int32) (r : Int32) (S' : ST) (hm : gfX7_hasGate_84 x S p1 = some (r, S')) : Ct mX7_hasGate 1 0 0 [.ref 84, .int p1] (mkS x S) (fun v h => v = some (.int r) ∧ h = mkS x S') :=
  Ct.of (lv := [some (.ref 84), some (.int p1)]) rfl rfl rfl (show (_ : Nat) ≤ _ from Nat.le_of_ble_eq_true rfl) (fun G => rfl) (bpX7_hasGate_84_0 x S p1 r S' hm)
set_option maxHeartbeats 4000000 in
set_option maxRecDepth 20000 in
theorem bpX0_regardUnknown_20_84_0 (x : XT)  (S : ST) (p2 : Int32) (p3 : Int32) (p4 : Int32) (r : Unit) (S' : ST) (hm : bfX0_regardUnknown_20_84_0 x  S p2 p3 p4 = some (r, S')) : Ev mX0_regardUnknown 1 0 0 0 [some (.ref 20), some (.ref 84), some (.int p2), some (.int p3), some (.int p4)] [] (mkS x S) (fun v h => v = none ∧ h = mkS x S') := by
    unfold bfX0_regardUnknown_20_84_0 at hm
    refine Ev.steps tokX0_regardUnknown 46 (P := vp_in 0 8 ∧ vp_in 1 8 ∧ vp_in 2 8 ∧ vp_in 3 8 ∧ vp_in 4 8 ∧ vp_in 5 8 ∧ vp_in 0 3 ∧ vp_in 6 8 ∧ vp_in 2 3 ∧ vp_in 7 8 ∧ True) (pc' := 69) (lv' := [some (.ref 20), some (.ref 84), some (.int p2), some (.int p3), some (.int p4)]) (st' := []) (h' := mkS x (S.1, (u2 (u2 (u2 (u2 (u2 (u2 (u2 (u2 S.2.1 21 0 p2) 21 1 p3) 21 2 p4) 21 3 0) 21 4 (-1)) 21 5 (-1)) 21 6 (S.2.1 97 0)) 21 7 (S.2.1 97 2)), S.2.2.1, S.2.2.2)) rfl ⟨(by unfold vp_in; decide), (by unfold vp_in; decide), (by unfold vp_in; decide), (by unfold vp_in; decide), (by unfold vp_in; decide), (by unfold vp_in; decide), (by unfold vp_in; decide), (by unfold vp_in; decide), (by unfold vp_in; decide), (by unfold vp_in; decide), trivial⟩ ?_
    cases hm
    exact Ev.retv tokX0_regardUnknown rfl rfl ⟨rfl, rfl⟩
theorem gpX0_regardUnknown_20_84 (x : XT) (S : ST) (p2 : Int32) (p3 : Int32) (p4 : Int32) (r : Unit) (S' : ST) (hm : gfX0_regardUnknown_20_84 x S p2 p3 p4 = some (r, S')) : Ct mX0_regardUnknown 1 0 0 [.ref 20, .ref 84, .int p2, .int p3, .int p4] (mkS x S) (fun v h => v = none ∧ h = mkS x S') :=
  Ct.of (lv := [some (.ref 20), some (.ref 84), some (.int p2), some (.int p3), some (.int p4)]) rfl rfl rfl (show (_ : Nat) ≤ _ from Nat.le_of_ble_eq_true rfl) (fun G => rfl) (bpX0_regardUnknown_20_84_0 x S p2 p3 p4 r S' hm)
set_option maxHeartbeats 4000000 in
set_option maxRecDepth 20000 in
theorem bpX0_regard_20_84_0 (x : XT)  (S : ST) (p2 : Int32) (p3 : Int32) (p4 : Int32) (r : Unit) (S' : ST) (hm : bfX0_regard_20_84_0 x  S p2 p3 p4 = some (r, S')) : Ev mX0_regard 2 0 0 0 [some (.ref 20), some (.ref 84), some (.int p2), some (.int p3), some (.int p4)] [] (mkS x S) (fun v h => v = none ∧ h = mkS x S') := by
    unfold bfX0_regard_20_84_0 at hm
    obtain ⟨o1, hm⟩ := oblk hm
    obtain ⟨o2, hm⟩ := oblk hm
    refine Ev.steps tokX0_regard 11 (P := vp_in p3 10 ∧ vp_in p3 10 ∧ True) (pc' := 16) (lv' := [some (.ref 20), some (.ref 84), some (.int p2), some (.int p3), some (.int p4)]) (st' := [.int p4, .int (S.2.1 88 p3.toNatClampNeg), .int (S.2.1 87 p3.toNatClampNeg), .ref 84, .ref 20]) (h' := mkS x S) rfl ⟨inb_ok o1, inb_ok o2, trivial⟩ ?_
    cases h3 : gfX0_regardUnknown_20_84 x S (S.2.1 87 p3.toNatClampNeg) (S.2.1 88 p3.toNatClampNeg) p4 with
    | none => rw [h3] at hm; cases hm
    | some q4 =>
      obtain ⟨r5, S6⟩ := q4
      rw [h3] at hm
      dsimp only at hm
      refine ev_callV (N := mX0_regardUnknown) (d' := 1) (bc := 0) (bs := 0) (bc' := 0) (bs' := 0) (as := [.ref 84, .int (S.2.1 87 p3.toNatClampNeg), .int (S.2.1 88 p3.toNatClampNeg), .int p4]) (rest := []) (a := 20) (ci := 0) (dcd tokX0_regard rfl) okX0_regardUnknown inX0_regardUnknown seX0_regardUnknown lk0_29 rfl (by decide) (Nat.le_of_ble_eq_true rfl) rfl ⟨by decide, rfl⟩ (gpX0_regardUnknown_20_84 x S (S.2.1 87 p3.toNatClampNeg) (S.2.1 88 p3.toNatClampNeg) p4 _ _ h3) (fun v h' hq hn => ?_)
      obtain ⟨rfl, rfl⟩ := hq
      obtain ⟨o7, hm⟩ := oblk hm
      refine Ev.steps tokX0_regard 18 (P := vp_in p2 5 ∧ vp_in 3 8 ∧ vp_in 4 8 ∧ vp_in 5 8 ∧ True) (pc' := 45) (lv' := [some (.ref 20), some (.ref 84), some (.int p2), some (.int p3), some (.int p4)]) (st' := []) (h' := mkS x (S6.1, (u2 (u2 (u2 S6.2.1 21 3 (S6.2.1 92 p2.toNatClampNeg)) 21 4 p3) 21 5 p2), S6.2.2.1, S6.2.2.2)) rfl ⟨inb_ok o7, (by unfold vp_in; decide), (by unfold vp_in; decide), (by unfold vp_in; decide), trivial⟩ ?_
      cases hm
      exact Ev.retv tokX0_regard rfl rfl ⟨rfl, rfl⟩
theorem gpX0_regard_20_84 (x : XT) (S : ST) (p2 : Int32) (p3 : Int32) (p4 : Int32) (r : Unit) (S' : ST) (hm : gfX0_regard_20_84 x S p2 p3 p4 = some (r, S')) : Ct mX0_regard 2 0 0 [.ref 20, .ref 84, .int p2, .int p3, .int p4] (mkS x S) (fun v h => v = none ∧ h = mkS x S') :=
  Ct.of (lv := [some (.ref 20), some (.ref 84), some (.int p2), some (.int p3), some (.int p4)]) rfl rfl rfl (show (_ : Nat) ≤ _ from Nat.le_of_ble_eq_true rfl) (fun G => rfl) (bpX0_regard_20_84_0 x S p2 p3 p4 r S' hm)
set_option maxHeartbeats 4000000 in
set_option maxRecDepth 20000 in
theorem bpX7_hasLaw_84_17 (x : XT)  (S : ST) (t0 : Int32) (r : Int32) (S' : ST) (hm : bfX7_hasLaw_84_17 x  S t0 = some (r, S')) : Ev mX7_hasLaw 1 0 0 17 [none, none] [.int t0] (mkS x S) (fun v h => v = some (.int r) ∧ h = mkS x S') := by
    unfold bfX7_hasLaw_84_17 at hm
    obtain ⟨o1, hm⟩ := oblk hm
    cases hm
    exact Ev.retz tokX7_hasLaw rfl rfl (bbz_ok o1) ⟨rfl, rfl⟩
set_option maxHeartbeats 4000000 in
set_option maxRecDepth 20000 in
theorem bpX7_hasLaw_84_16 (x : XT)  (S : ST)  (r : Int32) (S' : ST) (hm : bfX7_hasLaw_84_16 x  S  = some (r, S')) : Ev mX7_hasLaw 1 0 0 16 [none, none] [] (mkS x S) (fun v h => v = some (.int r) ∧ h = mkS x S') := by
    unfold bfX7_hasLaw_84_16 at hm
    refine Ev.steps tokX7_hasLaw 1 (P := True) (pc' := 17) (lv' := [none, none]) (st' := [.int 0]) (h' := mkS x S) rfl trivial ?_
    exact bpX7_hasLaw_84_17 x S 0 _ _ hm
set_option maxHeartbeats 4000000 in
set_option maxRecDepth 20000 in
theorem bpX7_hasLaw_84_0 (x : XT)  (S : ST) (p1 : Int32) (r : Int32) (S' : ST) (hm : bfX7_hasLaw_84_0 x  S p1 = some (r, S')) : Ev mX7_hasLaw 1 0 0 0 [some (.ref 84), some (.int p1)] [] (mkS x S) (fun v h => v = some (.int r) ∧ h = mkS x S') := by
    unfold bfX7_hasLaw_84_0 at hm
    refine Ev.steps tokX7_hasLaw 2 (P := True) (pc' := if p1 < 0 then 16 else 4) (lv' := [some (.ref 84), some (.int p1)]) (st' := []) (h' := mkS x S) rfl trivial ?_
    refine Ev.ite (fun c1 => ?_) (fun c1 => ?_)
    · rw [if_pos c1] at hm
      refine Ev.fgt (lv' := [none, none]) trivial ?_
      exact bpX7_hasLaw_84_16 x S _ _ hm
    · rw [if_neg c1] at hm
      refine Ev.steps tokX7_hasLaw 4 (P := True) (pc' := if (S.1 84 16) ≤ p1 then 16 else 12) (lv' := [some (.ref 84), some (.int p1)]) (st' := []) (h' := mkS x S) rfl trivial ?_
      refine Ev.ite (fun c2 => ?_) (fun c2 => ?_)
      · rw [if_pos c2] at hm
        refine Ev.fgt (lv' := [none, none]) trivial ?_
        exact bpX7_hasLaw_84_16 x S _ _ hm
      · rw [if_neg c2] at hm
        refine Ev.steps tokX7_hasLaw 2 (P := True) (pc' := 17) (lv' := [some (.ref 84), some (.int p1)]) (st' := [.int 1]) (h' := mkS x S) rfl trivial ?_
        refine Ev.fgt (lv' := [none, none]) trivial ?_
        exact bpX7_hasLaw_84_17 x S 1 _ _ hm
theorem gpX7_hasLaw_84 (x : XT) (S : ST) (p1 : Int32) (r : Int32) (S' : ST) (hm : gfX7_hasLaw_84 x S p1 = some (r, S')) : Ct mX7_hasLaw 1 0 0 [.ref 84, .int p1] (mkS x S) (fun v h => v = some (.int r) ∧ h = mkS x S') :=
  Ct.of (lv := [some (.ref 84), some (.int p1)]) rfl rfl rfl (show (_ : Nat) ≤ _ from Nat.le_of_ble_eq_true rfl) (fun G => rfl) (bpX7_hasLaw_84_0 x S p1 r S' hm)
set_option maxHeartbeats 4000000 in
set_option maxRecDepth 20000 in
theorem bpX7_inForce_84_24 (x : XT)  (S : ST) (t0 : Option Nat) (r : Option Nat) (S' : ST) (hm : bfX7_inForce_84_24 x  S t0 = some (r, S')) : Ev mX7_inForce 2 0 0 24 [none] [va_rf t0] (mkS x S) (fun v h => v = some (va_rf r) ∧ h = mkS x S') := by
    unfold bfX7_inForce_84_24 at hm
    cases hm
    exact Ev.retr tokX7_inForce rfl rfl ⟨rfl, rfl⟩
set_option maxHeartbeats 4000000 in
set_option maxRecDepth 20000 in
theorem bpX7_inForce_84_0 (x : XT)  (S : ST)  (r : Option Nat) (S' : ST) (hm : bfX7_inForce_84_0 x  S  = some (r, S')) : Ev mX7_inForce 2 0 0 0 [some (.ref 84)] [] (mkS x S) (fun v h => v = some (va_rf r) ∧ h = mkS x S') := by
    unfold bfX7_inForce_84_0 at hm
    refine Ev.steps tokX7_inForce 3 (P := True) (pc' := 5) (lv' := [some (.ref 84)]) (st' := [.int (S.1 84 18), .ref 84]) (h' := mkS x S) rfl trivial ?_
    cases h1 : gfX7_hasLaw_84 x S (S.1 84 18) with
    | none => rw [h1] at hm; cases hm
    | some q2 =>
      obtain ⟨r3, S4⟩ := q2
      rw [h1] at hm
      dsimp only at hm
      refine ev_callV (N := mX7_hasLaw) (d' := 1) (bc := 0) (bs := 0) (bc' := 0) (bs' := 0) (as := [.int (S.1 84 18)]) (rest := []) (a := 84) (ci := 7) (dcd tokX7_inForce rfl) okX7_hasLaw inX7_hasLaw seX7_hasLaw lk7_74 rfl (by decide) (Nat.le_of_ble_eq_true rfl) rfl ⟨by decide, rfl⟩ (gpX7_hasLaw_84 x S (S.1 84 18) _ _ h1) (fun v h' hq hn => ?_)
      obtain ⟨rfl, rfl⟩ := hq
      refine Ev.steps tokX7_inForce 1 (P := True) (pc' := if r3 = 0 then 23 else 11) (lv' := [some (.ref 84)]) (st' := []) (h' := mkS x S4) rfl trivial ?_
      refine Ev.ite (fun c5 => ?_) (fun c5 => ?_)
      · rw [if_pos c5] at hm
        refine Ev.steps tokX7_inForce 1 (P := True) (pc' := 24) (lv' := [some (.ref 84)]) (st' := [.null]) (h' := mkS x S4) rfl trivial ?_
        refine Ev.fgt (lv' := [none]) trivial ?_
        exact bpX7_inForce_84_24 x S4 none _ _ hm
      · rw [if_neg c5] at hm
        obtain ⟨o6, hm⟩ := oblk hm
        refine Ev.steps tokX7_inForce 6 (P := vp_in (S4.1 84 18) 6 ∧ True) (pc' := 24) (lv' := [some (.ref 84)]) (st' := [va_rf (S4.2.2.2 98 ((S4.1 84 18).toNatClampNeg))]) (h' := mkS x S4) rfl ⟨inb_ok o6, trivial⟩ ?_
        refine Ev.fgt (lv' := [none]) trivial ?_
        exact bpX7_inForce_84_24 x S4 (S4.2.2.2 98 ((S4.1 84 18).toNatClampNeg)) _ _ hm
theorem gpX7_inForce_84 (x : XT) (S : ST)  (r : Option Nat) (S' : ST) (hm : gfX7_inForce_84 x S  = some (r, S')) : Ct mX7_inForce 2 0 0 [.ref 84] (mkS x S) (fun v h => v = some (va_rf r) ∧ h = mkS x S') :=
  Ct.of (lv := [some (.ref 84)]) rfl rfl rfl (show (_ : Nat) ≤ _ from Nat.le_of_ble_eq_true rfl) (fun G => rfl) (bpX7_inForce_84_0 x S  r S' hm)
set_option maxHeartbeats 4000000 in
set_option maxRecDepth 20000 in
theorem bpX0_told_20_84_171 (x : XT)  (S : ST) (t0 : Int32) (r : Int32) (S' : ST) (hm : bfX0_told_20_84_171 x  S t0 = some (r, S')) : Ev mX0_told 3 0 0 171 [none, none, none, none, none, none] [.int t0] (mkS x S) (fun v h => v = some (.int r) ∧ h = mkS x S') := by
    unfold bfX0_told_20_84_171 at hm
    cases hm
    exact Ev.reti tokX0_told rfl rfl ⟨rfl, rfl⟩
set_option maxHeartbeats 4000000 in
set_option maxRecDepth 20000 in
theorem bpX0_told_20_84_192 (x : XT)  (S : ST) (t0 : Int32) (r : Int32) (S' : ST) (hm : bfX0_told_20_84_192 x  S t0 = some (r, S')) : Ev mX0_told 3 0 0 192 [none, none, none, none, none, none] [.int t0] (mkS x S) (fun v h => v = some (.int r) ∧ h = mkS x S') := by
    unfold bfX0_told_20_84_192 at hm
    cases hm
    exact Ev.reti tokX0_told rfl rfl ⟨rfl, rfl⟩
set_option maxHeartbeats 4000000 in
set_option maxRecDepth 20000 in
theorem bpX0_told_20_84_204 (x : XT)  (S : ST) (t0 : Int32) (r : Int32) (S' : ST) (hm : bfX0_told_20_84_204 x  S t0 = some (r, S')) : Ev mX0_told 3 0 0 204 [none, none, none, none, none, none] [.int t0] (mkS x S) (fun v h => v = some (.int r) ∧ h = mkS x S') := by
    unfold bfX0_told_20_84_204 at hm
    cases hm
    exact Ev.reti tokX0_told rfl rfl ⟨rfl, rfl⟩
set_option maxHeartbeats 4000000 in
set_option maxRecDepth 20000 in
theorem bpX0_told_20_84_111 (x : XT)  (S : ST) (v2 : Int32) (v3 : Int32) (r : Int32) (S' : ST) (hm : bfX0_told_20_84_111 x  S v2 v3 = some (r, S')) : Ev mX0_told 3 0 0 111 [some (.ref 20), none, some (.int v2), some (.int v3), none, none] [] (mkS x S) (fun v h => v = some (.int r) ∧ h = mkS x S') := by
    unfold bfX0_told_20_84_111 at hm
    refine Ev.steps tokX0_told 1 (P := True) (pc' := 112) (lv' := [some (.ref 20), none, some (.int v2), some (.int v3), none, none]) (st' := [.int v2]) (h' := mkS x S) rfl trivial ?_
    by_cases c1 : v2 = 260
    · rw [if_pos c1] at hm
      refine ev_look (off := 28) (t := 140) (dcd tokX0_told rfl) (by decide) (by rw [c1]; decide) rfl ?_
      refine Ev.steps tokX0_told 3 (P := True) (pc' := if ¬ v3 = (-2000000000) then 161 else 146) (lv' := [some (.ref 20), none, some (.int v2), some (.int v3), none, none]) (st' := []) (h' := mkS x S) rfl trivial ?_
      refine Ev.ite (fun c2 => ?_) (fun c2 => ?_)
      · rw [if_pos c2] at hm
        refine Ev.steps tokX0_told 3 (P := True) (pc' := 165) (lv' := [some (.ref 20), none, some (.int v2), some (.int v3), none, none]) (st' := [.int 19, .int v3, .int 0]) (h' := mkS x S) rfl trivial ?_
        refine ev_min (dcd tokX0_told rfl) lk0_67 mt_min.1 mt_in.1 mt_min.2 (by decide) (Nat.le_of_ble_eq_true rfl) ?_
        refine ev_max (dcd tokX0_told rfl) lk0_61 mt_max.1 mt_in.1 mt_max.2 (by decide) (Nat.le_of_ble_eq_true rfl) ?_
        refine Ev.fgt (lv' := [none, none, none, none, none, none]) trivial ?_
        exact bpX0_told_20_84_171 x S (if 0 < (if 19 < v3 then 19 else v3) then (if 19 < v3 then 19 else v3) else 0) _ _ hm
      · rw [if_neg c2] at hm
        refine Ev.steps tokX0_told 7 (P := vp_in 2 8 ∧ True) (pc' := 155) (lv' := [some (.ref 20), none, some (.int v2), some (.int v3), none, none]) (st' := [.int 0, .int ((S.2.1 21 2) - 1)]) (h' := mkS x S) rfl ⟨(by unfold vp_in; decide), trivial⟩ ?_
        refine ev_max (dcd tokX0_told rfl) lk0_61 mt_max.1 mt_in.1 mt_max.2 (by decide) (Nat.le_of_ble_eq_true rfl) ?_
        refine Ev.steps tokX0_told 1 (P := True) (pc' := 171) (lv' := [some (.ref 20), none, some (.int v2), some (.int v3), none, none]) (st' := [.int (if ((S.2.1 21 2) - 1) < 0 then 0 else ((S.2.1 21 2) - 1))]) (h' := mkS x S) rfl trivial ?_
        refine Ev.fgt (lv' := [none, none, none, none, none, none]) trivial ?_
        exact bpX0_told_20_84_171 x S (if ((S.2.1 21 2) - 1) < 0 then 0 else ((S.2.1 21 2) - 1)) _ _ hm
    rw [if_neg c1] at hm
    by_cases c3 : v2 = 261
    · rw [if_pos c3] at hm
      refine ev_look (off := 60) (t := 172) (dcd tokX0_told rfl) (by decide) (by rw [c3]; decide) rfl ?_
      refine Ev.steps tokX0_told 3 (P := True) (pc' := if ¬ v3 = (-2000000000) then 182 else 178) (lv' := [some (.ref 20), none, some (.int v2), some (.int v3), none, none]) (st' := []) (h' := mkS x S) rfl trivial ?_
      refine Ev.ite (fun c4 => ?_) (fun c4 => ?_)
      · rw [if_pos c4] at hm
        refine Ev.steps tokX0_told 3 (P := True) (pc' := 186) (lv' := [some (.ref 20), none, some (.int v2), some (.int v3), none, none]) (st' := [.int 9, .int v3, .int 0]) (h' := mkS x S) rfl trivial ?_
        refine ev_min (dcd tokX0_told rfl) lk0_67 mt_min.1 mt_in.1 mt_min.2 (by decide) (Nat.le_of_ble_eq_true rfl) ?_
        refine ev_max (dcd tokX0_told rfl) lk0_61 mt_max.1 mt_in.1 mt_max.2 (by decide) (Nat.le_of_ble_eq_true rfl) ?_
        refine Ev.fgt (lv' := [none, none, none, none, none, none]) trivial ?_
        exact bpX0_told_20_84_192 x S (if 0 < (if 9 < v3 then 9 else v3) then (if 9 < v3 then 9 else v3) else 0) _ _ hm
      · rw [if_neg c4] at hm
        refine Ev.steps tokX0_told 2 (P := True) (pc' := 192) (lv' := [some (.ref 20), none, some (.int v2), some (.int v3), none, none]) (st' := [.int 1]) (h' := mkS x S) rfl trivial ?_
        refine Ev.fgt (lv' := [none, none, none, none, none, none]) trivial ?_
        exact bpX0_told_20_84_192 x S 1 _ _ hm
    rw [if_neg c3] at hm
    refine ev_look (off := 81) (t := 193) (dcd tokX0_told rfl) (by decide) ((lv_osw c1 (show (260 : Int32).toInt = 260 from by decide)).trans ((lv_osw c3 (show (261 : Int32).toInt = 261 from by decide)).trans (rfl))) rfl ?_
    refine Ev.steps tokX0_told 3 (P := True) (pc' := if ¬ v3 = (-2000000000) then 203 else 199) (lv' := [some (.ref 20), none, some (.int v2), some (.int v3), none, none]) (st' := []) (h' := mkS x S) rfl trivial ?_
    refine Ev.ite (fun c5 => ?_) (fun c5 => ?_)
    · rw [if_pos c5] at hm
      refine Ev.steps tokX0_told 1 (P := True) (pc' := 204) (lv' := [some (.ref 20), none, some (.int v2), some (.int v3), none, none]) (st' := [.int 1]) (h' := mkS x S) rfl trivial ?_
      refine Ev.fgt (lv' := [none, none, none, none, none, none]) trivial ?_
      exact bpX0_told_20_84_204 x S 1 _ _ hm
    · rw [if_neg c5] at hm
      refine Ev.steps tokX0_told 2 (P := True) (pc' := 204) (lv' := [some (.ref 20), none, some (.int v2), some (.int v3), none, none]) (st' := [.int 0]) (h' := mkS x S) rfl trivial ?_
      refine Ev.fgt (lv' := [none, none, none, none, none, none]) trivial ?_
      exact bpX0_told_20_84_204 x S 0 _ _ hm
set_option maxHeartbeats 4000000 in
set_option maxRecDepth 20000 in
theorem bpX0_told_20_84_105 (x : XT) (k23 : ST → Int32 → Int32 → Nat → Int32 → Option (Int32 × ST)) (hk23 : ∀ (S : ST) (v2 : Int32) (v3 : Int32) (v4 : Nat) (v5 : Int32) (r : Int32) (S' : ST), k23 S v2 v3 v4 v5 = some (r, S') → Ev mX0_told 3 0 0 23 [some (.ref 20), none, some (.int v2), some (.int v3), some (.ref v4), some (.int v5)] [] (mkS x S) (fun v h => v = some (.int r) ∧ h = mkS x S')) (S : ST) (v2 : Int32) (v3 : Int32) (v4 : Nat) (v5 : Int32) (r : Int32) (S' : ST) (hm : bfX0_told_20_84_105 x k23 S v2 v3 v4 v5 = some (r, S')) : Ev mX0_told 3 0 0 105 [some (.ref 20), none, some (.int v2), some (.int v3), some (.ref v4), some (.int v5)] [] (mkS x S) (fun v h => v = some (.int r) ∧ h = mkS x S') := by
    unfold bfX0_told_20_84_105 at hm
    obtain ⟨o1, hm⟩ := oblk hm
    obtain ⟨f9_v4, r2_v4, r3_v4, r4_v4, r5_v4, a1_v4, a2_v4, a3_v4, a4_v4⟩ := tx_ok o1
    refine Ev.steps tokX0_told 2 (P := True) (pc' := 23) (lv' := [some (.ref 20), none, some (.int v2), some (.int v3), some (.ref v4), some (.int (v5 + (-1)))]) (st' := []) (h' := mkS x S) rfl trivial ?_
    exact hk23 S v2 v3 v4 (v5 + (-1)) _ _ hm
set_option maxHeartbeats 4000000 in
set_option maxRecDepth 20000 in
theorem bpX0_told_20_84_104 (x : XT) (k23 : ST → Int32 → Int32 → Nat → Int32 → Option (Int32 × ST)) (hk23 : ∀ (S : ST) (v2 : Int32) (v3 : Int32) (v4 : Nat) (v5 : Int32) (r : Int32) (S' : ST), k23 S v2 v3 v4 v5 = some (r, S') → Ev mX0_told 3 0 0 23 [some (.ref 20), none, some (.int v2), some (.int v3), some (.ref v4), some (.int v5)] [] (mkS x S) (fun v h => v = some (.int r) ∧ h = mkS x S')) (S : ST) (v2 : Int32) (v4 : Nat) (v5 : Int32) (t0 : Int32) (r : Int32) (S' : ST) (hm : bfX0_told_20_84_104 x k23 S v2 v4 v5 t0 = some (r, S')) : Ev mX0_told 3 0 0 104 [some (.ref 20), none, some (.int v2), none, some (.ref v4), some (.int v5)] [.int t0] (mkS x S) (fun v h => v = some (.int r) ∧ h = mkS x S') := by
    unfold bfX0_told_20_84_104 at hm
    obtain ⟨o1, hm⟩ := oblk hm
    obtain ⟨f9_v4, r2_v4, r3_v4, r4_v4, r5_v4, a1_v4, a2_v4, a3_v4, a4_v4⟩ := tx_ok o1
    refine Ev.steps tokX0_told 1 (P := True) (pc' := 105) (lv' := [some (.ref 20), none, some (.int v2), some (.int t0), some (.ref v4), some (.int v5)]) (st' := []) (h' := mkS x S) rfl trivial ?_
    exact bpX0_told_20_84_105 x k23 hk23 S v2 t0 v4 v5 _ _ hm
set_option maxHeartbeats 4000000 in
set_option maxRecDepth 20000 in
theorem bpX0_told_20_84_77 (x : XT) (k23 : ST → Int32 → Int32 → Nat → Int32 → Option (Int32 × ST)) (hk23 : ∀ (S : ST) (v2 : Int32) (v3 : Int32) (v4 : Nat) (v5 : Int32) (r : Int32) (S' : ST), k23 S v2 v3 v4 v5 = some (r, S') → Ev mX0_told 3 0 0 23 [some (.ref 20), none, some (.int v2), some (.int v3), some (.ref v4), some (.int v5)] [] (mkS x S) (fun v h => v = some (.int r) ∧ h = mkS x S')) (S : ST) (v2 : Int32) (v4 : Nat) (v5 : Int32) (r : Int32) (S' : ST) (hm : bfX0_told_20_84_77 x k23 S v2 v4 v5 = some (r, S')) : Ev mX0_told 3 0 0 77 [some (.ref 20), none, some (.int v2), none, some (.ref v4), some (.int v5)] [] (mkS x S) (fun v h => v = some (.int r) ∧ h = mkS x S') := by
    unfold bfX0_told_20_84_77 at hm
    obtain ⟨o1, hm⟩ := oblk hm
    obtain ⟨f9_v4, r2_v4, r3_v4, r4_v4, r5_v4, a1_v4, a2_v4, a3_v4, a4_v4⟩ := tx_ok o1
    refine Ev.steps tokX0_told 3 (P := True) (pc' := if ¬ v2 = 262 then 88 else 84) (lv' := [some (.ref 20), none, some (.int v2), none, some (.ref v4), some (.int v5)]) (st' := []) (h' := mkS x S) rfl trivial ?_
    refine Ev.ite (fun c2 => ?_) (fun c2 => ?_)
    · rw [if_pos c2] at hm
      refine Ev.steps tokX0_told 7 (P := True) (pc' := 101) (lv' := [some (.ref 20), none, some (.int v2), none, some (.ref v4), some (.int v5)]) (st' := [.ref 22, .ref 21, .int 0, .int v5, .ref v4]) (h' := mkS x S) rfl trivial ?_
      cases h3 : gfX9_reckon_T_21_22 x S v4 v5 0 with
      | none => rw [h3] at hm; cases hm
      | some q4 =>
        obtain ⟨r5, S6⟩ := q4
        rw [h3] at hm
        dsimp only at hm
        refine ev_callV (N := mX9_reckon) (d' := 2) (bc := 0) (bs := 0) (bc' := 0) (bs' := 0) (as := [.int v5, .int 0, .ref 21, .ref 22]) (rest := []) (a := v4) (ci := 9) (dcd tokX0_told rfl) okX9_reckon inX9_reckon seX9_reckon lk0_57 rfl (by decide) (Nat.le_of_ble_eq_true rfl) f9_v4 ⟨by decide, rfl⟩ (gpX9_reckon_T_21_22 x S v4 v5 0 _ _ h3) (fun v h' hq hn => ?_)
        obtain ⟨rfl, rfl⟩ := hq
        exact bpX0_told_20_84_104 x k23 hk23 S6 v2 v4 v5 r5 _ _ hm
    · rw [if_neg c2] at hm
      refine Ev.steps tokX0_told 2 (P := True) (pc' := 104) (lv' := [some (.ref 20), none, some (.int v2), none, some (.ref v4), some (.int v5)]) (st' := [.int 1]) (h' := mkS x S) rfl trivial ?_
      exact bpX0_told_20_84_104 x k23 hk23 S v2 v4 v5 1 _ _ hm
set_option maxHeartbeats 4000000 in
set_option maxRecDepth 20000 in
theorem bpX0_told_20_84_23 (x : XT) (k23 : ST → Int32 → Int32 → Nat → Int32 → Option (Int32 × ST)) (hk23 : ∀ (S : ST) (v2 : Int32) (v3 : Int32) (v4 : Nat) (v5 : Int32) (r : Int32) (S' : ST), k23 S v2 v3 v4 v5 = some (r, S') → Ev mX0_told 3 0 0 23 [some (.ref 20), none, some (.int v2), some (.int v3), some (.ref v4), some (.int v5)] [] (mkS x S) (fun v h => v = some (.int r) ∧ h = mkS x S')) (S : ST) (v2 : Int32) (v3 : Int32) (v4 : Nat) (v5 : Int32) (r : Int32) (S' : ST) (hm : bfX0_told_20_84_23 x k23 S v2 v3 v4 v5 = some (r, S')) : Ev mX0_told 3 0 0 23 [some (.ref 20), none, some (.int v2), some (.int v3), some (.ref v4), some (.int v5)] [] (mkS x S) (fun v h => v = some (.int r) ∧ h = mkS x S') := by
    unfold bfX0_told_20_84_23 at hm
    obtain ⟨o1, hm⟩ := oblk hm
    obtain ⟨f9_v4, r2_v4, r3_v4, r4_v4, r5_v4, a1_v4, a2_v4, a3_v4, a4_v4⟩ := tx_ok o1
    refine Ev.steps tokX0_told 2 (P := True) (pc' := if v5 < 0 then 111 else 28) (lv' := [some (.ref 20), none, some (.int v2), some (.int v3), some (.ref v4), some (.int v5)]) (st' := []) (h' := mkS x S) rfl trivial ?_
    refine Ev.ite (fun c2 => ?_) (fun c2 => ?_)
    · rw [if_pos c2] at hm
      refine Ev.fgt (lv' := [some (.ref 20), none, some (.int v2), some (.int v3), none, none]) ⟨rfl, rfl, rfl, trivial⟩ ?_
      exact bpX0_told_20_84_111 x S v2 v3 _ _ hm
    · rw [if_neg c2] at hm
      refine Ev.steps tokX0_told 3 (P := True) (pc' := if ¬ v3 = (-2000000000) then 111 else 34) (lv' := [some (.ref 20), none, some (.int v2), some (.int v3), some (.ref v4), some (.int v5)]) (st' := []) (h' := mkS x S) rfl trivial ?_
      refine Ev.ite (fun c3 => ?_) (fun c3 => ?_)
      · rw [if_pos c3] at hm
        refine Ev.fgt (lv' := [some (.ref 20), none, some (.int v2), some (.int v3), none, none]) ⟨rfl, rfl, rfl, trivial⟩ ?_
        exact bpX0_told_20_84_111 x S v2 v3 _ _ hm
      · rw [if_neg c3] at hm
        refine Ev.steps tokX0_told 1 (P := True) (pc' := 36) (lv' := [some (.ref 20), none, some (.int v2), some (.int v3), some (.ref v4), some (.int v5)]) (st' := [.ref v4]) (h' := mkS x S) rfl trivial ?_
        refine ev_getR (dcd tokX0_told rfl) rfl f9_v4 rfl r2_v4 ?_
        refine Ev.steps tokX0_told 1 (P := True) (pc' := 41) (lv' := [some (.ref 20), none, some (.int v2), some (.int v3), some (.ref v4), some (.int v5)]) (st' := [.int v5, .ref (v4 + 1)]) (h' := mkS x S) rfl trivial ?_
        obtain ⟨o4, hm⟩ := oblk hm
        refine ev_iald (dcd tokX0_told rfl) a1_v4 (inb_ok o4) ?_
        refine Ev.steps tokX0_told 2 (P := True) (pc' := if ¬ (S.2.1 (v4 + 1) v5.toNatClampNeg) = v2 then 105 else 46) (lv' := [some (.ref 20), none, some (.int v2), some (.int v3), some (.ref v4), some (.int v5)]) (st' := []) (h' := mkS x S) rfl trivial ?_
        refine Ev.ite (fun c5 => ?_) (fun c5 => ?_)
        · rw [if_pos c5] at hm
          exact bpX0_told_20_84_105 x k23 hk23 S v2 v3 v4 v5 _ _ hm
        · rw [if_neg c5] at hm
          refine Ev.steps tokX0_told 3 (P := True) (pc' := 51) (lv' := [some (.ref 20), none, some (.int v2), some (.int v3), some (.ref v4), some (.int v5)]) (st' := [.int 2, .int v5, .ref v4]) (h' := mkS x S) rfl trivial ?_
          cases h6 : gfX9_has_T x S v4 v5 2 with
          | none => rw [h6] at hm; cases hm
          | some q7 =>
            obtain ⟨r8, S9⟩ := q7
            rw [h6] at hm
            dsimp only at hm
            refine ev_callV (N := mX9_has) (d' := 1) (bc := 0) (bs := 0) (bc' := 0) (bs' := 0) (as := [.int v5, .int 2]) (rest := []) (a := v4) (ci := 9) (dcd tokX0_told rfl) okX9_has inX9_has seX9_has lk0_53 rfl (by decide) (Nat.le_of_ble_eq_true rfl) f9_v4 ⟨by decide, rfl⟩ (gpX9_has_T x S v4 v5 2 _ _ h6) (fun v h' hq hn => ?_)
            obtain ⟨rfl, rfl⟩ := hq
            refine Ev.steps tokX0_told 1 (P := True) (pc' := if r8 = 0 then 77 else 57) (lv' := [some (.ref 20), none, some (.int v2), some (.int v3), some (.ref v4), some (.int v5)]) (st' := []) (h' := mkS x S9) rfl trivial ?_
            refine Ev.ite (fun c10 => ?_) (fun c10 => ?_)
            · rw [if_pos c10] at hm
              refine Ev.fgt (lv' := [some (.ref 20), none, some (.int v2), none, some (.ref v4), some (.int v5)]) ⟨rfl, rfl, rfl, rfl, trivial⟩ ?_
              exact bpX0_told_20_84_77 x k23 hk23 S9 v2 v4 v5 _ _ hm
            · rw [if_neg c10] at hm
              refine Ev.steps tokX0_told 7 (P := True) (pc' := 70) (lv' := [some (.ref 20), none, some (.int v2), some (.int v3), some (.ref v4), some (.int v5)]) (st' := [.ref 22, .ref 21, .int 2, .int v5, .ref v4]) (h' := mkS x S9) rfl trivial ?_
              cases h11 : gfX9_reckon_T_21_22 x S9 v4 v5 2 with
              | none => rw [h11] at hm; cases hm
              | some q12 =>
                obtain ⟨r13, S14⟩ := q12
                rw [h11] at hm
                dsimp only at hm
                refine ev_callV (N := mX9_reckon) (d' := 2) (bc := 0) (bs := 0) (bc' := 0) (bs' := 0) (as := [.int v5, .int 2, .ref 21, .ref 22]) (rest := []) (a := v4) (ci := 9) (dcd tokX0_told rfl) okX9_reckon inX9_reckon seX9_reckon lk0_57 rfl (by decide) (Nat.le_of_ble_eq_true rfl) f9_v4 ⟨by decide, rfl⟩ (gpX9_reckon_T_21_22 x S9 v4 v5 2 _ _ h11) (fun v h' hq hn => ?_)
                obtain ⟨rfl, rfl⟩ := hq
                refine Ev.steps tokX0_told 2 (P := True) (pc' := if ¬ r13 = 1 then 105 else 77) (lv' := [some (.ref 20), none, some (.int v2), some (.int v3), some (.ref v4), some (.int v5)]) (st' := []) (h' := mkS x S14) rfl trivial ?_
                refine Ev.ite (fun c15 => ?_) (fun c15 => ?_)
                · rw [if_pos c15] at hm
                  exact bpX0_told_20_84_105 x k23 hk23 S14 v2 v3 v4 v5 _ _ hm
                · rw [if_neg c15] at hm
                  refine Ev.fgt (lv' := [some (.ref 20), none, some (.int v2), none, some (.ref v4), some (.int v5)]) ⟨rfl, rfl, rfl, rfl, trivial⟩ ?_
                  exact bpX0_told_20_84_77 x k23 hk23 S14 v2 v4 v5 _ _ hm
theorem lpX0_told_20_84_23 (x : XT)  : ∀ (n : Nat) (S : ST) (v2 : Int32) (v3 : Int32) (v4 : Nat) (v5 : Int32) (r : Int32) (S' : ST), lfX0_told_20_84_23 x  n S v2 v3 v4 v5 = some (r, S') → Ev mX0_told 3 0 0 23 [some (.ref 20), none, some (.int v2), some (.int v3), some (.ref v4), some (.int v5)] [] (mkS x S) (fun v h => v = some (.int r) ∧ h = mkS x S')
  | 0, _, _, _, _, _, _, _, hm => by cases hm
  | n + 1, S, v2, v3, v4, v5, r, S', hm => bpX0_told_20_84_23 x (lfX0_told_20_84_23 x  n) (lpX0_told_20_84_23 x  n) S v2 v3 v4 v5 r S' hm
set_option maxHeartbeats 4000000 in
set_option maxRecDepth 20000 in
theorem bpX0_told_20_84_0 (x : XT)  (S : ST) (p2 : Int32) (r : Int32) (S' : ST) (hm : bfX0_told_20_84_0 x  S p2 = some (r, S')) : Ev mX0_told 3 0 0 0 [some (.ref 20), some (.ref 84), some (.int p2), none, none, none] [] (mkS x S) (fun v h => v = some (.int r) ∧ h = mkS x S') := by
    unfold bfX0_told_20_84_0 at hm
    refine Ev.steps tokX0_told 3 (P := True) (pc' := 4) (lv' := [some (.ref 20), some (.ref 84), some (.int p2), some (.int (-2000000000)), none, none]) (st' := [.ref 84]) (h' := mkS x S) rfl trivial ?_
    cases h1 : gfX7_inForce_84 x S with
    | none => rw [h1] at hm; cases hm
    | some q2 =>
      obtain ⟨r3, S4⟩ := q2
      rw [h1] at hm
      dsimp only at hm
      refine ev_callV (N := mX7_inForce) (d' := 2) (bc := 0) (bs := 0) (bc' := 0) (bs' := 0) (as := []) (rest := []) (a := 84) (ci := 7) (dcd tokX0_told rfl) okX7_inForce inX7_inForce seX7_inForce lk0_40 rfl (by decide) (Nat.le_of_ble_eq_true rfl) rfl ⟨by decide, rfl⟩ (gpX7_inForce_84 x S _ _ h1) (fun v h' hq hn => ?_)
      obtain ⟨rfl, rfl⟩ := hq
      refine ev_astoreQ (r := r3) (dcd tokX0_told rfl) (by decide) ?_
      refine ev_aloadQ (r := r3) (dcd tokX0_told rfl) rfl ?_
      refine ev_ifnullQ (r := r3) (t := 111) (dcd tokX0_told rfl) rfl (fun hz => ?_) (fun t5 hz => ?_)
      · rw [hz] at hm ⊢
        refine Ev.fgt (lv' := [some (.ref 20), none, some (.int p2), some (.int (-2000000000)), none, none]) ⟨rfl, rfl, rfl, trivial⟩ ?_
        exact bpX0_told_20_84_111 x S4 p2 (-2000000000) _ _ hm
      · rw [hz] at hm ⊢
        obtain ⟨o6, hm⟩ := oblk hm
        obtain ⟨f9_t5, r2_t5, r3_t5, r4_t5, r5_t5, a1_t5, a2_t5, a3_t5, a4_t5⟩ := tx_ok o6
        refine Ev.steps tokX0_told 1 (P := True) (pc' := 16) (lv' := [some (.ref 20), some (.ref 84), some (.int p2), some (.int (-2000000000)), some (.ref t5), none]) (st' := [.ref t5]) (h' := mkS x S4) rfl trivial ?_
        refine ev_getI (dcd tokX0_told rfl) rfl f9_t5 rfl ?_
        refine Ev.steps tokX0_told 3 (P := True) (pc' := 23) (lv' := [some (.ref 20), some (.ref 84), some (.int p2), some (.int (-2000000000)), some (.ref t5), some (.int ((S4.1 t5 0) - 1))]) (st' := []) (h' := mkS x S4) rfl trivial ?_
        refine Ev.fgt (lv' := [some (.ref 20), none, some (.int p2), some (.int (-2000000000)), some (.ref t5), some (.int ((S4.1 t5 0) - 1))]) ⟨rfl, rfl, rfl, rfl, rfl, trivial⟩ ?_
        exact lpX0_told_20_84_23 x  20000 S4 p2 (-2000000000) t5 ((S4.1 t5 0) - 1) _ _ hm
theorem gpX0_told_20_84 (x : XT) (S : ST) (p2 : Int32) (r : Int32) (S' : ST) (hm : gfX0_told_20_84 x S p2 = some (r, S')) : Ct mX0_told 3 0 0 [.ref 20, .ref 84, .int p2] (mkS x S) (fun v h => v = some (.int r) ∧ h = mkS x S') :=
  Ct.of (lv := [some (.ref 20), some (.ref 84), some (.int p2), none, none, none]) rfl rfl rfl (show (_ : Nat) ≤ _ from Nat.le_of_ble_eq_true rfl) (fun G => rfl) (bpX0_told_20_84_0 x S p2 r S' hm)
end MIR
