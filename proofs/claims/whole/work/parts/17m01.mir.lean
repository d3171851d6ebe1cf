section MIR
set_option maxHeartbeats 4000000 in
set_option maxRecDepth 20000 in
theorem bpX9_has_T_30 (x : XT)  (S : ST) (t0 : Int32) (r : Int32) (S' : ST) (hm : bfX9_has_T_30 x  S t0 = some (r, S')) : Ev mX9_has 1 0 0 30 [none, none, none] [.int t0] (mkS x S) (fun v h => v = some (.int r) ∧ h = mkS x S') := by
    unfold bfX9_has_T_30 at hm
    obtain ⟨o1, hm⟩ := oblk hm
    cases hm
    exact Ev.retz tokX9_has rfl rfl (bbz_ok o1) ⟨rfl, rfl⟩
set_option maxHeartbeats 4000000 in
set_option maxRecDepth 20000 in
theorem bpX9_has_T_0 (x : XT)  (S : ST) (p0 : Nat) (p1 : Int32) (p2 : Int32) (r : Int32) (S' : ST) (hm : bfX9_has_T_0 x  S p0 p1 p2 = some (r, S')) : Ev mX9_has 1 0 0 0 [some (.ref p0), some (.int p1), some (.int p2)] [] (mkS x S) (fun v h => v = some (.int r) ∧ h = mkS x S') := by
    unfold bfX9_has_T_0 at hm
    obtain ⟨o1, hm⟩ := oblk hm
    obtain ⟨f9_p0, r2_p0, r3_p0, r4_p0, r5_p0, a1_p0, a2_p0, a3_p0, a4_p0⟩ := tx_ok o1
    refine Ev.steps tokX9_has 1 (P := True) (pc' := 1) (lv' := [some (.ref p0), some (.int p1), some (.int p2)]) (st' := [.ref p0]) (h' := mkS x S) rfl trivial ?_
    refine ev_getR (dcd tokX9_has rfl) rfl f9_p0 rfl r4_p0 ?_
    refine Ev.steps tokX9_has 5 (P := True) (pc' := 9) (lv' := [some (.ref p0), some (.int p1), some (.int p2)]) (st' := [.int ((4 * p1) + p2), .ref (p0 + 3)]) (h' := mkS x S) rfl trivial ?_
    obtain ⟨o2, hm⟩ := oblk hm
    refine ev_iald (dcd tokX9_has rfl) a3_p0 (inb_ok o2) ?_
    refine Ev.steps tokX9_has 1 (P := True) (pc' := 11) (lv' := [some (.ref p0), some (.int p1), some (.int p2)]) (st' := [.ref p0, .int (S.2.1 (p0 + 3) (((4 * p1) + p2).toNatClampNeg))]) (h' := mkS x S) rfl trivial ?_
    refine ev_getR (dcd tokX9_has rfl) rfl f9_p0 rfl r4_p0 ?_
    refine Ev.steps tokX9_has 7 (P := True) (pc' := 21) (lv' := [some (.ref p0), some (.int p1), some (.int p2)]) (st' := [.int (((4 * p1) + p2) + 1), .ref (p0 + 3), .int (S.2.1 (p0 + 3) (((4 * p1) + p2).toNatClampNeg))]) (h' := mkS x S) rfl trivial ?_
    obtain ⟨o3, hm⟩ := oblk hm
    refine ev_iald (dcd tokX9_has rfl) a3_p0 (inb_ok o3) ?_
    refine Ev.steps tokX9_has 1 (P := True) (pc' := if (S.2.1 (p0 + 3) ((((4 * p1) + p2) + 1).toNatClampNeg)) ≤ (S.2.1 (p0 + 3) (((4 * p1) + p2).toNatClampNeg)) then 29 else 25) (lv' := [some (.ref p0), some (.int p1), some (.int p2)]) (st' := []) (h' := mkS x S) rfl trivial ?_
    refine Ev.ite (fun c4 => ?_) (fun c4 => ?_)
    · rw [if_pos c4] at hm
      refine Ev.steps tokX9_has 1 (P := True) (pc' := 30) (lv' := [some (.ref p0), some (.int p1), some (.int p2)]) (st' := [.int 0]) (h' := mkS x S) rfl trivial ?_
      refine Ev.fgt (lv' := [none, none, none]) trivial ?_
      exact bpX9_has_T_30 x S 0 _ _ hm
    · rw [if_neg c4] at hm
      refine Ev.steps tokX9_has 2 (P := True) (pc' := 30) (lv' := [some (.ref p0), some (.int p1), some (.int p2)]) (st' := [.int 1]) (h' := mkS x S) rfl trivial ?_
      refine Ev.fgt (lv' := [none, none, none]) trivial ?_
      exact bpX9_has_T_30 x S 1 _ _ hm
theorem gpX9_has_T (x : XT) (S : ST) (p0 : Nat) (p1 : Int32) (p2 : Int32) (r : Int32) (S' : ST) (hm : gfX9_has_T x S p0 p1 p2 = some (r, S')) : Ct mX9_has 1 0 0 [.ref p0, .int p1, .int p2] (mkS x S) (fun v h => v = some (.int r) ∧ h = mkS x S') :=
  Ct.of (lv := [some (.ref p0), some (.int p1), some (.int p2)]) rfl rfl rfl (show (_ : Nat) ≤ _ from Nat.le_of_ble_eq_true rfl) (fun G => rfl) (bpX9_has_T_0 x S p0 p1 p2 r S' hm)
set_option maxHeartbeats 4000000 in
set_option maxRecDepth 20000 in
theorem bpX7_hasLaw_1_17 (x : XT)  (S : ST) (t0 : Int32) (r : Int32) (S' : ST) (hm : bfX7_hasLaw_1_17 x  S t0 = some (r, S')) : Ev mX7_hasLaw 1 0 0 17 [none, none] [.int t0] (mkS x S) (fun v h => v = some (.int r) ∧ h = mkS x S') := by
    unfold bfX7_hasLaw_1_17 at hm
    obtain ⟨o1, hm⟩ := oblk hm
    cases hm
    exact Ev.retz tokX7_hasLaw rfl rfl (bbz_ok o1) ⟨rfl, rfl⟩
set_option maxHeartbeats 4000000 in
set_option maxRecDepth 20000 in
theorem bpX7_hasLaw_1_16 (x : XT)  (S : ST)  (r : Int32) (S' : ST) (hm : bfX7_hasLaw_1_16 x  S  = some (r, S')) : Ev mX7_hasLaw 1 0 0 16 [none, none] [] (mkS x S) (fun v h => v = some (.int r) ∧ h = mkS x S') := by
    unfold bfX7_hasLaw_1_16 at hm
    refine Ev.steps tokX7_hasLaw 1 (P := True) (pc' := 17) (lv' := [none, none]) (st' := [.int 0]) (h' := mkS x S) rfl trivial ?_
    exact bpX7_hasLaw_1_17 x S 0 _ _ hm
set_option maxHeartbeats 4000000 in
set_option maxRecDepth 20000 in
theorem bpX7_hasLaw_1_0 (x : XT)  (S : ST) (p1 : Int32) (r : Int32) (S' : ST) (hm : bfX7_hasLaw_1_0 x  S p1 = some (r, S')) : Ev mX7_hasLaw 1 0 0 0 [some (.ref 1), some (.int p1)] [] (mkS x S) (fun v h => v = some (.int r) ∧ h = mkS x S') := by
    unfold bfX7_hasLaw_1_0 at hm
    refine Ev.steps tokX7_hasLaw 2 (P := True) (pc' := if p1 < 0 then 16 else 4) (lv' := [some (.ref 1), some (.int p1)]) (st' := []) (h' := mkS x S) rfl trivial ?_
    refine Ev.ite (fun c1 => ?_) (fun c1 => ?_)
    · rw [if_pos c1] at hm
      refine Ev.fgt (lv' := [none, none]) trivial ?_
      exact bpX7_hasLaw_1_16 x S _ _ hm
    · rw [if_neg c1] at hm
      refine Ev.steps tokX7_hasLaw 4 (P := True) (pc' := if (S.1 1 16) ≤ p1 then 16 else 12) (lv' := [some (.ref 1), some (.int p1)]) (st' := []) (h' := mkS x S) rfl trivial ?_
      refine Ev.ite (fun c2 => ?_) (fun c2 => ?_)
      · rw [if_pos c2] at hm
        refine Ev.fgt (lv' := [none, none]) trivial ?_
        exact bpX7_hasLaw_1_16 x S _ _ hm
      · rw [if_neg c2] at hm
        refine Ev.steps tokX7_hasLaw 2 (P := True) (pc' := 17) (lv' := [some (.ref 1), some (.int p1)]) (st' := [.int 1]) (h' := mkS x S) rfl trivial ?_
        refine Ev.fgt (lv' := [none, none]) trivial ?_
        exact bpX7_hasLaw_1_17 x S 1 _ _ hm
theorem gpX7_hasLaw_1 (x : XT) (S : ST) (p1 : Int32) (r : Int32) (S' : ST) (hm : gfX7_hasLaw_1 x S p1 = some (r, S')) : Ct mX7_hasLaw 1 0 0 [.ref 1, .int p1] (mkS x S) (fun v h => v = some (.int r) ∧ h = mkS x S') :=
  Ct.of (lv := [some (.ref 1), some (.int p1)]) rfl rfl rfl (show (_ : Nat) ≤ _ from Nat.le_of_ble_eq_true rfl) (fun G => rfl) (bpX7_hasLaw_1_0 x S p1 r S' hm)
set_option maxHeartbeats 4000000 in
set_option maxRecDepth 20000 in
theorem bpX7_inForce_1_24 (x : XT)  (S : ST) (t0 : Option Nat) (r : Option Nat) (S' : ST) (hm : bfX7_inForce_1_24 x  S t0 = some (r, S')) : Ev mX7_inForce 2 0 0 24 [none] [va_rf t0] (mkS x S) (fun v h => v = some (va_rf r) ∧ h = mkS x S') := by
    unfold bfX7_inForce_1_24 at hm
    cases hm
    exact Ev.retr tokX7_inForce rfl rfl ⟨rfl, rfl⟩
set_option maxHeartbeats 4000000 in
set_option maxRecDepth 20000 in
theorem bpX7_inForce_1_0 (x : XT)  (S : ST)  (r : Option Nat) (S' : ST) (hm : bfX7_inForce_1_0 x  S  = some (r, S')) : Ev mX7_inForce 2 0 0 0 [some (.ref 1)] [] (mkS x S) (fun v h => v = some (va_rf r) ∧ h = mkS x S') := by
    unfold bfX7_inForce_1_0 at hm
    refine Ev.steps tokX7_inForce 3 (P := True) (pc' := 5) (lv' := [some (.ref 1)]) (st' := [.int (S.1 1 18), .ref 1]) (h' := mkS x S) rfl trivial ?_
    cases h1 : gfX7_hasLaw_1 x S (S.1 1 18) with
    | none => rw [h1] at hm; cases hm
    | some q2 =>
      obtain ⟨r3, S4⟩ := q2
      rw [h1] at hm
      dsimp only at hm
      refine ev_callV (N := mX7_hasLaw) (d' := 1) (bc := 0) (bs := 0) (bc' := 0) (bs' := 0) (as := [.int (S.1 1 18)]) (rest := []) (a := 1) (ci := 7) (dcd tokX7_inForce rfl) okX7_hasLaw inX7_hasLaw seX7_hasLaw lk7_74 rfl (by decide) (Nat.le_of_ble_eq_true rfl) rfl ⟨by decide, rfl⟩ (gpX7_hasLaw_1 x S (S.1 1 18) _ _ h1) (fun v h' hq hn => ?_)
      obtain ⟨rfl, rfl⟩ := hq
      refine Ev.steps tokX7_inForce 1 (P := True) (pc' := if r3 = 0 then 23 else 11) (lv' := [some (.ref 1)]) (st' := []) (h' := mkS x S4) rfl trivial ?_
      refine Ev.ite (fun c5 => ?_) (fun c5 => ?_)
      · rw [if_pos c5] at hm
        refine Ev.steps tokX7_inForce 1 (P := True) (pc' := 24) (lv' := [some (.ref 1)]) (st' := [.null]) (h' := mkS x S4) rfl trivial ?_
        refine Ev.fgt (lv' := [none]) trivial ?_
        exact bpX7_inForce_1_24 x S4 none _ _ hm
      · rw [if_neg c5] at hm
        obtain ⟨o6, hm⟩ := oblk hm
        refine Ev.steps tokX7_inForce 6 (P := vp_in (S4.1 1 18) 6 ∧ True) (pc' := 24) (lv' := [some (.ref 1)]) (st' := [va_rf (S4.2.2.2 15 ((S4.1 1 18).toNatClampNeg))]) (h' := mkS x S4) rfl ⟨inb_ok o6, trivial⟩ ?_
        refine Ev.fgt (lv' := [none]) trivial ?_
        exact bpX7_inForce_1_24 x S4 (S4.2.2.2 15 ((S4.1 1 18).toNatClampNeg)) _ _ hm
theorem gpX7_inForce_1 (x : XT) (S : ST)  (r : Option Nat) (S' : ST) (hm : gfX7_inForce_1 x S  = some (r, S')) : Ct mX7_inForce 2 0 0 [.ref 1] (mkS x S) (fun v h => v = some (va_rf r) ∧ h = mkS x S') :=
  Ct.of (lv := [some (.ref 1)]) rfl rfl rfl (show (_ : Nat) ≤ _ from Nat.le_of_ble_eq_true rfl) (fun G => rfl) (bpX7_inForce_1_0 x S  r S' hm)
set_option maxHeartbeats 4000000 in
set_option maxRecDepth 20000 in
theorem bpX0_told_20_1_171 (x : XT)  (S : ST) (t0 : Int32) (r : Int32) (S' : ST) (hm : bfX0_told_20_1_171 x  S t0 = some (r, S')) : Ev mX0_told 3 0 0 171 [none, none, none, none, none, none] [.int t0] (mkS x S) (fun v h => v = some (.int r) ∧ h = mkS x S') := by
    unfold bfX0_told_20_1_171 at hm
    cases hm
    exact Ev.reti tokX0_told rfl rfl ⟨rfl, rfl⟩
set_option maxHeartbeats 4000000 in
set_option maxRecDepth 20000 in
theorem bpX0_told_20_1_192 (x : XT)  (S : ST) (t0 : Int32) (r : Int32) (S' : ST) (hm : bfX0_told_20_1_192 x  S t0 = some (r, S')) : Ev mX0_told 3 0 0 192 [none, none, none, none, none, none] [.int t0] (mkS x S) (fun v h => v = some (.int r) ∧ h = mkS x S') := by
    unfold bfX0_told_20_1_192 at hm
    cases hm
    exact Ev.reti tokX0_told rfl rfl ⟨rfl, rfl⟩
set_option maxHeartbeats 4000000 in
set_option maxRecDepth 20000 in
theorem bpX0_told_20_1_204 (x : XT)  (S : ST) (t0 : Int32) (r : Int32) (S' : ST) (hm : bfX0_told_20_1_204 x  S t0 = some (r, S')) : Ev mX0_told 3 0 0 204 [none, none, none, none, none, none] [.int t0] (mkS x S) (fun v h => v = some (.int r) ∧ h = mkS x S') := by
    unfold bfX0_told_20_1_204 at hm
    cases hm
    exact Ev.reti tokX0_told rfl rfl ⟨rfl, rfl⟩
set_option maxHeartbeats 4000000 in
set_option maxRecDepth 20000 in
theorem bpX0_told_20_1_111 (x : XT)  (S : ST) (v2 : Int32) (v3 : Int32) (r : Int32) (S' : ST) (hm : bfX0_told_20_1_111 x  S v2 v3 = some (r, S')) : Ev mX0_told 3 0 0 111 [some (.ref 20), none, some (.int v2), some (.int v3), none, none] [] (mkS x S) (fun v h => v = some (.int r) ∧ h = mkS x S') := by
    unfold bfX0_told_20_1_111 at hm
    refine Ev.steps tokX0_told 1 (P := True) (pc' := 112) (lv' := [some (.ref 20), none, some (.int v2), some (.int v3), none, none]) (st' := [.int v2]) (h' := mkS x S) rfl trivial ?_
    by_cases c1 : v2 = 260
    · rw [if_pos c1] at hm
      refine ev_look (off := 28) (t := 140) (dcd tokX0_told rfl) (by decide) (by rw [c1]; decide) rfl ?_
      refine Ev.steps tokX0_told 3 (P := True) (pc' := if ¬ v3 = (-2000000000) then 161 else 146) (lv' := [some (.ref 20), none, some (.int v2), some (.int v3), none, none]) (st' := []) (h' := mkS x S) rfl trivial ?_
      refine Ev.ite (fun c2 => ?_) (fun c2 => ?_)
      · rw [if_pos c2] at hm
        refine Ev.steps tokX0_told 3 (P := True) (pc' := 165) (lv' := [some (.ref 20), none, some (.int v2), some (.int v3), none, none]) (st' := [.int 19, .int v3, .int 0]) (h' := mkS x S) rfl trivial ?_
        refine ev_min (dcd tokX0_told rfl) lk0_67 mt_min.1 mt_in.1 mt_min.2 (by decide) (Nat.le_of_ble_eq_true rfl) ?_
        refine ev_max (dcd tokX0_told rfl) lk0_61 mt_max.1 mt_in.1 mt_max.2 (by decide) (Nat.le_of_ble_eq_true rfl) ?_
        refine Ev.fgt (lv' := [none, none, none, none, none, none]) trivial ?_
        exact bpX0_told_20_1_171 x S (if 0 < (if 19 < v3 then 19 else v3) then (if 19 < v3 then 19 else v3) else 0) _ _ hm
      · rw [if_neg c2] at hm
        refine Ev.steps tokX0_told 7 (P := vp_in 2 8 ∧ True) (pc' := 155) (lv' := [some (.ref 20), none, some (.int v2), some (.int v3), none, none]) (st' := [.int 0, .int ((S.2.1 21 2) - 1)]) (h' := mkS x S) rfl ⟨(by unfold vp_in; decide), trivial⟩ ?_
        refine ev_max (dcd tokX0_told rfl) lk0_61 mt_max.1 mt_in.1 mt_max.2 (by decide) (Nat.le_of_ble_eq_true rfl) ?_
        refine Ev.steps tokX0_told 1 (P := True) (pc' := 171) (lv' := [some (.ref 20), none, some (.int v2), some (.int v3), none, none]) (st' := [.int (if ((S.2.1 21 2) - 1) < 0 then 0 else ((S.2.1 21 2) - 1))]) (h' := mkS x S) rfl trivial ?_
        refine Ev.fgt (lv' := [none, none, none, none, none, none]) trivial ?_
        exact bpX0_told_20_1_171 x S (if ((S.2.1 21 2) - 1) < 0 then 0 else ((S.2.1 21 2) - 1)) _ _ hm
    rw [if_neg c1] at hm
    by_cases c3 : v2 = 261
    · rw [if_pos c3] at hm
      refine ev_look (off := 60) (t := 172) (dcd tokX0_told rfl) (by decide) (by rw [c3]; decide) rfl ?_
      refine Ev.steps tokX0_told 3 (P := True) (pc' := if ¬ v3 = (-2000000000) then 182 else 178) (lv' := [some (.ref 20), none, some (.int v2), some (.int v3), none, none]) (st' := []) (h' := mkS x S) rfl trivial ?_
      refine Ev.ite (fun c4 => ?_) (fun c4 => ?_)
      · rw [if_pos c4] at hm
        refine Ev.steps tokX0_told 3 (P := True) (pc' := 186) (lv' := [some (.ref 20), none, some (.int v2), some (.int v3), none, none]) (st' := [.int 9, .int v3, .int 0]) (h' := mkS x S) rfl trivial ?_
        refine ev_min (dcd tokX0_told rfl) lk0_67 mt_min.1 mt_in.1 mt_min.2 (by decide) (Nat.le_of_ble_eq_true rfl) ?_
        refine ev_max (dcd tokX0_told rfl) lk0_61 mt_max.1 mt_in.1 mt_max.2 (by decide) (Nat.le_of_ble_eq_true rfl) ?_
        refine Ev.fgt (lv' := [none, none, none, none, none, none]) trivial ?_
        exact bpX0_told_20_1_192 x S (if 0 < (if 9 < v3 then 9 else v3) then (if 9 < v3 then 9 else v3) else 0) _ _ hm
      · rw [if_neg c4] at hm
        refine Ev.steps tokX0_told 2 (P := True) (pc' := 192) (lv' := [some (.ref 20), none, some (.int v2), some (.int v3), none, none]) (st' := [.int 1]) (h' := mkS x S) rfl trivial ?_
        refine Ev.fgt (lv' := [none, none, none, none, none, none]) trivial ?_
        exact bpX0_told_20_1_192 x S 1 _ _ hm
    rw [if_neg c3] at hm
    refine ev_look (off := 81) (t := 193) (dcd tokX0_told rfl) (by decide) ((lv_osw c1 (show (260 : Int32).toInt = 260 from by decide)).trans ((lv_osw c3 (show (261 : Int32).toInt = 261 from by decide)).trans (rfl))) rfl ?_
    refine Ev.steps tokX0_told 3 (P := True) (pc' := if ¬ v3 = (-2000000000) then 203 else 199) (lv' := [some (.ref 20), none, some (.int v2), some (.int v3), none, none]) (st' := []) (h' := mkS x S) rfl trivial ?_
    refine Ev.ite (fun c5 => ?_) (fun c5 => ?_)
    · rw [if_pos c5] at hm
      refine Ev.steps tokX0_told 1 (P := True) (pc' := 204) (lv' := [some (.ref 20), none, some (.int v2), some (.int v3), none, none]) (st' := [.int 1]) (h' := mkS x S) rfl trivial ?_
      refine Ev.fgt (lv' := [none, none, none, none, none, none]) trivial ?_
      exact bpX0_told_20_1_204 x S 1 _ _ hm
    · rw [if_neg c5] at hm
      refine Ev.steps tokX0_told 2 (P := True) (pc' := 204) (lv' := [some (.ref 20), none, some (.int v2), some (.int v3), none, none]) (st' := [.int 0]) (h' := mkS x S) rfl trivial ?_
      refine Ev.fgt (lv' := [none, none, none, none, none, none]) trivial ?_
      exact bpX0_told_20_1_204 x S 0 _ _ hm
set_option maxHeartbeats 4000000 in
set_option maxRecDepth 20000 in
theorem bpX0_told_20_1_105 (x : XT) (k23 : ST → Int32 → Int32 → Nat → Int32 → Option (Int32 × ST)) (hk23 : ∀ (S : ST) (v2 : Int32) (v3 : Int32) (v4 : Nat) (v5 : Int32) (r : Int32) (S' : ST), k23 S v2 v3 v4 v5 = some (r, S') → Ev mX0_told 3 0 0 23 [some (.ref 20), none, some (.int v2), some (.int v3), some (.ref v4), some (.int v5)] [] (mkS x S) (fun v h => v = some (.int r) ∧ h = mkS x S')) (S : ST) (v2 : Int32) (v3 : Int32) (v4 : Nat) (v5 : Int32) (r : Int32) (S' : ST) (hm : bfX0_told_20_1_105 x k23 S v2 v3 v4 v5 = some (r, S')) : Ev mX0_told 3 0 0 105 [some (.ref 20), none, some (.int v2), some (.int v3), some (.ref v4), some (.int v5)] [] (mkS x S) (fun v h => v = some (.int r) ∧ h = mkS x S') := by
    unfold bfX0_told_20_1_105 at hm
    obtain ⟨o1, hm⟩ := oblk hm
    obtain ⟨f9_v4, r2_v4, r3_v4, r4_v4, r5_v4, a1_v4, a2_v4, a3_v4, a4_v4⟩ := tx_ok o1
    refine Ev.steps tokX0_told 2 (P := True) (pc' := 23) (lv' := [some (.ref 20), none, some (.int v2), some (.int v3), some (.ref v4), some (.int (v5 + (-1)))]) (st' := []) (h' := mkS x S) rfl trivial ?_
    exact hk23 S v2 v3 v4 (v5 + (-1)) _ _ hm
set_option maxHeartbeats 4000000 in
set_option maxRecDepth 20000 in
theorem bpX0_told_20_1_104 (x : XT) (k23 : ST → Int32 → Int32 → Nat → Int32 → Option (Int32 × ST)) (hk23 : ∀ (S : ST) (v2 : Int32) (v3 : Int32) (v4 : Nat) (v5 : Int32) (r : Int32) (S' : ST), k23 S v2 v3 v4 v5 = some (r, S') → Ev mX0_told 3 0 0 23 [some (.ref 20), none, some (.int v2), some (.int v3), some (.ref v4), some (.int v5)] [] (mkS x S) (fun v h => v = some (.int r) ∧ h = mkS x S')) (S : ST) (v2 : Int32) (v4 : Nat) (v5 : Int32) (t0 : Int32) (r : Int32) (S' : ST) (hm : bfX0_told_20_1_104 x k23 S v2 v4 v5 t0 = some (r, S')) : Ev mX0_told 3 0 0 104 [some (.ref 20), none, some (.int v2), none, some (.ref v4), some (.int v5)] [.int t0] (mkS x S) (fun v h => v = some (.int r) ∧ h = mkS x S') := by
    unfold bfX0_told_20_1_104 at hm
    obtain ⟨o1, hm⟩ := oblk hm
    obtain ⟨f9_v4, r2_v4, r3_v4, r4_v4, r5_v4, a1_v4, a2_v4, a3_v4, a4_v4⟩ := tx_ok o1
    refine Ev.steps tokX0_told 1 (P := True) (pc' := 105) (lv' := [some (.ref 20), none, some (.int v2), some (.int t0), some (.ref v4), some (.int v5)]) (st' := []) (h' := mkS x S) rfl trivial ?_
    exact bpX0_told_20_1_105 x k23 hk23 S v2 t0 v4 v5 _ _ hm
set_option maxHeartbeats 4000000 in
set_option maxRecDepth 20000 in
theorem bpX0_told_20_1_77 (x : XT) (k23 : ST → Int32 → Int32 → Nat → Int32 → Option (Int32 × ST)) (hk23 : ∀ (S : ST) (v2 : Int32) (v3 : Int32) (v4 : Nat) (v5 : Int32) (r : Int32) (S' : ST), k23 S v2 v3 v4 v5 = some (r, S') → Ev mX0_told 3 0 0 23 [some (.ref 20), none, some (.int v2), some (.int v3), some (.ref v4), some (.int v5)] [] (mkS x S) (fun v h => v = some (.int r) ∧ h = mkS x S')) (S : ST) (v2 : Int32) (v4 : Nat) (v5 : Int32) (r : Int32) (S' : ST) (hm : bfX0_told_20_1_77 x k23 S v2 v4 v5 = some (r, S')) : Ev mX0_told 3 0 0 77 [some (.ref 20), none, some (.int v2), none, some (.ref v4), some (.int v5)] [] (mkS x S) (fun v h => v = some (.int r) ∧ h = mkS x S') := by
    unfold bfX0_told_20_1_77 at hm
    obtain ⟨o1, hm⟩ := oblk hm
    obtain ⟨f9_v4, r2_v4, r3_v4, r4_v4, r5_v4, a1_v4, a2_v4, a3_v4, a4_v4⟩ := tx_ok o1
    refine Ev.steps tokX0_told 3 (P := True) (pc' := if ¬ v2 = 262 then 88 else 84) (lv' := [some (.ref 20), none, some (.int v2), none, some (.ref v4), some (.int v5)]) (st' := []) (h' := mkS x S) rfl trivial ?_
    refine Ev.ite (fun c2 => ?_) (fun c2 => ?_)
    · rw [if_pos c2] at hm
      refine Ev.steps tokX0_told 7 (P := True) (pc' := 101) (lv' := [some (.ref 20), none, some (.int v2), none, some (.ref v4), some (.int v5)]) (st' := [.ref 22, .ref 21, .int 0, .int v5, .ref v4]) (h' := mkS x S) rfl trivial ?_
      cases h3 : gfX9_reckon_T_21_22 x S v4 v5 0 with
      | none => rw [h3] at hm; cases hm
      | some q4 =>
        obtain ⟨r5, S6⟩ := q4
        rw [h3] at hm
        dsimp only at hm
        refine ev_callV (N := mX9_reckon) (d' := 2) (bc := 0) (bs := 0) (bc' := 0) (bs' := 0) (as := [.int v5, .int 0, .ref 21, .ref 22]) (rest := []) (a := v4) (ci := 9) (dcd tokX0_told rfl) okX9_reckon inX9_reckon seX9_reckon lk0_57 rfl (by decide) (Nat.le_of_ble_eq_true rfl) f9_v4 ⟨by decide, rfl⟩ (gpX9_reckon_T_21_22 x S v4 v5 0 _ _ h3) (fun v h' hq hn => ?_)
        obtain ⟨rfl, rfl⟩ := hq
        exact bpX0_told_20_1_104 x k23 hk23 S6 v2 v4 v5 r5 _ _ hm
    · rw [if_neg c2] at hm
      refine Ev.steps tokX0_told 2 (P := True) (pc' := 104) (lv' := [some (.ref 20), none, some (.int v2), none, some (.ref v4), some (.int v5)]) (st' := [.int 1]) (h' := mkS x S) rfl trivial ?_
      exact bpX0_told_20_1_104 x k23 hk23 S v2 v4 v5 1 _ _ hm
set_option maxHeartbeats 4000000 in
set_option maxRecDepth 20000 in
theorem bpX0_told_20_1_23 (x : XT) (k23 : ST → Int32 → Int32 → Nat → Int32 → Option (Int32 × ST)) (hk23 : ∀ (S : ST) (v2 : Int32) (v3 : Int32) (v4 : Nat) (v5 : Int32) (r : Int32) (S' : ST), k23 S v2 v3 v4 v5 = some (r, S') → Ev mX0_told 3 0 0 23 [some (.ref 20), none, some (.int v2), some (.int v3), some (.ref v4), some (.int v5)] [] (mkS x S) (fun v h => v = some (.int r) ∧ h = mkS x S')) (S : ST) (v2 : Int32) (v3 : Int32) (v4 : Nat) (v5 : Int32) (r : Int32) (S' : ST) (hm : bfX0_told_20_1_23 x k23 S v2 v3 v4 v5 = some (r, S')) : Ev mX0_told 3 0 0 23 [some (.ref 20), none, some (.int v2), some (.int v3), some (.ref v4), some (.int v5)] [] (mkS x S) (fun v h => v = some (.int r) ∧ h = mkS x S') := by
    unfold bfX0_told_20_1_23 at hm
    obtain ⟨o1, hm⟩ := oblk hm
    obtain ⟨f9_v4, r2_v4, r3_v4, r4_v4, r5_v4, a1_v4, a2_v4, a3_v4, a4_v4⟩ := tx_ok o1
    refine Ev.steps tokX0_told 2 (P := True) (pc' := if v5 < 0 then 111 else 28) (lv' := [some (.ref 20), none, some (.int v2), some (.int v3), some (.ref v4), some (.int v5)]) (st' := []) (h' := mkS x S) rfl trivial ?_
    refine Ev.ite (fun c2 => ?_) (fun c2 => ?_)
    · rw [if_pos c2] at hm
      refine Ev.fgt (lv' := [some (.ref 20), none, some (.int v2), some (.int v3), none, none]) ⟨rfl, rfl, rfl, trivial⟩ ?_
      exact bpX0_told_20_1_111 x S v2 v3 _ _ hm
    · rw [if_neg c2] at hm
      refine Ev.steps tokX0_told 3 (P := True) (pc' := if ¬ v3 = (-2000000000) then 111 else 34) (lv' := [some (.ref 20), none, some (.int v2), some (.int v3), some (.ref v4), some (.int v5)]) (st' := []) (h' := mkS x S) rfl trivial ?_
      refine Ev.ite (fun c3 => ?_) (fun c3 => ?_)
      · rw [if_pos c3] at hm
        refine Ev.fgt (lv' := [some (.ref 20), none, some (.int v2), some (.int v3), none, none]) ⟨rfl, rfl, rfl, trivial⟩ ?_
        exact bpX0_told_20_1_111 x S v2 v3 _ _ hm
      · rw [if_neg c3] at hm
        refine Ev.steps tokX0_told 1 (P := True) (pc' := 36) (lv' := [some (.ref 20), none, some (.int v2), some (.int v3), some (.ref v4), some (.int v5)]) (st' := [.ref v4]) (h' := mkS x S) rfl trivial ?_
        refine ev_getR (dcd tokX0_told rfl) rfl f9_v4 rfl r2_v4 ?_
        refine Ev.steps tokX0_told 1 (P := True) (pc' := 41) (lv' := [some (.ref 20), none, some (.int v2), some (.int v3), some (.ref v4), some (.int v5)]) (st' := [.int v5, .ref (v4 + 1)]) (h' := mkS x S) rfl trivial ?_
        obtain ⟨o4, hm⟩ := oblk hm
        refine ev_iald (dcd tokX0_told rfl) a1_v4 (inb_ok o4) ?_
        refine Ev.steps tokX0_told 2 (P := True) (pc' := if ¬ (S.2.1 (v4 + 1) v5.toNatClampNeg) = v2 then 105 else 46) (lv' := [some (.ref 20), none, some (.int v2), some (.int v3), some (.ref v4), some (.int v5)]) (st' := []) (h' := mkS x S) rfl trivial ?_
        refine Ev.ite (fun c5 => ?_) (fun c5 => ?_)
        · rw [if_pos c5] at hm
          exact bpX0_told_20_1_105 x k23 hk23 S v2 v3 v4 v5 _ _ hm
        · rw [if_neg c5] at hm
          refine Ev.steps tokX0_told 3 (P := True) (pc' := 51) (lv' := [some (.ref 20), none, some (.int v2), some (.int v3), some (.ref v4), some (.int v5)]) (st' := [.int 2, .int v5, .ref v4]) (h' := mkS x S) rfl trivial ?_
          cases h6 : gfX9_has_T x S v4 v5 2 with
          | none => rw [h6] at hm; cases hm
          | some q7 =>
            obtain ⟨r8, S9⟩ := q7
            rw [h6] at hm
            dsimp only at hm
            refine ev_callV (N := mX9_has) (d' := 1) (bc := 0) (bs := 0) (bc' := 0) (bs' := 0) (as := [.int v5, .int 2]) (rest := []) (a := v4) (ci := 9) (dcd tokX0_told rfl) okX9_has inX9_has seX9_has lk0_53 rfl (by decide) (Nat.le_of_ble_eq_true rfl) f9_v4 ⟨by decide, rfl⟩ (gpX9_has_T x S v4 v5 2 _ _ h6) (fun v h' hq hn => ?_)
            obtain ⟨rfl, rfl⟩ := hq
            refine Ev.steps tokX0_told 1 (P := True) (pc' := if r8 = 0 then 77 else 57) (lv' := [some (.ref 20), none, some (.int v2), some (.int v3), some (.ref v4), some (.int v5)]) (st' := []) (h' := mkS x S9) rfl trivial ?_
            refine Ev.ite (fun c10 => ?_) (fun c10 => ?_)
            · rw [if_pos c10] at hm
              refine Ev.fgt (lv' := [some (.ref 20), none, some (.int v2), none, some (.ref v4), some (.int v5)]) ⟨rfl, rfl, rfl, rfl, trivial⟩ ?_
              exact bpX0_told_20_1_77 x k23 hk23 S9 v2 v4 v5 _ _ hm
            · rw [if_neg c10] at hm
              refine Ev.steps tokX0_told 7 (P := True) (pc' := 70) (lv' := [some (.ref 20), none, some (.int v2), some (.int v3), some (.ref v4), some (.int v5)]) (st' := [.ref 22, .ref 21, .int 2, .int v5, .ref v4]) (h' := mkS x S9) rfl trivial ?_
              cases h11 : gfX9_reckon_T_21_22 x S9 v4 v5 2 with
              | none => rw [h11] at hm; cases hm
              | some q12 =>
                obtain ⟨r13, S14⟩ := q12
                rw [h11] at hm
                dsimp only at hm
                refine ev_callV (N := mX9_reckon) (d' := 2) (bc := 0) (bs := 0) (bc' := 0) (bs' := 0) (as := [.int v5, .int 2, .ref 21, .ref 22]) (rest := []) (a := v4) (ci := 9) (dcd tokX0_told rfl) okX9_reckon inX9_reckon seX9_reckon lk0_57 rfl (by decide) (Nat.le_of_ble_eq_true rfl) f9_v4 ⟨by decide, rfl⟩ (gpX9_reckon_T_21_22 x S9 v4 v5 2 _ _ h11) (fun v h' hq hn => ?_)
                obtain ⟨rfl, rfl⟩ := hq
                refine Ev.steps tokX0_told 2 (P := True) (pc' := if ¬ r13 = 1 then 105 else 77) (lv' := [some (.ref 20), none, some (.int v2), some (.int v3), some (.ref v4), some (.int v5)]) (st' := []) (h' := mkS x S14) rfl trivial ?_
                refine Ev.ite (fun c15 => ?_) (fun c15 => ?_)
                · rw [if_pos c15] at hm
                  exact bpX0_told_20_1_105 x k23 hk23 S14 v2 v3 v4 v5 _ _ hm
                · rw [if_neg c15] at hm
                  refine Ev.fgt (lv' := [some (.ref 20), none, some (.int v2), none, some (.ref v4), some (.int v5)]) ⟨rfl, rfl, rfl, rfl, trivial⟩ ?_
                  exact bpX0_told_20_1_77 x k23 hk23 S14 v2 v4 v5 _ _ hm
theorem lpX0_told_20_1_23 (x : XT)  : ∀ (n : Nat) (S : ST) (v2 : Int32) (v3 : Int32) (v4 : Nat) (v5 : Int32) (r : Int32) (S' : ST), lfX0_told_20_1_23 x  n S v2 v3 v4 v5 = some (r, S') → Ev mX0_told 3 0 0 23 [some (.ref 20), none, some (.int v2), some (.int v3), some (.ref v4), some (.int v5)] [] (mkS x S) (fun v h => v = some (.int r) ∧ h = mkS x S')
  | 0, _, _, _, _, _, _, _, hm => by cases hm
  | n + 1, S, v2, v3, v4, v5, r, S', hm => bpX0_told_20_1_23 x (lfX0_told_20_1_23 x  n) (lpX0_told_20_1_23 x  n) S v2 v3 v4 v5 r S' hm
set_option maxHeartbeats 4000000 in
set_option maxRecDepth 20000 in
theorem bpX0_told_20_1_0 (x : XT)  (S : ST) (p2 : Int32) (r : Int32) (S' : ST) (hm : bfX0_told_20_1_0 x  S p2 = some (r, S')) : Ev mX0_told 3 0 0 0 [some (.ref 20), some (.ref 1), some (.int p2), none, none, none] [] (mkS x S) (fun v h => v = some (.int r) ∧ h = mkS x S') := by
    unfold bfX0_told_20_1_0 at hm
    refine Ev.steps tokX0_told 3 (P := True) (pc' := 4) (lv' := [some (.ref 20), some (.ref 1), some (.int p2), some (.int (-2000000000)), none, none]) (st' := [.ref 1]) (h' := mkS x S) rfl trivial ?_
    cases h1 : gfX7_inForce_1 x S with
    | none => rw [h1] at hm; cases hm
    | some q2 =>
      obtain ⟨r3, S4⟩ := q2
      rw [h1] at hm
      dsimp only at hm
      refine ev_callV (N := mX7_inForce) (d' := 2) (bc := 0) (bs := 0) (bc' := 0) (bs' := 0) (as := []) (rest := []) (a := 1) (ci := 7) (dcd tokX0_told rfl) okX7_inForce inX7_inForce seX7_inForce lk0_40 rfl (by decide) (Nat.le_of_ble_eq_true rfl) rfl ⟨by decide, rfl⟩ (gpX7_inForce_1 x S _ _ h1) (fun v h' hq hn => ?_)
      obtain ⟨rfl, rfl⟩ := hq
      refine ev_astoreQ (r := r3) (dcd tokX0_told rfl) (by decide) ?_
      refine ev_aloadQ (r := r3) (dcd tokX0_told rfl) rfl ?_
      refine ev_ifnullQ (r := r3) (t := 111) (dcd tokX0_told rfl) rfl (fun hz => ?_) (fun t5 hz => ?_)
      · rw [hz] at hm ⊢
        refine Ev.fgt (lv' := [some (.ref 20), none, some (.int p2), some (.int (-2000000000)), none, none]) ⟨rfl, rfl, rfl, trivial⟩ ?_
        exact bpX0_told_20_1_111 x S4 p2 (-2000000000) _ _ hm
      · rw [hz] at hm ⊢
        obtain ⟨o6, hm⟩ := oblk hm
        obtain ⟨f9_t5, r2_t5, r3_t5, r4_t5, r5_t5, a1_t5, a2_t5, a3_t5, a4_t5⟩ := tx_ok o6
        refine Ev.steps tokX0_told 1 (P := True) (pc' := 16) (lv' := [some (.ref 20), some (.ref 1), some (.int p2), some (.int (-2000000000)), some (.ref t5), none]) (st' := [.ref t5]) (h' := mkS x S4) rfl trivial ?_
        refine ev_getI (dcd tokX0_told rfl) rfl f9_t5 rfl ?_
        refine Ev.steps tokX0_told 3 (P := True) (pc' := 23) (lv' := [some (.ref 20), some (.ref 1), some (.int p2), some (.int (-2000000000)), some (.ref t5), some (.int ((S4.1 t5 0) - 1))]) (st' := []) (h' := mkS x S4) rfl trivial ?_
        refine Ev.fgt (lv' := [some (.ref 20), none, some (.int p2), some (.int (-2000000000)), some (.ref t5), some (.int ((S4.1 t5 0) - 1))]) ⟨rfl, rfl, rfl, rfl, rfl, trivial⟩ ?_
        exact lpX0_told_20_1_23 x  20000 S4 p2 (-2000000000) t5 ((S4.1 t5 0) - 1) _ _ hm
theorem gpX0_told_20_1 (x : XT) (S : ST) (p2 : Int32) (r : Int32) (S' : ST) (hm : gfX0_told_20_1 x S p2 = some (r, S')) : Ct mX0_told 3 0 0 [.ref 20, .ref 1, .int p2] (mkS x S) (fun v h => v = some (.int r) ∧ h = mkS x S') :=
  Ct.of (lv := [some (.ref 20), some (.ref 1), some (.int p2), none, none, none]) rfl rfl rfl (show (_ : Nat) ≤ _ from Nat.le_of_ble_eq_true rfl) (fun G => rfl) (bpX0_told_20_1_0 x S p2 r S' hm)
set_option maxHeartbeats 4000000 in
set_option maxRecDepth 20000 in
theorem bpX0_can_20_1_24 (x : XT)  (S : ST)  (r : Int32) (S' : ST) (hm : bfX0_can_20_1_24 x  S  = some (r, S')) : Ev mX0_can 4 0 0 24 [none, none, none, none] [] (mkS x S) (fun v h => v = some (.int r) ∧ h = mkS x S') := by
    unfold bfX0_can_20_1_24 at hm
    refine Ev.steps tokX0_can 1 (P := True) (pc' := 25) (lv' := [none, none, none, none]) (st' := [.int 0]) (h' := mkS x S) rfl trivial ?_
    cases hm
    exact Ev.retz tokX0_can rfl rfl (Or.inl rfl) ⟨rfl, rfl⟩
set_option maxHeartbeats 4000000 in
set_option maxRecDepth 20000 in
theorem bpX0_can_20_1_55 (x : XT)  (S : ST) (t0 : Int32) (r : Int32) (S' : ST) (hm : bfX0_can_20_1_55 x  S t0 = some (r, S')) : Ev mX0_can 4 0 0 55 [none, none, none, none] [.int t0] (mkS x S) (fun v h => v = some (.int r) ∧ h = mkS x S') := by
    unfold bfX0_can_20_1_55 at hm
    obtain ⟨o1, hm⟩ := oblk hm
    cases hm
    exact Ev.retz tokX0_can rfl rfl (bbz_ok o1) ⟨rfl, rfl⟩
set_option maxHeartbeats 4000000 in
set_option maxRecDepth 20000 in
theorem bpX0_can_20_1_0 (x : XT)  (S : ST) (p2 : Int32) (p3 : Int32) (r : Int32) (S' : ST) (hm : bfX0_can_20_1_0 x  S p2 p3 = some (r, S')) : Ev mX0_can 4 0 0 0 [some (.ref 20), some (.ref 1), some (.int p2), some (.int p3)] [] (mkS x S) (fun v h => v = some (.int r) ∧ h = mkS x S') := by
    unfold bfX0_can_20_1_0 at hm
    obtain ⟨o1, hm⟩ := oblk hm
    obtain ⟨o2, hm⟩ := oblk hm
    refine Ev.steps tokX0_can 9 (P := vp_in p2 5 ∧ vp_in p3 10 ∧ True) (pc' := if ¬ (S.2.1 7 p2.toNatClampNeg) = (S.2.1 2 p3.toNatClampNeg) then 24 else 15) (lv' := [some (.ref 20), some (.ref 1), some (.int p2), some (.int p3)]) (st' := []) (h' := mkS x S) rfl ⟨inb_ok o1, inb_ok o2, trivial⟩ ?_
    refine Ev.ite (fun c3 => ?_) (fun c3 => ?_)
    · rw [if_pos c3] at hm
      refine Ev.fgt (lv' := [none, none, none, none]) trivial ?_
      exact bpX0_can_20_1_24 x S _ _ hm
    · rw [if_neg c3] at hm
      obtain ⟨o4, hm⟩ := oblk hm
      refine Ev.steps tokX0_can 5 (P := vp_in p3 10 ∧ True) (pc' := if ¬ (S.2.1 6 p3.toNatClampNeg) = 0 then 26 else 24) (lv' := [some (.ref 20), some (.ref 1), some (.int p2), some (.int p3)]) (st' := []) (h' := mkS x S) rfl ⟨inb_ok o4, trivial⟩ ?_
      refine Ev.ite (fun c5 => ?_) (fun c5 => ?_)
      · rw [if_pos c5] at hm
        obtain ⟨o6, hm⟩ := oblk hm
        refine Ev.steps tokX0_can 8 (P := vp_in p2 5 ∧ True) (pc' := 36) (lv' := [some (.ref 20), some (.ref 1), some (.int p2), some (.int p3)]) (st' := [.int (S.2.1 8 p2.toNatClampNeg), .int p3, .int p2, .ref 1, .ref 20]) (h' := mkS x S) rfl ⟨inb_ok o6, trivial⟩ ?_
        cases h7 : gfX0_regard_20_1 x S p2 p3 (S.2.1 8 p2.toNatClampNeg) with
        | none => rw [h7] at hm; cases hm
        | some q8 =>
          obtain ⟨r9, S10⟩ := q8
          rw [h7] at hm
          dsimp only at hm
          refine ev_callV (N := mX0_regard) (d' := 2) (bc := 0) (bs := 0) (bc' := 0) (bs' := 0) (as := [.ref 1, .int p2, .int p3, .int (S.2.1 8 p2.toNatClampNeg)]) (rest := []) (a := 20) (ci := 0) (dcd tokX0_can rfl) okX0_regard inX0_regard seX0_regard lk0_83 rfl (by decide) (Nat.le_of_ble_eq_true rfl) rfl ⟨by decide, rfl⟩ (gpX0_regard_20_1 x S p2 p3 (S.2.1 8 p2.toNatClampNeg) _ _ h7) (fun v h' hq hn => ?_)
          obtain ⟨rfl, rfl⟩ := hq
          refine Ev.steps tokX0_can 3 (P := True) (pc' := 44) (lv' := [some (.ref 20), some (.ref 1), some (.int p2), some (.int p3)]) (st' := [.int 262, .ref 1, .ref 20]) (h' := mkS x S10) rfl trivial ?_
          cases h11 : gfX0_told_20_1 x S10 262 with
          | none => rw [h11] at hm; cases hm
          | some q12 =>
            obtain ⟨r13, S14⟩ := q12
            rw [h11] at hm
            dsimp only at hm
            refine ev_callV (N := mX0_told) (d' := 3) (bc := 0) (bs := 0) (bc' := 0) (bs' := 0) (as := [.ref 1, .int 262]) (rest := []) (a := 20) (ci := 0) (dcd tokX0_can rfl) okX0_told inX0_told seX0_told lk0_86 rfl (by decide) (Nat.le_of_ble_eq_true rfl) rfl ⟨by decide, rfl⟩ (gpX0_told_20_1 x S10 262 _ _ h11) (fun v h' hq hn => ?_)
            obtain ⟨rfl, rfl⟩ := hq
            refine Ev.steps tokX0_can 1 (P := True) (pc' := if ¬ r13 = 0 then 54 else 50) (lv' := [some (.ref 20), some (.ref 1), some (.int p2), some (.int p3)]) (st' := []) (h' := mkS x S14) rfl trivial ?_
            refine Ev.ite (fun c15 => ?_) (fun c15 => ?_)
            · rw [if_pos c15] at hm
              refine Ev.steps tokX0_can 1 (P := True) (pc' := 55) (lv' := [some (.ref 20), some (.ref 1), some (.int p2), some (.int p3)]) (st' := [.int 0]) (h' := mkS x S14) rfl trivial ?_
              refine Ev.fgt (lv' := [none, none, none, none]) trivial ?_
              exact bpX0_can_20_1_55 x S14 0 _ _ hm
            · rw [if_neg c15] at hm
              refine Ev.steps tokX0_can 2 (P := True) (pc' := 55) (lv' := [some (.ref 20), some (.ref 1), some (.int p2), some (.int p3)]) (st' := [.int 1]) (h' := mkS x S14) rfl trivial ?_
              refine Ev.fgt (lv' := [none, none, none, none]) trivial ?_
              exact bpX0_can_20_1_55 x S14 1 _ _ hm
      · rw [if_neg c5] at hm
        refine Ev.fgt (lv' := [none, none, none, none]) trivial ?_
        exact bpX0_can_20_1_24 x S _ _ hm
theorem gpX0_can_20_1 (x : XT) (S : ST) (p2 : Int32) (p3 : Int32) (r : Int32) (S' : ST) (hm : gfX0_can_20_1 x S p2 p3 = some (r, S')) : Ct mX0_can 4 0 0 [.ref 20, .ref 1, .int p2, .int p3] (mkS x S) (fun v h => v = some (.int r) ∧ h = mkS x S') :=
  Ct.of (lv := [some (.ref 20), some (.ref 1), some (.int p2), some (.int p3)]) rfl rfl rfl (show (_ : Nat) ≤ _ from Nat.le_of_ble_eq_true rfl) (fun G => rfl) (bpX0_can_20_1_0 x S p2 p3 r S' hm)
set_option maxHeartbeats 4000000 in
set_option maxRecDepth 20000 in
theorem bpX0_canBits_20_1_32 (x : XT) (k5 : ST → Int32 → Int32 → Int32 → Option (Int32 × ST)) (hk5 : ∀ (S : ST) (v2 : Int32) (v3 : Int32) (v4 : Int32) (r : Int32) (S' : ST), k5 S v2 v3 v4 = some (r, S') → Ev mX0_canBits 5 0 0 5 [some (.ref 20), some (.ref 1), some (.int v2), some (.int v3), some (.int v4)] [] (mkS x S) (fun v h => v = some (.int r) ∧ h = mkS x S')) (S : ST) (v2 : Int32) (v3 : Int32) (v4 : Int32) (r : Int32) (S' : ST) (hm : bfX0_canBits_20_1_32 x k5 S v2 v3 v4 = some (r, S')) : Ev mX0_canBits 5 0 0 32 [some (.ref 20), some (.ref 1), some (.int v2), some (.int v3), some (.int v4)] [] (mkS x S) (fun v h => v = some (.int r) ∧ h = mkS x S') := by
    unfold bfX0_canBits_20_1_32 at hm
    refine Ev.steps tokX0_canBits 2 (P := True) (pc' := 5) (lv' := [some (.ref 20), some (.ref 1), some (.int v2), some (.int v3), some (.int (v4 + 1))]) (st' := []) (h' := mkS x S) rfl trivial ?_
    exact hk5 S v2 v3 (v4 + 1) _ _ hm
set_option maxHeartbeats 4000000 in
set_option maxRecDepth 20000 in
theorem bpX0_canBits_20_1_5 (x : XT) (k5 : ST → Int32 → Int32 → Int32 → Option (Int32 × ST)) (hk5 : ∀ (S : ST) (v2 : Int32) (v3 : Int32) (v4 : Int32) (r : Int32) (S' : ST), k5 S v2 v3 v4 = some (r, S') → Ev mX0_canBits 5 0 0 5 [some (.ref 20), some (.ref 1), some (.int v2), some (.int v3), some (.int v4)] [] (mkS x S) (fun v h => v = some (.int r) ∧ h = mkS x S')) (S : ST) (v2 : Int32) (v3 : Int32) (v4 : Int32) (r : Int32) (S' : ST) (hm : bfX0_canBits_20_1_5 x k5 S v2 v3 v4 = some (r, S')) : Ev mX0_canBits 5 0 0 5 [some (.ref 20), some (.ref 1), some (.int v2), some (.int v3), some (.int v4)] [] (mkS x S) (fun v h => v = some (.int r) ∧ h = mkS x S') := by
    unfold bfX0_canBits_20_1_5 at hm
    refine Ev.steps tokX0_canBits 4 (P := True) (pc' := if (S.1 1 0) ≤ v4 then 38 else 14) (lv' := [some (.ref 20), some (.ref 1), some (.int v2), some (.int v3), some (.int v4)]) (st' := []) (h' := mkS x S) rfl trivial ?_
    refine Ev.ite (fun c1 => ?_) (fun c1 => ?_)
    · rw [if_pos c1] at hm
      refine Ev.steps tokX0_canBits 1 (P := True) (pc' := 39) (lv' := [some (.ref 20), some (.ref 1), some (.int v2), some (.int v3), some (.int v4)]) (st' := [.int v3]) (h' := mkS x S) rfl trivial ?_
      cases hm
      exact Ev.reti tokX0_canBits rfl rfl ⟨rfl, rfl⟩
    · rw [if_neg c1] at hm
      refine Ev.steps tokX0_canBits 4 (P := True) (pc' := 19) (lv' := [some (.ref 20), some (.ref 1), some (.int v2), some (.int v3), some (.int v4)]) (st' := [.int v4, .int v2, .ref 1, .ref 20]) (h' := mkS x S) rfl trivial ?_
      cases h2 : gfX0_can_20_1 x S v2 v4 with
      | none => rw [h2] at hm; cases hm
      | some q3 =>
        obtain ⟨r4, S5⟩ := q3
        rw [h2] at hm
        dsimp only at hm
        refine ev_callV (N := mX0_can) (d' := 4) (bc := 0) (bs := 0) (bc' := 0) (bs' := 0) (as := [.ref 1, .int v2, .int v4]) (rest := []) (a := 20) (ci := 0) (dcd tokX0_canBits rfl) okX0_can inX0_can seX0_can lk0_93 rfl (by decide) (Nat.le_of_ble_eq_true rfl) rfl ⟨by decide, rfl⟩ (gpX0_can_20_1 x S v2 v4 _ _ h2) (fun v h' hq hn => ?_)
        obtain ⟨rfl, rfl⟩ := hq
        refine Ev.steps tokX0_canBits 1 (P := True) (pc' := if r4 = 0 then 32 else 25) (lv' := [some (.ref 20), some (.ref 1), some (.int v2), some (.int v3), some (.int v4)]) (st' := []) (h' := mkS x S5) rfl trivial ?_
        refine Ev.ite (fun c6 => ?_) (fun c6 => ?_)
        · rw [if_pos c6] at hm
          exact bpX0_canBits_20_1_32 x k5 hk5 S5 v2 v3 v4 _ _ hm
        · rw [if_neg c6] at hm
          refine Ev.steps tokX0_canBits 6 (P := True) (pc' := 32) (lv' := [some (.ref 20), some (.ref 1), some (.int v2), some (.int (v3 ||| (1 <<< (v4 &&& 31)))), some (.int v4)]) (st' := []) (h' := mkS x S5) rfl trivial ?_
          exact bpX0_canBits_20_1_32 x k5 hk5 S5 v2 (v3 ||| (1 <<< (v4 &&& 31))) v4 _ _ hm
theorem lpX0_canBits_20_1_5 (x : XT)  : ∀ (n : Nat) (S : ST) (v2 : Int32) (v3 : Int32) (v4 : Int32) (r : Int32) (S' : ST), lfX0_canBits_20_1_5 x  n S v2 v3 v4 = some (r, S') → Ev mX0_canBits 5 0 0 5 [some (.ref 20), some (.ref 1), some (.int v2), some (.int v3), some (.int v4)] [] (mkS x S) (fun v h => v = some (.int r) ∧ h = mkS x S')
  | 0, _, _, _, _, _, _, hm => by cases hm
  | n + 1, S, v2, v3, v4, r, S', hm => bpX0_canBits_20_1_5 x (lfX0_canBits_20_1_5 x  n) (lpX0_canBits_20_1_5 x  n) S v2 v3 v4 r S' hm
set_option maxHeartbeats 4000000 in
set_option maxRecDepth 20000 in
theorem bpX0_canBits_20_1_0 (x : XT)  (S : ST) (p2 : Int32) (r : Int32) (S' : ST) (hm : bfX0_canBits_20_1_0 x  S p2 = some (r, S')) : Ev mX0_canBits 5 0 0 0 [some (.ref 20), some (.ref 1), some (.int p2), none, none] [] (mkS x S) (fun v h => v = some (.int r) ∧ h = mkS x S') := by
    unfold bfX0_canBits_20_1_0 at hm
    refine Ev.steps tokX0_canBits 4 (P := True) (pc' := 5) (lv' := [some (.ref 20), some (.ref 1), some (.int p2), some (.int 0), some (.int 0)]) (st' := []) (h' := mkS x S) rfl trivial ?_
    exact lpX0_canBits_20_1_5 x  20000 S p2 0 0 _ _ hm
theorem gpX0_canBits_20_1 (x : XT) (S : ST) (p2 : Int32) (r : Int32) (S' : ST) (hm : gfX0_canBits_20_1 x S p2 = some (r, S')) : Ct mX0_canBits 5 0 0 [.ref 20, .ref 1, .int p2] (mkS x S) (fun v h => v = some (.int r) ∧ h = mkS x S') :=
  Ct.of (lv := [some (.ref 20), some (.ref 1), some (.int p2), none, none]) rfl rfl rfl (show (_ : Nat) ≤ _ from Nat.le_of_ble_eq_true rfl) (fun G => rfl) (bpX0_canBits_20_1_0 x S p2 r S' hm)
set_option maxHeartbeats 4000000 in
set_option maxRecDepth 20000 in
theorem bpX10_of_0_0 (x : XT)  (S : ST) (p1 : Int32) (p2 : Int32) (r : Int32) (S' : ST) (hm : bfX10_of_0_0 x  S p1 p2 = some (r, S')) : Ev mX10_of 6 0 0 0 [some (.ref 0), some (.int p1), some (.int p2)] [] (mkS x S) (fun v h => v = some (.int r) ∧ h = mkS x S') := by
    unfold bfX10_of_0_0 at hm
    refine Ev.steps tokX10_of 3 (P := True) (pc' := 5) (lv' := [some (.ref 0), some (.int p1), some (.int p2)]) (st' := [.int p1, .ref 1]) (h' := mkS x S) rfl trivial ?_
    cases h1 : gfX7_hasGoer_1 x S p1 with
    | none => rw [h1] at hm; cases hm
    | some q2 =>
      obtain ⟨r3, S4⟩ := q2
      rw [h1] at hm
      dsimp only at hm
      refine ev_callV (N := mX7_hasGoer) (d' := 1) (bc := 0) (bs := 0) (bc' := 0) (bs' := 0) (as := [.int p1]) (rest := []) (a := 1) (ci := 7) (dcd tokX10_of rfl) okX7_hasGoer inX7_hasGoer seX7_hasGoer lk10_134 rfl (by decide) (Nat.le_of_ble_eq_true rfl) rfl ⟨by decide, rfl⟩ (gpX7_hasGoer_1 x S p1 _ _ h1) (fun v h' hq hn => ?_)
      obtain ⟨rfl, rfl⟩ := hq
      refine Ev.steps tokX10_of 1 (P := True) (pc' := if ¬ r3 = 0 then 13 else 11) (lv' := [some (.ref 0), some (.int p1), some (.int p2)]) (st' := []) (h' := mkS x S4) rfl trivial ?_
      refine Ev.ite (fun c5 => ?_) (fun c5 => ?_)
      · rw [if_pos c5] at hm
        refine Ev.steps tokX10_of 1 (P := True) (pc' := 14) (lv' := [some (.ref 0), some (.int p1), some (.int p2)]) (st' := [.int p2]) (h' := mkS x S4) rfl trivial ?_
        by_cases c6 : p2 = 0
        · rw [if_pos c6] at hm
          refine ev_tIn (off := 34) (t := 48) (dcd tokX10_of rfl) (by rw [c6]; decide) (by rw [c6]; decide) (by rw [c6]; rfl) rfl ?_
          obtain ⟨o7, hm⟩ := oblk hm
          refine Ev.steps tokX10_of 5 (P := vp_in p1 5 ∧ True) (pc' := 57) (lv' := [some (.ref 0), some (.int p1), some (.int p2)]) (st' := [.int (S4.2.1 7 p1.toNatClampNeg)]) (h' := mkS x S4) rfl ⟨inb_ok o7, trivial⟩ ?_
          cases hm
          exact Ev.reti tokX10_of rfl rfl ⟨rfl, rfl⟩
        rw [if_neg c6] at hm
        by_cases c8 : p2 = 1
        · rw [if_pos c8] at hm
          refine ev_tIn (off := 44) (t := 58) (dcd tokX10_of rfl) (by rw [c8]; decide) (by rw [c8]; decide) (by rw [c8]; rfl) rfl ?_
          obtain ⟨o9, hm⟩ := oblk hm
          refine Ev.steps tokX10_of 5 (P := vp_in p1 5 ∧ True) (pc' := 67) (lv' := [some (.ref 0), some (.int p1), some (.int p2)]) (st' := [.int (S4.2.1 8 p1.toNatClampNeg)]) (h' := mkS x S4) rfl ⟨inb_ok o9, trivial⟩ ?_
          cases hm
          exact Ev.reti tokX10_of rfl rfl ⟨rfl, rfl⟩
        rw [if_neg c8] at hm
        by_cases c10 : p2 = 2
        · rw [if_pos c10] at hm
          refine ev_tIn (off := 54) (t := 68) (dcd tokX10_of rfl) (by rw [c10]; decide) (by rw [c10]; decide) (by rw [c10]; rfl) rfl ?_
          obtain ⟨o11, hm⟩ := oblk hm
          refine Ev.steps tokX10_of 5 (P := vp_in p1 5 ∧ True) (pc' := 77) (lv' := [some (.ref 0), some (.int p1), some (.int p2)]) (st' := [.int (S4.2.1 9 p1.toNatClampNeg)]) (h' := mkS x S4) rfl ⟨inb_ok o11, trivial⟩ ?_
          cases hm
          exact Ev.reti tokX10_of rfl rfl ⟨rfl, rfl⟩
        rw [if_neg c10] at hm
        by_cases c12 : p2 = 3
        · rw [if_pos c12] at hm
          refine ev_tIn (off := 64) (t := 78) (dcd tokX10_of rfl) (by rw [c12]; decide) (by rw [c12]; decide) (by rw [c12]; rfl) rfl ?_
          obtain ⟨o13, hm⟩ := oblk hm
          refine Ev.steps tokX10_of 5 (P := vp_in p1 5 ∧ True) (pc' := 87) (lv' := [some (.ref 0), some (.int p1), some (.int p2)]) (st' := [.int (S4.2.1 10 p1.toNatClampNeg)]) (h' := mkS x S4) rfl ⟨inb_ok o13, trivial⟩ ?_
          cases hm
          exact Ev.reti tokX10_of rfl rfl ⟨rfl, rfl⟩
        rw [if_neg c12] at hm
        by_cases c14 : p2 = 4
        · rw [if_pos c14] at hm
          refine ev_tIn (off := 74) (t := 88) (dcd tokX10_of rfl) (by rw [c14]; decide) (by rw [c14]; decide) (by rw [c14]; rfl) rfl ?_
          refine Ev.steps tokX10_of 5 (P := True) (pc' := 97) (lv' := [some (.ref 0), some (.int p1), some (.int p2)]) (st' := [.int p1, .ref 1, .ref 20]) (h' := mkS x S4) rfl trivial ?_
          cases h15 : gfX0_canBits_20_1 x S4 p1 with
          | none => rw [h15] at hm; cases hm
          | some q16 =>
            obtain ⟨r17, S18⟩ := q16
            rw [h15] at hm
            dsimp only at hm
            refine ev_callV (N := mX0_canBits) (d' := 5) (bc := 0) (bs := 0) (bc' := 0) (bs' := 0) (as := [.ref 1, .int p1]) (rest := []) (a := 20) (ci := 0) (dcd tokX10_of rfl) okX0_canBits inX0_canBits seX0_canBits lk10_149 rfl (by decide) (Nat.le_of_ble_eq_true rfl) rfl ⟨by decide, rfl⟩ (gpX0_canBits_20_1 x S4 p1 _ _ h15) (fun v h' hq hn => ?_)
            obtain ⟨rfl, rfl⟩ := hq
            cases hm
            exact Ev.reti tokX10_of rfl rfl ⟨rfl, rfl⟩
        rw [if_neg c14] at hm
        refine ev_tOut (t := 101) (dcd tokX10_of rfl) (by have zc6 := lv_neT c6 (show (0 : Int32).toInt = 0 from by decide); have zc8 := lv_neT c8 (show (1 : Int32).toInt = 1 from by decide); have zc10 := lv_neT c10 (show (2 : Int32).toInt = 2 from by decide); have zc12 := lv_neT c12 (show (3 : Int32).toInt = 3 from by decide); have zc14 := lv_neT c14 (show (4 : Int32).toInt = 4 from by decide); omega) rfl ?_
        refine Ev.steps tokX10_of 1 (P := True) (pc' := 102) (lv' := [some (.ref 0), some (.int p1), some (.int p2)]) (st' := [.int (-1)]) (h' := mkS x S4) rfl trivial ?_
        cases hm
        exact Ev.reti tokX10_of rfl rfl ⟨rfl, rfl⟩
      · rw [if_neg c5] at hm
        refine Ev.steps tokX10_of 1 (P := True) (pc' := 12) (lv' := [some (.ref 0), some (.int p1), some (.int p2)]) (st' := [.int (-1)]) (h' := mkS x S4) rfl trivial ?_
        cases hm
        exact Ev.reti tokX10_of rfl rfl ⟨rfl, rfl⟩
theorem gpX10_of_0 (x : XT) (S : ST) (p1 : Int32) (p2 : Int32) (r : Int32) (S' : ST) (hm : gfX10_of_0 x S p1 p2 = some (r, S')) : Ct mX10_of 6 0 0 [.ref 0, .int p1, .int p2] (mkS x S) (fun v h => v = some (.int r) ∧ h = mkS x S') :=
  Ct.of (lv := [some (.ref 0), some (.int p1), some (.int p2)]) rfl rfl rfl (show (_ : Nat) ≤ _ from Nat.le_of_ble_eq_true rfl) (fun G => rfl) (bpX10_of_0_0 x S p1 p2 r S' hm)
set_option maxHeartbeats 4000000 in
set_option maxRecDepth 20000 in
theorem bpX10_asks_0_31 (x : XT)  (S : ST)  (r : Int32) (S' : ST) (hm : bfX10_asks_0_31 x  S  = some (r, S')) : Ev mX10_asks 4 0 0 31 [none, none, none, none, none] [] (mkS x S) (fun v h => v = some (.int r) ∧ h = mkS x S') := by
    unfold bfX10_asks_0_31 at hm
    refine Ev.steps tokX10_asks 1 (P := True) (pc' := 32) (lv' := [none, none, none, none, none]) (st' := [.int (-1)]) (h' := mkS x S) rfl trivial ?_
    cases hm
    exact Ev.reti tokX10_asks rfl rfl ⟨rfl, rfl⟩
set_option maxHeartbeats 4000000 in
set_option maxRecDepth 20000 in
theorem bpX10_asks_0_0 (x : XT)  (S : ST) (p1 : Int32) (p2 : Int32) (p3 : Int32) (p4 : Int32) (r : Int32) (S' : ST) (hm : bfX10_asks_0_0 x  S p1 p2 p3 p4 = some (r, S')) : Ev mX10_asks 4 0 0 0 [some (.ref 0), some (.int p1), some (.int p2), some (.int p3), some (.int p4)] [] (mkS x S) (fun v h => v = some (.int r) ∧ h = mkS x S') := by
    unfold bfX10_asks_0_0 at hm
    refine Ev.steps tokX10_asks 3 (P := True) (pc' := 5) (lv' := [some (.ref 0), some (.int p1), some (.int p2), some (.int p3), some (.int p4)]) (st' := [.int p1, .ref 1]) (h' := mkS x S) rfl trivial ?_
    cases h1 : gfX7_hasGoer_1 x S p1 with
    | none => rw [h1] at hm; cases hm
    | some q2 =>
      obtain ⟨r3, S4⟩ := q2
      rw [h1] at hm
      dsimp only at hm
      refine ev_callV (N := mX7_hasGoer) (d' := 1) (bc := 0) (bs := 0) (bc' := 0) (bs' := 0) (as := [.int p1]) (rest := []) (a := 1) (ci := 7) (dcd tokX10_asks rfl) okX7_hasGoer inX7_hasGoer seX7_hasGoer lk10_134 rfl (by decide) (Nat.le_of_ble_eq_true rfl) rfl ⟨by decide, rfl⟩ (gpX7_hasGoer_1 x S p1 _ _ h1) (fun v h' hq hn => ?_)
      obtain ⟨rfl, rfl⟩ := hq
      refine Ev.steps tokX10_asks 1 (P := True) (pc' := if r3 = 0 then 31 else 11) (lv' := [some (.ref 0), some (.int p1), some (.int p2), some (.int p3), some (.int p4)]) (st' := []) (h' := mkS x S4) rfl trivial ?_
      refine Ev.ite (fun c5 => ?_) (fun c5 => ?_)
      · rw [if_pos c5] at hm
        refine Ev.fgt (lv' := [none, none, none, none, none]) trivial ?_
        exact bpX10_asks_0_31 x S4 _ _ hm
      · rw [if_neg c5] at hm
        refine Ev.steps tokX10_asks 3 (P := True) (pc' := 16) (lv' := [some (.ref 0), some (.int p1), some (.int p2), some (.int p3), some (.int p4)]) (st' := [.int p2, .ref 1]) (h' := mkS x S4) rfl trivial ?_
        cases h6 : gfX7_hasGate_1 x S4 p2 with
        | none => rw [h6] at hm; cases hm
        | some q7 =>
          obtain ⟨r8, S9⟩ := q7
          rw [h6] at hm
          dsimp only at hm
          refine ev_callV (N := mX7_hasGate) (d' := 1) (bc := 0) (bs := 0) (bc' := 0) (bs' := 0) (as := [.int p2]) (rest := []) (a := 1) (ci := 7) (dcd tokX10_asks rfl) okX7_hasGate inX7_hasGate seX7_hasGate lk10_111 rfl (by decide) (Nat.le_of_ble_eq_true rfl) rfl ⟨by decide, rfl⟩ (gpX7_hasGate_1 x S4 p2 _ _ h6) (fun v h' hq hn => ?_)
          obtain ⟨rfl, rfl⟩ := hq
          refine Ev.steps tokX10_asks 1 (P := True) (pc' := if r8 = 0 then 31 else 22) (lv' := [some (.ref 0), some (.int p1), some (.int p2), some (.int p3), some (.int p4)]) (st' := []) (h' := mkS x S9) rfl trivial ?_
          refine Ev.ite (fun c10 => ?_) (fun c10 => ?_)
          · rw [if_pos c10] at hm
            refine Ev.fgt (lv' := [none, none, none, none, none]) trivial ?_
            exact bpX10_asks_0_31 x S9 _ _ hm
          · rw [if_neg c10] at hm
            refine Ev.steps tokX10_asks 2 (P := True) (pc' := 25) (lv' := [some (.ref 0), some (.int p1), some (.int p2), some (.int p3), some (.int p4)]) (st' := [.int 20, .int p3]) (h' := mkS x S9) rfl trivial ?_
            cases h11 : gfX10_within x S9 p3 20 with
            | none => rw [h11] at hm; cases hm
            | some q12 =>
              obtain ⟨r13, S14⟩ := q12
              rw [h11] at hm
              dsimp only at hm
              refine ev_callS (N := mX10_within) (d' := 1) (bc := 0) (bs := 0) (bc' := 0) (bs' := 0) (as := [.int p3, .int 20]) (rest := []) (dcd tokX10_asks rfl) okX10_within inX10_within lk10_153 rfl (by decide) (Nat.le_of_ble_eq_true rfl) (gpX10_within x S9 p3 20 _ _ h11) (fun v h' hq hn => ?_)
              obtain ⟨rfl, rfl⟩ := hq
              refine Ev.steps tokX10_asks 1 (P := True) (pc' := if ¬ r13 = 0 then 33 else 31) (lv' := [some (.ref 0), some (.int p1), some (.int p2), some (.int p3), some (.int p4)]) (st' := []) (h' := mkS x S14) rfl trivial ?_
              refine Ev.ite (fun c15 => ?_) (fun c15 => ?_)
              · rw [if_pos c15] at hm
                refine Ev.steps tokX10_asks 7 (P := True) (pc' := 44) (lv' := [some (.ref 0), some (.int p1), some (.int p2), some (.int p3), some (.int p4)]) (st' := [.int p3, .int p2, .int p1, .ref 1, .ref 20]) (h' := mkS x S14) rfl trivial ?_
                cases h16 : gfX0_regard_20_1 x S14 p1 p2 p3 with
                | none => rw [h16] at hm; cases hm
                | some q17 =>
                  obtain ⟨r18, S19⟩ := q17
                  rw [h16] at hm
                  dsimp only at hm
                  refine ev_callV (N := mX0_regard) (d' := 2) (bc := 0) (bs := 0) (bc' := 0) (bs' := 0) (as := [.ref 1, .int p1, .int p2, .int p3]) (rest := []) (a := 20) (ci := 0) (dcd tokX10_asks rfl) okX0_regard inX0_regard seX0_regard lk10_157 rfl (by decide) (Nat.le_of_ble_eq_true rfl) rfl ⟨by decide, rfl⟩ (gpX0_regard_20_1 x S14 p1 p2 p3 _ _ h16) (fun v h' hq hn => ?_)
                  obtain ⟨rfl, rfl⟩ := hq
                  refine Ev.steps tokX10_asks 1 (P := True) (pc' := 49) (lv' := [some (.ref 0), some (.int p1), some (.int p2), some (.int p3), some (.int p4)]) (st' := [.int p4]) (h' := mkS x S19) rfl trivial ?_
                  by_cases c20 : p4 = 0
                  · rw [if_pos c20] at hm
                    refine ev_tIn (off := 27) (t := 76) (dcd tokX10_asks rfl) (by rw [c20]; decide) (by rw [c20]; decide) (by rw [c20]; rfl) rfl ?_
                    refine Ev.steps tokX10_asks 5 (P := True) (pc' := 87) (lv' := [some (.ref 0), some (.int p1), some (.int p2), some (.int p3), some (.int p4)]) (st' := [.int 260, .ref 1, .ref 20]) (h' := mkS x S19) rfl trivial ?_
                    cases h21 : gfX0_told_20_1 x S19 260 with
                    | none => rw [h21] at hm; cases hm
                    | some q22 =>
                      obtain ⟨r23, S24⟩ := q22
                      rw [h21] at hm
                      dsimp only at hm
                      refine ev_callV (N := mX0_told) (d' := 3) (bc := 0) (bs := 0) (bc' := 0) (bs' := 0) (as := [.ref 1, .int 260]) (rest := []) (a := 20) (ci := 0) (dcd tokX10_asks rfl) okX0_told inX0_told seX0_told lk10_161 rfl (by decide) (Nat.le_of_ble_eq_true rfl) rfl ⟨by decide, rfl⟩ (gpX0_told_20_1 x S19 260 _ _ h21) (fun v h' hq hn => ?_)
                      obtain ⟨rfl, rfl⟩ := hq
                      cases hm
                      exact Ev.reti tokX10_asks rfl rfl ⟨rfl, rfl⟩
                  rw [if_neg c20] at hm
                  by_cases c25 : p4 = 1
                  · rw [if_pos c25] at hm
                    refine ev_tIn (off := 42) (t := 91) (dcd tokX10_asks rfl) (by rw [c25]; decide) (by rw [c25]; decide) (by rw [c25]; rfl) rfl ?_
                    refine Ev.steps tokX10_asks 5 (P := True) (pc' := 102) (lv' := [some (.ref 0), some (.int p1), some (.int p2), some (.int p3), some (.int p4)]) (st' := [.int 261, .ref 1, .ref 20]) (h' := mkS x S19) rfl trivial ?_
                    cases h26 : gfX0_told_20_1 x S19 261 with
                    | none => rw [h26] at hm; cases hm
                    | some q27 =>
                      obtain ⟨r28, S29⟩ := q27
                      rw [h26] at hm
                      dsimp only at hm
                      refine ev_callV (N := mX0_told) (d' := 3) (bc := 0) (bs := 0) (bc' := 0) (bs' := 0) (as := [.ref 1, .int 261]) (rest := []) (a := 20) (ci := 0) (dcd tokX10_asks rfl) okX0_told inX0_told seX0_told lk10_161 rfl (by decide) (Nat.le_of_ble_eq_true rfl) rfl ⟨by decide, rfl⟩ (gpX0_told_20_1 x S19 261 _ _ h26) (fun v h' hq hn => ?_)
                      obtain ⟨rfl, rfl⟩ := hq
                      cases hm
                      exact Ev.reti tokX10_asks rfl rfl ⟨rfl, rfl⟩
                  rw [if_neg c25] at hm
                  by_cases c30 : p4 = 2
                  · rw [if_pos c30] at hm
                    refine ev_tIn (off := 57) (t := 106) (dcd tokX10_asks rfl) (by rw [c30]; decide) (by rw [c30]; decide) (by rw [c30]; rfl) rfl ?_
                    refine Ev.steps tokX10_asks 5 (P := True) (pc' := 117) (lv' := [some (.ref 0), some (.int p1), some (.int p2), some (.int p3), some (.int p4)]) (st' := [.int 262, .ref 1, .ref 20]) (h' := mkS x S19) rfl trivial ?_
                    cases h31 : gfX0_told_20_1 x S19 262 with
                    | none => rw [h31] at hm; cases hm
                    | some q32 =>
                      obtain ⟨r33, S34⟩ := q32
                      rw [h31] at hm
                      dsimp only at hm
                      refine ev_callV (N := mX0_told) (d' := 3) (bc := 0) (bs := 0) (bc' := 0) (bs' := 0) (as := [.ref 1, .int 262]) (rest := []) (a := 20) (ci := 0) (dcd tokX10_asks rfl) okX0_told inX0_told seX0_told lk10_161 rfl (by decide) (Nat.le_of_ble_eq_true rfl) rfl ⟨by decide, rfl⟩ (gpX0_told_20_1 x S19 262 _ _ h31) (fun v h' hq hn => ?_)
                      obtain ⟨rfl, rfl⟩ := hq
                      cases hm
                      exact Ev.reti tokX10_asks rfl rfl ⟨rfl, rfl⟩
                  rw [if_neg c30] at hm
                  refine ev_tOut (t := 121) (dcd tokX10_asks rfl) (by have zc20 := lv_neT c20 (show (0 : Int32).toInt = 0 from by decide); have zc25 := lv_neT c25 (show (1 : Int32).toInt = 1 from by decide); have zc30 := lv_neT c30 (show (2 : Int32).toInt = 2 from by decide); omega) rfl ?_
                  refine Ev.steps tokX10_asks 1 (P := True) (pc' := 122) (lv' := [some (.ref 0), some (.int p1), some (.int p2), some (.int p3), some (.int p4)]) (st' := [.int (-1)]) (h' := mkS x S19) rfl trivial ?_
                  cases hm
                  exact Ev.reti tokX10_asks rfl rfl ⟨rfl, rfl⟩
              · rw [if_neg c15] at hm
                refine Ev.fgt (lv' := [none, none, none, none, none]) trivial ?_
                exact bpX10_asks_0_31 x S14 _ _ hm
theorem gpX10_asks_0 (x : XT) (S : ST) (p1 : Int32) (p2 : Int32) (p3 : Int32) (p4 : Int32) (r : Int32) (S' : ST) (hm : gfX10_asks_0 x S p1 p2 p3 p4 = some (r, S')) : Ct mX10_asks 4 0 0 [.ref 0, .int p1, .int p2, .int p3, .int p4] (mkS x S) (fun v h => v = some (.int r) ∧ h = mkS x S') :=
  Ct.of (lv := [some (.ref 0), some (.int p1), some (.int p2), some (.int p3), some (.int p4)]) rfl rfl rfl (show (_ : Nat) ≤ _ from Nat.le_of_ble_eq_true rfl) (fun G => rfl) (bpX10_asks_0_0 x S p1 p2 p3 p4 r S' hm)
set_option maxHeartbeats 4000000 in
set_option maxRecDepth 20000 in
theorem bpX7_changeTerm_1_42 (x : XT)  (S : ST)  (r : Int32) (S' : ST) (hm : bfX7_changeTerm_1_42 x  S  = some (r, S')) : Ev mX7_changeTerm 2 0 0 42 [none, none, none, none, none] [] (mkS x S) (fun v h => v = some (.int r) ∧ h = mkS x S') := by
    unfold bfX7_changeTerm_1_42 at hm
    refine Ev.steps tokX7_changeTerm 1 (P := True) (pc' := 43) (lv' := [none, none, none, none, none]) (st' := [.int (-1)]) (h' := mkS x S) rfl trivial ?_
    cases hm
    exact Ev.reti tokX7_changeTerm rfl rfl ⟨rfl, rfl⟩
set_option maxHeartbeats 4000000 in
set_option maxRecDepth 20000 in
theorem bpX7_changeTerm_1_32 (x : XT)  (S : ST) (v1 : Int32) (v2 : Int32) (t0 : Int32) (r : Int32) (S' : ST) (hm : bfX7_changeTerm_1_32 x  S v1 v2 t0 = some (r, S')) : Ev mX7_changeTerm 2 0 0 32 [some (.ref 1), some (.int v1), some (.int v2), none, none] [.int t0] (mkS x S) (fun v h => v = some (.int r) ∧ h = mkS x S') := by
    unfold bfX7_changeTerm_1_32 at hm
    refine Ev.steps tokX7_changeTerm 3 (P := True) (pc' := if v2 < 0 then 42 else 37) (lv' := [some (.ref 1), some (.int v1), some (.int v2), some (.int t0), none]) (st' := []) (h' := mkS x S) rfl trivial ?_
    refine Ev.ite (fun c1 => ?_) (fun c1 => ?_)
    · rw [if_pos c1] at hm
      refine Ev.fgt (lv' := [none, none, none, none, none]) trivial ?_
      exact bpX7_changeTerm_1_42 x S _ _ hm
    · rw [if_neg c1] at hm
      refine Ev.steps tokX7_changeTerm 3 (P := True) (pc' := if v2 ≤ t0 then 44 else 42) (lv' := [some (.ref 1), some (.int v1), some (.int v2), some (.int t0), none]) (st' := []) (h' := mkS x S) rfl trivial ?_
      refine Ev.ite (fun c2 => ?_) (fun c2 => ?_)
      · rw [if_pos c2] at hm
        obtain ⟨o3, hm⟩ := oblk hm
        obtain ⟨o4, hm⟩ := oblk hm
        refine Ev.steps tokX7_changeTerm 11 (P := vp_in v1 3 ∧ vp_in v1 3 ∧ True) (pc' := 61) (lv' := [some (.ref 1), some (.int v1), some (.int v2), some (.int t0), some (.int (S.2.1 14 v1.toNatClampNeg))]) (st' := [.int (S.2.1 14 v1.toNatClampNeg)]) (h' := mkS x (S.1, (u2 S.2.1 14 v1.toNatClampNeg v2), S.2.2.1, S.2.2.2)) rfl ⟨inb_ok o3, inb_ok o4, trivial⟩ ?_
        cases hm
        exact Ev.reti tokX7_changeTerm rfl rfl ⟨rfl, rfl⟩
      · rw [if_neg c2] at hm
        refine Ev.fgt (lv' := [none, none, none, none, none]) trivial ?_
        exact bpX7_changeTerm_1_42 x S _ _ hm
set_option maxHeartbeats 4000000 in
set_option maxRecDepth 20000 in
theorem bpX7_changeTerm_1_0 (x : XT)  (S : ST) (p1 : Int32) (p2 : Int32) (r : Int32) (S' : ST) (hm : bfX7_changeTerm_1_0 x  S p1 p2 = some (r, S')) : Ev mX7_changeTerm 2 0 0 0 [some (.ref 1), some (.int p1), some (.int p2), none, none] [] (mkS x S) (fun v h => v = some (.int r) ∧ h = mkS x S') := by
    unfold bfX7_changeTerm_1_0 at hm
    refine Ev.steps tokX7_changeTerm 2 (P := True) (pc' := 2) (lv' := [some (.ref 1), some (.int p1), some (.int p2), none, none]) (st' := [.int 3, .int p1]) (h' := mkS x S) rfl trivial ?_
    cases h1 : gfX10_within x S p1 3 with
    | none => rw [h1] at hm; cases hm
    | some q2 =>
      obtain ⟨r3, S4⟩ := q2
      rw [h1] at hm
      dsimp only at hm
      refine ev_callSN (N := mX10_within) (d' := 1) (bc := 0) (bs := 0) (bc' := 0) (bs' := 0) (as := [.int p1, .int 3]) (rest := []) (dcd tokX7_changeTerm rfl) okX10_within inX10_within lk7_78 rfl (by decide) (Nat.le_of_ble_eq_true rfl) (gpX10_within x S p1 3 _ _ h1) (fun v h' hq hn => ?_)
      obtain ⟨rfl, rfl⟩ := hq
      refine Ev.steps tokX7_changeTerm 1 (P := True) (pc' := if ¬ r3 = 0 then 10 else 8) (lv' := [some (.ref 1), some (.int p1), some (.int p2), none, none]) (st' := []) (h' := mkS x S4) rfl trivial ?_
      refine Ev.ite (fun c5 => ?_) (fun c5 => ?_)
      · rw [if_pos c5] at hm
        refine Ev.steps tokX7_changeTerm 2 (P := True) (pc' := if ¬ p1 = 0 then 20 else 14) (lv' := [some (.ref 1), some (.int p1), some (.int p2), none, none]) (st' := []) (h' := mkS x S4) rfl trivial ?_
        refine Ev.ite (fun c6 => ?_) (fun c6 => ?_)
        · rw [if_pos c6] at hm
          refine Ev.steps tokX7_changeTerm 3 (P := True) (pc' := if ¬ p1 = 1 then 30 else 25) (lv' := [some (.ref 1), some (.int p1), some (.int p2), none, none]) (st' := []) (h' := mkS x S4) rfl trivial ?_
          refine Ev.ite (fun c7 => ?_) (fun c7 => ?_)
          · rw [if_pos c7] at hm
            refine Ev.steps tokX7_changeTerm 1 (P := True) (pc' := 32) (lv' := [some (.ref 1), some (.int p1), some (.int p2), none, none]) (st' := [.int 9]) (h' := mkS x S4) rfl trivial ?_
            exact bpX7_changeTerm_1_32 x S4 p1 p2 9 _ _ hm
          · rw [if_neg c7] at hm
            refine Ev.steps tokX7_changeTerm 2 (P := True) (pc' := 32) (lv' := [some (.ref 1), some (.int p1), some (.int p2), none, none]) (st' := [.int 10]) (h' := mkS x S4) rfl trivial ?_
            exact bpX7_changeTerm_1_32 x S4 p1 p2 10 _ _ hm
        · rw [if_neg c6] at hm
          refine Ev.steps tokX7_changeTerm 2 (P := True) (pc' := 32) (lv' := [some (.ref 1), some (.int p1), some (.int p2), none, none]) (st' := [.int 999]) (h' := mkS x S4) rfl trivial ?_
          exact bpX7_changeTerm_1_32 x S4 p1 p2 999 _ _ hm
      · rw [if_neg c5] at hm
        refine Ev.steps tokX7_changeTerm 1 (P := True) (pc' := 9) (lv' := [some (.ref 1), some (.int p1), some (.int p2), none, none]) (st' := [.int (-1)]) (h' := mkS x S4) rfl trivial ?_
        cases hm
        exact Ev.reti tokX7_changeTerm rfl rfl ⟨rfl, rfl⟩
theorem gpX7_changeTerm_1 (x : XT) (S : ST) (p1 : Int32) (p2 : Int32) (r : Int32) (S' : ST) (hm : gfX7_changeTerm_1 x S p1 p2 = some (r, S')) : Ct mX7_changeTerm 2 0 0 [.ref 1, .int p1, .int p2] (mkS x S) (fun v h => v = some (.int r) ∧ h = mkS x S') :=
  Ct.of (lv := [some (.ref 1), some (.int p1), some (.int p2), none, none]) rfl rfl rfl (show (_ : Nat) ≤ _ from Nat.le_of_ble_eq_true rfl) (fun G => rfl) (bpX7_changeTerm_1_0 x S p1 p2 r S' hm)
end MIR
