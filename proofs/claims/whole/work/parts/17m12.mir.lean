section MIR
set_option maxHeartbeats 4000000 in
set_option maxRecDepth 20000 in
theorem bpX10_fixed_0_0 (x : XT)  (S : ST) (p1 : Int32) (p2 : Int32) (p3 : Int32) (r : Int32) (S' : ST) (hm : bfX10_fixed_0_0 x  S p1 p2 p3 = some (r, S')) : Ev mX10_fixed 7 0 0 0 [some (.ref 0), some (.int p1), some (.int p2), some (.int p3)] [] (mkS x S) (fun v h => v = some (.int r) ∧ h = mkS x S') := by
    unfold bfX10_fixed_0_0 at hm
    refine Ev.steps tokX10_fixed 4 (P := True) (pc' := 4) (lv' := [some (.ref 0), some (.int p1), some (.int p2), some (.int p3)]) (st' := [.int p3, .int p2, .int p1, .ref 0]) (h' := mkS x S) rfl trivial ?_
    cases h1 : gfX10_canSeek_0 x S p1 p2 p3 with
    | none => rw [h1] at hm; cases hm
    | some q2 =>
      obtain ⟨r3, S4⟩ := q2
      rw [h1] at hm
      dsimp only at hm
      refine ev_callV (N := mX10_canSeek) (d' := 2) (bc := 0) (bs := 0) (bc' := 0) (bs' := 0) (as := [.int p1, .int p2, .int p3]) (rest := []) (a := 0) (ci := 10) (dcd tokX10_fixed rfl) okX10_canSeek inX10_canSeek seX10_canSeek lk10_241 rfl (by decide) (Nat.le_of_ble_eq_true rfl) rfl ⟨by decide, rfl⟩ (gpX10_canSeek_0 x S p1 p2 p3 _ _ h1) (fun v h' hq hn => ?_)
      obtain ⟨rfl, rfl⟩ := hq
      refine Ev.steps tokX10_fixed 1 (P := True) (pc' := if ¬ r3 = 0 then 12 else 10) (lv' := [some (.ref 0), some (.int p1), some (.int p2), some (.int p3)]) (st' := []) (h' := mkS x S4) rfl trivial ?_
      refine Ev.ite (fun c5 => ?_) (fun c5 => ?_)
      · rw [if_pos c5] at hm
        refine Ev.steps tokX10_fixed 5 (P := True) (pc' := 21) (lv' := [some (.ref 0), some (.int p1), some (.int p2), some (.int p3)]) (st' := [.int p1, .ref 1, .ref 54]) (h' := mkS x S4) rfl trivial ?_
        cases h6 : gfX6_begin_54_1 x S4 p1 with
        | none => rw [h6] at hm; cases hm
        | some q7 =>
          obtain ⟨r8, S9⟩ := q7
          rw [h6] at hm
          dsimp only at hm
          refine ev_callV (N := mX6_begin) (d' := 2) (bc := 0) (bs := 0) (bc' := 0) (bs' := 0) (as := [.ref 1, .int p1]) (rest := []) (a := 54) (ci := 6) (dcd tokX10_fixed rfl) okX6_begin inX6_begin seX6_begin lk10_245 rfl (by decide) (Nat.le_of_ble_eq_true rfl) rfl ⟨by decide, rfl⟩ (gpX6_begin_54_1 x S4 p1 _ _ h6) (fun v h' hq hn => ?_)
          obtain ⟨rfl, rfl⟩ := hq
          refine Ev.steps tokX10_fixed 4 (P := True) (pc' := 30) (lv' := [some (.ref 0), some (.int p1), some (.int p2), some (.int p3)]) (st' := [.int p3, .int p2, .ref 54]) (h' := mkS x S9) rfl trivial ?_
          cases h10 : gfX6_firstFix_54 x S9 p2 p3 with
          | none => rw [h10] at hm; cases hm
          | some q11 =>
            obtain ⟨r12, S13⟩ := q11
            rw [h10] at hm
            dsimp only at hm
            refine ev_callV (N := mX6_firstFix) (d' := 6) (bc := 0) (bs := 0) (bc' := 0) (bs' := 0) (as := [.int p2, .int p3]) (rest := []) (a := 54) (ci := 6) (dcd tokX10_fixed rfl) okX6_firstFix inX6_firstFix seX6_firstFix lk10_280 rfl (by decide) (Nat.le_of_ble_eq_true rfl) rfl ⟨by decide, rfl⟩ (gpX6_firstFix_54 x S9 p2 p3 _ _ h10) (fun v h' hq hn => ?_)
            obtain ⟨rfl, rfl⟩ := hq
            cases hm
            exact Ev.reti tokX10_fixed rfl rfl ⟨rfl, rfl⟩
      · rw [if_neg c5] at hm
        refine Ev.steps tokX10_fixed 1 (P := True) (pc' := 11) (lv' := [some (.ref 0), some (.int p1), some (.int p2), some (.int p3)]) (st' := [.int (-1)]) (h' := mkS x S4) rfl trivial ?_
        cases hm
        exact Ev.reti tokX10_fixed rfl rfl ⟨rfl, rfl⟩
theorem gpX10_fixed_0 (x : XT) (S : ST) (p1 : Int32) (p2 : Int32) (p3 : Int32) (r : Int32) (S' : ST) (hm : gfX10_fixed_0 x S p1 p2 p3 = some (r, S')) : Ct mX10_fixed 7 0 0 [.ref 0, .int p1, .int p2, .int p3] (mkS x S) (fun v h => v = some (.int r) ∧ h = mkS x S') :=
  Ct.of (lv := [some (.ref 0), some (.int p1), some (.int p2), some (.int p3)]) rfl rfl rfl (show (_ : Nat) ≤ _ from Nat.le_of_ble_eq_true rfl) (fun G => rfl) (bpX10_fixed_0_0 x S p1 p2 p3 r S' hm)
set_option maxHeartbeats 4000000 in
set_option maxRecDepth 20000 in
theorem bpJ6_bitCount_0f7a4_0 (x : XT)  (S : ST) (p0 : Int32) (r : Int32) (S' : ST) (hm : bfJ6_bitCount_0f7a4_0 x  S p0 = some (r, S')) : Ev mJ6_bitCount_0f7a4 1 0 0 0 [some (.int p0)] [] (mkS x S) (fun v h => v = some (.int r) ∧ h = mkS x S') := by
    unfold bfJ6_bitCount_0f7a4_0 at hm
    refine Ev.steps tokJ6_bitCount_0f7a4 41 (P := True) (pc' := 52) (lv' := [some (.int (((((((p0 - (((p0.toUInt32 >>> ((1 : Int32).toUInt32 &&& Int32.toUInt32 31)).toInt32) &&& 1431655765)) &&& 858993459) + ((((p0 - (((p0.toUInt32 >>> ((1 : Int32).toUInt32 &&& Int32.toUInt32 31)).toInt32) &&& 1431655765)).toUInt32 >>> ((2 : Int32).toUInt32 &&& Int32.toUInt32 31)).toInt32) &&& 858993459)) + (((((p0 - (((p0.toUInt32 >>> ((1 : Int32).toUInt32 &&& Int32.toUInt32 31)).toInt32) &&& 1431655765)) &&& 858993459) + ((((p0 - (((p0.toUInt32 >>> ((1 : Int32).toUInt32 &&& Int32.toUInt32 31)).toInt32) &&& 1431655765)).toUInt32 >>> ((2 : Int32).toUInt32 &&& Int32.toUInt32 31)).toInt32) &&& 858993459)).toUInt32 >>> ((4 : Int32).toUInt32 &&& Int32.toUInt32 31)).toInt32)) &&& 252645135) + (((((((p0 - (((p0.toUInt32 >>> ((1 : Int32).toUInt32 &&& Int32.toUInt32 31)).toInt32) &&& 1431655765)) &&& 858993459) + ((((p0 - (((p0.toUInt32 >>> ((1 : Int32).toUInt32 &&& Int32.toUInt32 31)).toInt32) &&& 1431655765)).toUInt32 >>> ((2 : Int32).toUInt32 &&& Int32.toUInt32 31)).toInt32) &&& 858993459)) + (((((p0 - (((p0.toUInt32 >>> ((1 : Int32).toUInt32 &&& Int32.toUInt32 31)).toInt32) &&& 1431655765)) &&& 858993459) + ((((p0 - (((p0.toUInt32 >>> ((1 : Int32).toUInt32 &&& Int32.toUInt32 31)).toInt32) &&& 1431655765)).toUInt32 >>> ((2 : Int32).toUInt32 &&& Int32.toUInt32 31)).toInt32) &&& 858993459)).toUInt32 >>> ((4 : Int32).toUInt32 &&& Int32.toUInt32 31)).toInt32)) &&& 252645135).toUInt32 >>> ((8 : Int32).toUInt32 &&& Int32.toUInt32 31)).toInt32)) + ((((((((p0 - (((p0.toUInt32 >>> ((1 : Int32).toUInt32 &&& Int32.toUInt32 31)).toInt32) &&& 1431655765)) &&& 858993459) + ((((p0 - (((p0.toUInt32 >>> ((1 : Int32).toUInt32 &&& Int32.toUInt32 31)).toInt32) &&& 1431655765)).toUInt32 >>> ((2 : Int32).toUInt32 &&& Int32.toUInt32 31)).toInt32) &&& 858993459)) + (((((p0 - (((p0.toUInt32 >>> ((1 : Int32).toUInt32 &&& Int32.toUInt32 31)).toInt32) &&& 1431655765)) &&& 858993459) + ((((p0 - (((p0.toUInt32 >>> ((1 : Int32).toUInt32 &&& Int32.toUInt32 31)).toInt32) &&& 1431655765)).toUInt32 >>> ((2 : Int32).toUInt32 &&& Int32.toUInt32 31)).toInt32) &&& 858993459)).toUInt32 >>> ((4 : Int32).toUInt32 &&& Int32.toUInt32 31)).toInt32)) &&& 252645135) + (((((((p0 - (((p0.toUInt32 >>> ((1 : Int32).toUInt32 &&& Int32.toUInt32 31)).toInt32) &&& 1431655765)) &&& 858993459) + ((((p0 - (((p0.toUInt32 >>> ((1 : Int32).toUInt32 &&& Int32.toUInt32 31)).toInt32) &&& 1431655765)).toUInt32 >>> ((2 : Int32).toUInt32 &&& Int32.toUInt32 31)).toInt32) &&& 858993459)) + (((((p0 - (((p0.toUInt32 >>> ((1 : Int32).toUInt32 &&& Int32.toUInt32 31)).toInt32) &&& 1431655765)) &&& 858993459) + ((((p0 - (((p0.toUInt32 >>> ((1 : Int32).toUInt32 &&& Int32.toUInt32 31)).toInt32) &&& 1431655765)).toUInt32 >>> ((2 : Int32).toUInt32 &&& Int32.toUInt32 31)).toInt32) &&& 858993459)).toUInt32 >>> ((4 : Int32).toUInt32 &&& Int32.toUInt32 31)).toInt32)) &&& 252645135).toUInt32 >>> ((8 : Int32).toUInt32 &&& Int32.toUInt32 31)).toInt32)).toUInt32 >>> ((16 : Int32).toUInt32 &&& Int32.toUInt32 31)).toInt32)))]) (st' := [.int ((((((((p0 - (((p0.toUInt32 >>> ((1 : Int32).toUInt32 &&& Int32.toUInt32 31)).toInt32) &&& 1431655765)) &&& 858993459) + ((((p0 - (((p0.toUInt32 >>> ((1 : Int32).toUInt32 &&& Int32.toUInt32 31)).toInt32) &&& 1431655765)).toUInt32 >>> ((2 : Int32).toUInt32 &&& Int32.toUInt32 31)).toInt32) &&& 858993459)) + (((((p0 - (((p0.toUInt32 >>> ((1 : Int32).toUInt32 &&& Int32.toUInt32 31)).toInt32) &&& 1431655765)) &&& 858993459) + ((((p0 - (((p0.toUInt32 >>> ((1 : Int32).toUInt32 &&& Int32.toUInt32 31)).toInt32) &&& 1431655765)).toUInt32 >>> ((2 : Int32).toUInt32 &&& Int32.toUInt32 31)).toInt32) &&& 858993459)).toUInt32 >>> ((4 : Int32).toUInt32 &&& Int32.toUInt32 31)).toInt32)) &&& 252645135) + (((((((p0 - (((p0.toUInt32 >>> ((1 : Int32).toUInt32 &&& Int32.toUInt32 31)).toInt32) &&& 1431655765)) &&& 858993459) + ((((p0 - (((p0.toUInt32 >>> ((1 : Int32).toUInt32 &&& Int32.toUInt32 31)).toInt32) &&& 1431655765)).toUInt32 >>> ((2 : Int32).toUInt32 &&& Int32.toUInt32 31)).toInt32) &&& 858993459)) + (((((p0 - (((p0.toUInt32 >>> ((1 : Int32).toUInt32 &&& Int32.toUInt32 31)).toInt32) &&& 1431655765)) &&& 858993459) + ((((p0 - (((p0.toUInt32 >>> ((1 : Int32).toUInt32 &&& Int32.toUInt32 31)).toInt32) &&& 1431655765)).toUInt32 >>> ((2 : Int32).toUInt32 &&& Int32.toUInt32 31)).toInt32) &&& 858993459)).toUInt32 >>> ((4 : Int32).toUInt32 &&& Int32.toUInt32 31)).toInt32)) &&& 252645135).toUInt32 >>> ((8 : Int32).toUInt32 &&& Int32.toUInt32 31)).toInt32)) + ((((((((p0 - (((p0.toUInt32 >>> ((1 : Int32).toUInt32 &&& Int32.toUInt32 31)).toInt32) &&& 1431655765)) &&& 858993459) + ((((p0 - (((p0.toUInt32 >>> ((1 : Int32).toUInt32 &&& Int32.toUInt32 31)).toInt32) &&& 1431655765)).toUInt32 >>> ((2 : Int32).toUInt32 &&& Int32.toUInt32 31)).toInt32) &&& 858993459)) + (((((p0 - (((p0.toUInt32 >>> ((1 : Int32).toUInt32 &&& Int32.toUInt32 31)).toInt32) &&& 1431655765)) &&& 858993459) + ((((p0 - (((p0.toUInt32 >>> ((1 : Int32).toUInt32 &&& Int32.toUInt32 31)).toInt32) &&& 1431655765)).toUInt32 >>> ((2 : Int32).toUInt32 &&& Int32.toUInt32 31)).toInt32) &&& 858993459)).toUInt32 >>> ((4 : Int32).toUInt32 &&& Int32.toUInt32 31)).toInt32)) &&& 252645135) + (((((((p0 - (((p0.toUInt32 >>> ((1 : Int32).toUInt32 &&& Int32.toUInt32 31)).toInt32) &&& 1431655765)) &&& 858993459) + ((((p0 - (((p0.toUInt32 >>> ((1 : Int32).toUInt32 &&& Int32.toUInt32 31)).toInt32) &&& 1431655765)).toUInt32 >>> ((2 : Int32).toUInt32 &&& Int32.toUInt32 31)).toInt32) &&& 858993459)) + (((((p0 - (((p0.toUInt32 >>> ((1 : Int32).toUInt32 &&& Int32.toUInt32 31)).toInt32) &&& 1431655765)) &&& 858993459) + ((((p0 - (((p0.toUInt32 >>> ((1 : Int32).toUInt32 &&& Int32.toUInt32 31)).toInt32) &&& 1431655765)).toUInt32 >>> ((2 : Int32).toUInt32 &&& Int32.toUInt32 31)).toInt32) &&& 858993459)).toUInt32 >>> ((4 : Int32).toUInt32 &&& Int32.toUInt32 31)).toInt32)) &&& 252645135).toUInt32 >>> ((8 : Int32).toUInt32 &&& Int32.toUInt32 31)).toInt32)).toUInt32 >>> ((16 : Int32).toUInt32 &&& Int32.toUInt32 31)).toInt32)) &&& 63)]) (h' := mkS x S) rfl trivial ?_
    cases hm
    exact Ev.reti tokJ6_bitCount_0f7a4 rfl rfl ⟨rfl, rfl⟩
theorem gpJ6_bitCount_0f7a4 (x : XT) (S : ST) (p0 : Int32) (r : Int32) (S' : ST) (hm : gfJ6_bitCount_0f7a4 x S p0 = some (r, S')) : Ct mJ6_bitCount_0f7a4 1 0 0 [.int p0] (mkS x S) (fun v h => v = some (.int r) ∧ h = mkS x S') :=
  Ct.of (lv := [some (.int p0)]) rfl rfl rfl (show (_ : Nat) ≤ _ from Nat.le_of_ble_eq_true rfl) (fun G => rfl) (bpJ6_bitCount_0f7a4_0 x S p0 r S' hm)
set_option maxHeartbeats 4000000 in
set_option maxRecDepth 20000 in
theorem bpX6_shuts_54_57 (x : XT)  (S : ST) (t0 : Int32) (r : Int32) (S' : ST) (hm : bfX6_shuts_54_57 x  S t0 = some (r, S')) : Ev mX6_shuts 6 0 0 57 [none, none, none, none] [.int t0] (mkS x S) (fun v h => v = some (.int r) ∧ h = mkS x S') := by
    unfold bfX6_shuts_54_57 at hm
    obtain ⟨o1, hm⟩ := oblk hm
    cases hm
    exact Ev.retz tokX6_shuts rfl rfl (bbz_ok o1) ⟨rfl, rfl⟩
set_option maxHeartbeats 4000000 in
set_option maxRecDepth 20000 in
theorem bpX6_shuts_54_35 (x : XT) (k2 : ST → Int32 → Int32 → Int32 → Option (Int32 × ST)) (hk2 : ∀ (S : ST) (v1 : Int32) (v2 : Int32) (v3 : Int32) (r : Int32) (S' : ST), k2 S v1 v2 v3 = some (r, S') → Ev mX6_shuts 6 0 0 2 [some (.ref 54), some (.int v1), some (.int v2), some (.int v3)] [] (mkS x S) (fun v h => v = some (.int r) ∧ h = mkS x S')) (S : ST) (v1 : Int32) (v2 : Int32) (v3 : Int32) (t1 : Int32) (t2 : Int32) (r : Int32) (S' : ST) (hm : bfX6_shuts_54_35 x k2 S v1 v2 v3 t1 t2 = some (r, S')) : Ev mX6_shuts 6 0 0 35 [some (.ref 54), some (.int v1), some (.int v2), some (.int v3)] [.int t2, .int t1, .ref 60] (mkS x S) (fun v h => v = some (.int r) ∧ h = mkS x S') := by
    unfold bfX6_shuts_54_35 at hm
    obtain ⟨o1, hm⟩ := oblk hm
    refine Ev.steps tokX6_shuts 3 (P := vp_in t1 10 ∧ True) (pc' := 2) (lv' := [some (.ref 54), some (.int v1), some (.int v2), some (.int (v3 + 1))]) (st' := []) (h' := mkS x (S.1, (u2 S.2.1 60 t1.toNatClampNeg (vp_nar .boolean t2)), S.2.2.1, S.2.2.2)) rfl ⟨inb_ok o1, trivial⟩ ?_
    exact hk2 (S.1, (u2 S.2.1 60 t1.toNatClampNeg (vp_nar .boolean t2)), S.2.2.1, S.2.2.2) v1 v2 (v3 + 1) _ _ hm
set_option maxHeartbeats 4000000 in
set_option maxRecDepth 20000 in
theorem bpX6_shuts_54_2 (x : XT) (k2 : ST → Int32 → Int32 → Int32 → Option (Int32 × ST)) (hk2 : ∀ (S : ST) (v1 : Int32) (v2 : Int32) (v3 : Int32) (r : Int32) (S' : ST), k2 S v1 v2 v3 = some (r, S') → Ev mX6_shuts 6 0 0 2 [some (.ref 54), some (.int v1), some (.int v2), some (.int v3)] [] (mkS x S) (fun v h => v = some (.int r) ∧ h = mkS x S')) (S : ST) (v1 : Int32) (v2 : Int32) (v3 : Int32) (r : Int32) (S' : ST) (hm : bfX6_shuts_54_2 x k2 S v1 v2 v3 = some (r, S')) : Ev mX6_shuts 6 0 0 2 [some (.ref 54), some (.int v1), some (.int v2), some (.int v3)] [] (mkS x S) (fun v h => v = some (.int r) ∧ h = mkS x S') := by
    unfold bfX6_shuts_54_2 at hm
    refine Ev.steps tokX6_shuts 5 (P := True) (pc' := if (S.1 55 0) ≤ v3 then 42 else 13) (lv' := [some (.ref 54), some (.int v1), some (.int v2), some (.int v3)]) (st' := []) (h' := mkS x S) rfl trivial ?_
    refine Ev.ite (fun c1 => ?_) (fun c1 => ?_)
    · rw [if_pos c1] at hm
      refine Ev.steps tokX6_shuts 3 (P := True) (pc' := 45) (lv' := [some (.ref 54), some (.int v1), some (.int v2), some (.int v3)]) (st' := [.int (-1), .int v2, .ref 54]) (h' := mkS x S) rfl trivial ?_
      cases h2 : gfX6_find_54 x S v2 (-1) with
      | none => rw [h2] at hm; cases hm
      | some q3 =>
        obtain ⟨r4, S5⟩ := q3
        rw [h2] at hm
        dsimp only at hm
        refine ev_callV (N := mX6_find) (d' := 5) (bc := 0) (bs := 0) (bc' := 0) (bs' := 0) (as := [.int v2, .int (-1)]) (rest := []) (a := 54) (ci := 6) (dcd tokX6_shuts rfl) okX6_find inX6_find seX6_find lk6_115 rfl (by decide) (Nat.le_of_ble_eq_true rfl) rfl ⟨by decide, rfl⟩ (gpX6_find_54 x S v2 (-1) _ _ h2) (fun v h' hq hn => ?_)
        obtain ⟨rfl, rfl⟩ := hq
        refine Ev.steps tokX6_shuts 2 (P := True) (pc' := if ¬ r4 = (-1) then 56 else 52) (lv' := [some (.ref 54), some (.int v1), some (.int v2), some (.int v3)]) (st' := []) (h' := mkS x S5) rfl trivial ?_
        refine Ev.ite (fun c6 => ?_) (fun c6 => ?_)
        · rw [if_pos c6] at hm
          refine Ev.steps tokX6_shuts 1 (P := True) (pc' := 57) (lv' := [some (.ref 54), some (.int v1), some (.int v2), some (.int v3)]) (st' := [.int 0]) (h' := mkS x S5) rfl trivial ?_
          refine Ev.fgt (lv' := [none, none, none, none]) trivial ?_
          exact bpX6_shuts_54_57 x S5 0 _ _ hm
        · rw [if_neg c6] at hm
          refine Ev.steps tokX6_shuts 2 (P := True) (pc' := 57) (lv' := [some (.ref 54), some (.int v1), some (.int v2), some (.int v3)]) (st' := [.int 1]) (h' := mkS x S5) rfl trivial ?_
          refine Ev.fgt (lv' := [none, none, none, none]) trivial ?_
          exact bpX6_shuts_54_57 x S5 1 _ _ hm
    · rw [if_neg c1] at hm
      refine Ev.steps tokX6_shuts 11 (P := True) (pc' := if ¬ ((v1 >>> (v3 &&& 31)) &&& 1) = 1 then 34 else 30) (lv' := [some (.ref 54), some (.int v1), some (.int v2), some (.int v3)]) (st' := [.int v3, .ref 60]) (h' := mkS x S) rfl trivial ?_
      refine Ev.ite (fun c7 => ?_) (fun c7 => ?_)
      · rw [if_pos c7] at hm
        refine Ev.steps tokX6_shuts 1 (P := True) (pc' := 35) (lv' := [some (.ref 54), some (.int v1), some (.int v2), some (.int v3)]) (st' := [.int 0, .int v3, .ref 60]) (h' := mkS x S) rfl trivial ?_
        exact bpX6_shuts_54_35 x k2 hk2 S v1 v2 v3 v3 0 _ _ hm
      · rw [if_neg c7] at hm
        refine Ev.steps tokX6_shuts 2 (P := True) (pc' := 35) (lv' := [some (.ref 54), some (.int v1), some (.int v2), some (.int v3)]) (st' := [.int 1, .int v3, .ref 60]) (h' := mkS x S) rfl trivial ?_
        exact bpX6_shuts_54_35 x k2 hk2 S v1 v2 v3 v3 1 _ _ hm
theorem lpX6_shuts_54_2 (x : XT)  : ∀ (n : Nat) (S : ST) (v1 : Int32) (v2 : Int32) (v3 : Int32) (r : Int32) (S' : ST), lfX6_shuts_54_2 x  n S v1 v2 v3 = some (r, S') → Ev mX6_shuts 6 0 0 2 [some (.ref 54), some (.int v1), some (.int v2), some (.int v3)] [] (mkS x S) (fun v h => v = some (.int r) ∧ h = mkS x S')
  | 0, _, _, _, _, _, _, hm => by cases hm
  | n + 1, S, v1, v2, v3, r, S', hm => bpX6_shuts_54_2 x (lfX6_shuts_54_2 x  n) (lpX6_shuts_54_2 x  n) S v1 v2 v3 r S' hm
set_option maxHeartbeats 4000000 in
set_option maxRecDepth 20000 in
theorem bpX6_shuts_54_0 (x : XT)  (S : ST) (p1 : Int32) (p2 : Int32) (r : Int32) (S' : ST) (hm : bfX6_shuts_54_0 x  S p1 p2 = some (r, S')) : Ev mX6_shuts 6 0 0 0 [some (.ref 54), some (.int p1), some (.int p2), none] [] (mkS x S) (fun v h => v = some (.int r) ∧ h = mkS x S') := by
    unfold bfX6_shuts_54_0 at hm
    refine Ev.steps tokX6_shuts 2 (P := True) (pc' := 2) (lv' := [some (.ref 54), some (.int p1), some (.int p2), some (.int 0)]) (st' := []) (h' := mkS x S) rfl trivial ?_
    exact lpX6_shuts_54_2 x  20000 S p1 p2 0 _ _ hm
theorem gpX6_shuts_54 (x : XT) (S : ST) (p1 : Int32) (p2 : Int32) (r : Int32) (S' : ST) (hm : gfX6_shuts_54 x S p1 p2 = some (r, S')) : Ct mX6_shuts 6 0 0 [.ref 54, .int p1, .int p2] (mkS x S) (fun v h => v = some (.int r) ∧ h = mkS x S') :=
  Ct.of (lv := [some (.ref 54), some (.int p1), some (.int p2), none]) rfl rfl rfl (show (_ : Nat) ≤ _ from Nat.le_of_ble_eq_true rfl) (fun G => rfl) (bpX6_shuts_54_0 x S p1 p2 r S' hm)
set_option maxHeartbeats 4000000 in
set_option maxRecDepth 20000 in
theorem bpX6_fewestShut_54_95 (x : XT) (k45 : ST → Int32 → Int32 → Int32 → Option (Int32 × ST)) (hk45 : ∀ (S : ST) (v1 : Int32) (v2 : Int32) (v3 : Int32) (r : Int32) (S' : ST), k45 S v1 v2 v3 = some (r, S') → Ev mX6_fewestShut 7 0 0 45 [some (.ref 54), some (.int v1), some (.int v2), some (.int v3), none] [] (mkS x S) (fun v h => v = some (.int r) ∧ h = mkS x S')) (k54 : ST → Int32 → Int32 → Int32 → Int32 → Option (Int32 × ST)) (hk54 : ∀ (S : ST) (v1 : Int32) (v2 : Int32) (v3 : Int32) (v4 : Int32) (r : Int32) (S' : ST), k54 S v1 v2 v3 v4 = some (r, S') → Ev mX6_fewestShut 7 0 0 54 [some (.ref 54), some (.int v1), some (.int v2), some (.int v3), some (.int v4)] [] (mkS x S) (fun v h => v = some (.int r) ∧ h = mkS x S')) (S : ST) (v1 : Int32) (v2 : Int32) (v3 : Int32) (v4 : Int32) (r : Int32) (S' : ST) (hm : bfX6_fewestShut_54_95 x k45 k54 S v1 v2 v3 v4 = some (r, S')) : Ev mX6_fewestShut 7 0 0 95 [some (.ref 54), some (.int v1), some (.int v2), some (.int v3), some (.int v4)] [] (mkS x S) (fun v h => v = some (.int r) ∧ h = mkS x S') := by
    unfold bfX6_fewestShut_54_95 at hm
    refine Ev.steps tokX6_fewestShut 2 (P := True) (pc' := 54) (lv' := [some (.ref 54), some (.int v1), some (.int v2), some (.int v3), some (.int (v4 + 1))]) (st' := []) (h' := mkS x S) rfl trivial ?_
    exact hk54 S v1 v2 v3 (v4 + 1) _ _ hm
set_option maxHeartbeats 4000000 in
set_option maxRecDepth 20000 in
theorem bpX6_fewestShut_54_54 (x : XT) (k45 : ST → Int32 → Int32 → Int32 → Option (Int32 × ST)) (hk45 : ∀ (S : ST) (v1 : Int32) (v2 : Int32) (v3 : Int32) (r : Int32) (S' : ST), k45 S v1 v2 v3 = some (r, S') → Ev mX6_fewestShut 7 0 0 45 [some (.ref 54), some (.int v1), some (.int v2), some (.int v3), none] [] (mkS x S) (fun v h => v = some (.int r) ∧ h = mkS x S')) (k54 : ST → Int32 → Int32 → Int32 → Int32 → Option (Int32 × ST)) (hk54 : ∀ (S : ST) (v1 : Int32) (v2 : Int32) (v3 : Int32) (v4 : Int32) (r : Int32) (S' : ST), k54 S v1 v2 v3 v4 = some (r, S') → Ev mX6_fewestShut 7 0 0 54 [some (.ref 54), some (.int v1), some (.int v2), some (.int v3), some (.int v4)] [] (mkS x S) (fun v h => v = some (.int r) ∧ h = mkS x S')) (S : ST) (v1 : Int32) (v2 : Int32) (v3 : Int32) (v4 : Int32) (r : Int32) (S' : ST) (hm : bfX6_fewestShut_54_54 x k45 k54 S v1 v2 v3 v4 = some (r, S')) : Ev mX6_fewestShut 7 0 0 54 [some (.ref 54), some (.int v1), some (.int v2), some (.int v3), some (.int v4)] [] (mkS x S) (fun v h => v = some (.int r) ∧ h = mkS x S') := by
    unfold bfX6_fewestShut_54_54 at hm
    refine Ev.steps tokX6_fewestShut 3 (P := True) (pc' := if v2 < v4 then 101 else 60) (lv' := [some (.ref 54), some (.int v1), some (.int v2), some (.int v3), some (.int v4)]) (st' := []) (h' := mkS x S) rfl trivial ?_
    refine Ev.ite (fun c1 => ?_) (fun c1 => ?_)
    · rw [if_pos c1] at hm
      refine Ev.steps tokX6_fewestShut 2 (P := True) (pc' := 45) (lv' := [some (.ref 54), some (.int v1), some (.int v2), some (.int (v3 + 1)), some (.int v4)]) (st' := []) (h' := mkS x S) rfl trivial ?_
      refine Ev.fgt (lv' := [some (.ref 54), some (.int v1), some (.int v2), some (.int (v3 + 1)), none]) ⟨rfl, rfl, rfl, rfl, trivial⟩ ?_
      exact hk45 S v1 v2 (v3 + 1) _ _ hm
    · rw [if_neg c1] at hm
      refine Ev.steps tokX6_fewestShut 5 (P := True) (pc' := if ¬ (v4 &&& v2) = v4 then 95 else 69) (lv' := [some (.ref 54), some (.int v1), some (.int v2), some (.int v3), some (.int v4)]) (st' := []) (h' := mkS x S) rfl trivial ?_
      refine Ev.ite (fun c2 => ?_) (fun c2 => ?_)
      · rw [if_pos c2] at hm
        exact bpX6_fewestShut_54_95 x k45 hk45 k54 hk54 S v1 v2 v3 v4 _ _ hm
      · rw [if_neg c2] at hm
        refine Ev.steps tokX6_fewestShut 1 (P := True) (pc' := 71) (lv' := [some (.ref 54), some (.int v1), some (.int v2), some (.int v3), some (.int v4)]) (st' := [.int v4]) (h' := mkS x S) rfl trivial ?_
        cases h3 : gfJ6_bitCount_0f7a4 x S v4 with
        | none => rw [h3] at hm; cases hm
        | some q4 =>
          obtain ⟨r5, S6⟩ := q4
          rw [h3] at hm
          dsimp only at hm
          refine ev_callS (N := mJ6_bitCount_0f7a4) (d' := 1) (bc := 0) (bs := 0) (bc' := 0) (bs' := 0) (as := [.int v4]) (rest := []) (dcd tokX6_fewestShut rfl) okJ6_bitCount_0f7a4 inJ6_bitCount_0f7a4 lk6_144 rfl (by decide) (Nat.le_of_ble_eq_true rfl) (gpJ6_bitCount_0f7a4 x S v4 _ _ h3) (fun v h' hq hn => ?_)
          obtain ⟨rfl, rfl⟩ := hq
          refine Ev.steps tokX6_fewestShut 2 (P := True) (pc' := if ¬ r5 = v3 then 95 else 78) (lv' := [some (.ref 54), some (.int v1), some (.int v2), some (.int v3), some (.int v4)]) (st' := []) (h' := mkS x S6) rfl trivial ?_
          refine Ev.ite (fun c7 => ?_) (fun c7 => ?_)
          · rw [if_pos c7] at hm
            exact bpX6_fewestShut_54_95 x k45 hk45 k54 hk54 S6 v1 v2 v3 v4 _ _ hm
          · rw [if_neg c7] at hm
            refine Ev.steps tokX6_fewestShut 7 (P := True) (pc' := 86) (lv' := [some (.ref 54), some (.int v1), some (.int v2), some (.int v3), some (.int v4)]) (st' := [.int v1, .int (v2 &&& (v4 ^^^ (-1))), .ref 54]) (h' := mkS x S6) rfl trivial ?_
            cases h8 : gfX6_shuts_54 x S6 (v2 &&& (v4 ^^^ (-1))) v1 with
            | none => rw [h8] at hm; cases hm
            | some q9 =>
              obtain ⟨r10, S11⟩ := q9
              rw [h8] at hm
              dsimp only at hm
              refine ev_callV (N := mX6_shuts) (d' := 6) (bc := 0) (bs := 0) (bc' := 0) (bs' := 0) (as := [.int (v2 &&& (v4 ^^^ (-1))), .int v1]) (rest := []) (a := 54) (ci := 6) (dcd tokX6_fewestShut rfl) okX6_shuts inX6_shuts seX6_shuts lk6_150 rfl (by decide) (Nat.le_of_ble_eq_true rfl) rfl ⟨by decide, rfl⟩ (gpX6_shuts_54 x S6 (v2 &&& (v4 ^^^ (-1))) v1 _ _ h8) (fun v h' hq hn => ?_)
              obtain ⟨rfl, rfl⟩ := hq
              refine Ev.steps tokX6_fewestShut 1 (P := True) (pc' := if r10 = 0 then 95 else 92) (lv' := [some (.ref 54), some (.int v1), some (.int v2), some (.int v3), some (.int v4)]) (st' := []) (h' := mkS x S11) rfl trivial ?_
              refine Ev.ite (fun c12 => ?_) (fun c12 => ?_)
              · rw [if_pos c12] at hm
                exact bpX6_fewestShut_54_95 x k45 hk45 k54 hk54 S11 v1 v2 v3 v4 _ _ hm
              · rw [if_neg c12] at hm
                refine Ev.steps tokX6_fewestShut 1 (P := True) (pc' := 94) (lv' := [some (.ref 54), some (.int v1), some (.int v2), some (.int v3), some (.int v4)]) (st' := [.int v4]) (h' := mkS x S11) rfl trivial ?_
                cases hm
                exact Ev.reti tokX6_fewestShut rfl rfl ⟨rfl, rfl⟩
theorem lpX6_fewestShut_54_54 (x : XT) (k45 : ST → Int32 → Int32 → Int32 → Option (Int32 × ST)) (hk45 : ∀ (S : ST) (v1 : Int32) (v2 : Int32) (v3 : Int32) (r : Int32) (S' : ST), k45 S v1 v2 v3 = some (r, S') → Ev mX6_fewestShut 7 0 0 45 [some (.ref 54), some (.int v1), some (.int v2), some (.int v3), none] [] (mkS x S) (fun v h => v = some (.int r) ∧ h = mkS x S')) : ∀ (n : Nat) (S : ST) (v1 : Int32) (v2 : Int32) (v3 : Int32) (v4 : Int32) (r : Int32) (S' : ST), lfX6_fewestShut_54_54 x k45 n S v1 v2 v3 v4 = some (r, S') → Ev mX6_fewestShut 7 0 0 54 [some (.ref 54), some (.int v1), some (.int v2), some (.int v3), some (.int v4)] [] (mkS x S) (fun v h => v = some (.int r) ∧ h = mkS x S')
  | 0, _, _, _, _, _, _, _, hm => by cases hm
  | n + 1, S, v1, v2, v3, v4, r, S', hm => bpX6_fewestShut_54_54 x k45 hk45 (lfX6_fewestShut_54_54 x k45 n) (lpX6_fewestShut_54_54 x k45 hk45 n) S v1 v2 v3 v4 r S' hm
set_option maxHeartbeats 4000000 in
set_option maxRecDepth 20000 in
theorem bpX6_fewestShut_54_45 (x : XT) (k45 : ST → Int32 → Int32 → Int32 → Option (Int32 × ST)) (hk45 : ∀ (S : ST) (v1 : Int32) (v2 : Int32) (v3 : Int32) (r : Int32) (S' : ST), k45 S v1 v2 v3 = some (r, S') → Ev mX6_fewestShut 7 0 0 45 [some (.ref 54), some (.int v1), some (.int v2), some (.int v3), none] [] (mkS x S) (fun v h => v = some (.int r) ∧ h = mkS x S')) (S : ST) (v1 : Int32) (v2 : Int32) (v3 : Int32) (r : Int32) (S' : ST) (hm : bfX6_fewestShut_54_45 x k45 S v1 v2 v3 = some (r, S')) : Ev mX6_fewestShut 7 0 0 45 [some (.ref 54), some (.int v1), some (.int v2), some (.int v3), none] [] (mkS x S) (fun v h => v = some (.int r) ∧ h = mkS x S') := by
    unfold bfX6_fewestShut_54_45 at hm
    refine Ev.steps tokX6_fewestShut 3 (P := True) (pc' := if 10 ≤ v3 then 107 else 51) (lv' := [some (.ref 54), some (.int v1), some (.int v2), some (.int v3), none]) (st' := []) (h' := mkS x S) rfl trivial ?_
    refine Ev.ite (fun c1 => ?_) (fun c1 => ?_)
    · rw [if_pos c1] at hm
      refine Ev.steps tokX6_fewestShut 1 (P := True) (pc' := 108) (lv' := [some (.ref 54), some (.int v1), some (.int v2), some (.int v3), none]) (st' := [.int v2]) (h' := mkS x S) rfl trivial ?_
      cases hm
      exact Ev.reti tokX6_fewestShut rfl rfl ⟨rfl, rfl⟩
    · rw [if_neg c1] at hm
      refine Ev.steps tokX6_fewestShut 2 (P := True) (pc' := 54) (lv' := [some (.ref 54), some (.int v1), some (.int v2), some (.int v3), some (.int 0)]) (st' := []) (h' := mkS x S) rfl trivial ?_
      exact lpX6_fewestShut_54_54 x k45 hk45 20000 S v1 v2 v3 0 _ _ hm
theorem lpX6_fewestShut_54_45 (x : XT)  : ∀ (n : Nat) (S : ST) (v1 : Int32) (v2 : Int32) (v3 : Int32) (r : Int32) (S' : ST), lfX6_fewestShut_54_45 x  n S v1 v2 v3 = some (r, S') → Ev mX6_fewestShut 7 0 0 45 [some (.ref 54), some (.int v1), some (.int v2), some (.int v3), none] [] (mkS x S) (fun v h => v = some (.int r) ∧ h = mkS x S')
  | 0, _, _, _, _, _, _, hm => by cases hm
  | n + 1, S, v1, v2, v3, r, S', hm => bpX6_fewestShut_54_45 x (lfX6_fewestShut_54_45 x  n) (lpX6_fewestShut_54_45 x  n) S v1 v2 v3 r S' hm
set_option maxHeartbeats 4000000 in
set_option maxRecDepth 20000 in
theorem bpX6_fewestShut_54_35 (x : XT) (k4 : ST → Int32 → Int32 → Int32 → Option (Int32 × ST)) (hk4 : ∀ (S : ST) (v1 : Int32) (v2 : Int32) (v3 : Int32) (r : Int32) (S' : ST), k4 S v1 v2 v3 = some (r, S') → Ev mX6_fewestShut 7 0 0 4 [some (.ref 54), some (.int v1), some (.int v2), some (.int v3), none] [] (mkS x S) (fun v h => v = some (.int r) ∧ h = mkS x S')) (S : ST) (v1 : Int32) (v3 : Int32) (t0 : Int32) (t1 : Int32) (r : Int32) (S' : ST) (hm : bfX6_fewestShut_54_35 x k4 S v1 v3 t0 t1 = some (r, S')) : Ev mX6_fewestShut 7 0 0 35 [some (.ref 54), some (.int v1), none, some (.int v3), none] [.int t1, .int t0] (mkS x S) (fun v h => v = some (.int r) ∧ h = mkS x S') := by
    unfold bfX6_fewestShut_54_35 at hm
    refine Ev.steps tokX6_fewestShut 4 (P := True) (pc' := 4) (lv' := [some (.ref 54), some (.int v1), some (.int (t0 ||| t1)), some (.int (v3 + 1)), none]) (st' := []) (h' := mkS x S) rfl trivial ?_
    exact hk4 S v1 (t0 ||| t1) (v3 + 1) _ _ hm
set_option maxHeartbeats 4000000 in
set_option maxRecDepth 20000 in
theorem bpX6_fewestShut_54_4 (x : XT) (k4 : ST → Int32 → Int32 → Int32 → Option (Int32 × ST)) (hk4 : ∀ (S : ST) (v1 : Int32) (v2 : Int32) (v3 : Int32) (r : Int32) (S' : ST), k4 S v1 v2 v3 = some (r, S') → Ev mX6_fewestShut 7 0 0 4 [some (.ref 54), some (.int v1), some (.int v2), some (.int v3), none] [] (mkS x S) (fun v h => v = some (.int r) ∧ h = mkS x S')) (S : ST) (v1 : Int32) (v2 : Int32) (v3 : Int32) (r : Int32) (S' : ST) (hm : bfX6_fewestShut_54_4 x k4 S v1 v2 v3 = some (r, S')) : Ev mX6_fewestShut 7 0 0 4 [some (.ref 54), some (.int v1), some (.int v2), some (.int v3), none] [] (mkS x S) (fun v h => v = some (.int r) ∧ h = mkS x S') := by
    unfold bfX6_fewestShut_54_4 at hm
    refine Ev.steps tokX6_fewestShut 5 (P := True) (pc' := if (S.1 55 0) ≤ v3 then 43 else 15) (lv' := [some (.ref 54), some (.int v1), some (.int v2), some (.int v3), none]) (st' := []) (h' := mkS x S) rfl trivial ?_
    refine Ev.ite (fun c1 => ?_) (fun c1 => ?_)
    · rw [if_pos c1] at hm
      refine Ev.steps tokX6_fewestShut 2 (P := True) (pc' := 45) (lv' := [some (.ref 54), some (.int v1), some (.int v2), some (.int 0), none]) (st' := []) (h' := mkS x S) rfl trivial ?_
      exact lpX6_fewestShut_54_45 x  20000 S v1 v2 0 _ _ hm
    · rw [if_neg c1] at hm
      obtain ⟨o2, hm⟩ := oblk hm
      refine Ev.steps tokX6_fewestShut 7 (P := vp_in v3 10 ∧ True) (pc' := if (S.2.1 60 v3.toNatClampNeg) = 0 then 34 else 28) (lv' := [some (.ref 54), some (.int v1), some (.int v2), some (.int v3), none]) (st' := [.int v2]) (h' := mkS x S) rfl ⟨inb_ok o2, trivial⟩ ?_
      refine Ev.ite (fun c3 => ?_) (fun c3 => ?_)
      · rw [if_pos c3] at hm
        refine Ev.steps tokX6_fewestShut 1 (P := True) (pc' := 35) (lv' := [some (.ref 54), some (.int v1), some (.int v2), some (.int v3), none]) (st' := [.int 0, .int v2]) (h' := mkS x S) rfl trivial ?_
        refine Ev.fgt (lv' := [some (.ref 54), some (.int v1), none, some (.int v3), none]) ⟨rfl, rfl, rfl, trivial⟩ ?_
        exact bpX6_fewestShut_54_35 x k4 hk4 S v1 v3 v2 0 _ _ hm
      · rw [if_neg c3] at hm
        refine Ev.steps tokX6_fewestShut 4 (P := True) (pc' := 35) (lv' := [some (.ref 54), some (.int v1), some (.int v2), some (.int v3), none]) (st' := [.int (1 <<< (v3 &&& 31)), .int v2]) (h' := mkS x S) rfl trivial ?_
        refine Ev.fgt (lv' := [some (.ref 54), some (.int v1), none, some (.int v3), none]) ⟨rfl, rfl, rfl, trivial⟩ ?_
        exact bpX6_fewestShut_54_35 x k4 hk4 S v1 v3 v2 (1 <<< (v3 &&& 31)) _ _ hm
theorem lpX6_fewestShut_54_4 (x : XT)  : ∀ (n : Nat) (S : ST) (v1 : Int32) (v2 : Int32) (v3 : Int32) (r : Int32) (S' : ST), lfX6_fewestShut_54_4 x  n S v1 v2 v3 = some (r, S') → Ev mX6_fewestShut 7 0 0 4 [some (.ref 54), some (.int v1), some (.int v2), some (.int v3), none] [] (mkS x S) (fun v h => v = some (.int r) ∧ h = mkS x S')
  | 0, _, _, _, _, _, _, hm => by cases hm
  | n + 1, S, v1, v2, v3, r, S', hm => bpX6_fewestShut_54_4 x (lfX6_fewestShut_54_4 x  n) (lpX6_fewestShut_54_4 x  n) S v1 v2 v3 r S' hm
set_option maxHeartbeats 4000000 in
set_option maxRecDepth 20000 in
theorem bpX6_fewestShut_54_0 (x : XT)  (S : ST) (p1 : Int32) (r : Int32) (S' : ST) (hm : bfX6_fewestShut_54_0 x  S p1 = some (r, S')) : Ev mX6_fewestShut 7 0 0 0 [some (.ref 54), some (.int p1), none, none, none] [] (mkS x S) (fun v h => v = some (.int r) ∧ h = mkS x S') := by
    unfold bfX6_fewestShut_54_0 at hm
    refine Ev.steps tokX6_fewestShut 4 (P := True) (pc' := 4) (lv' := [some (.ref 54), some (.int p1), some (.int 0), some (.int 0), none]) (st' := []) (h' := mkS x S) rfl trivial ?_
    exact lpX6_fewestShut_54_4 x  20000 S p1 0 0 _ _ hm
theorem gpX6_fewestShut_54 (x : XT) (S : ST) (p1 : Int32) (r : Int32) (S' : ST) (hm : gfX6_fewestShut_54 x S p1 = some (r, S')) : Ct mX6_fewestShut 7 0 0 [.ref 54, .int p1] (mkS x S) (fun v h => v = some (.int r) ∧ h = mkS x S') :=
  Ct.of (lv := [some (.ref 54), some (.int p1), none, none, none]) rfl rfl rfl (show (_ : Nat) ≤ _ from Nat.le_of_ble_eq_true rfl) (fun G => rfl) (bpX6_fewestShut_54_0 x S p1 r S' hm)
set_option maxHeartbeats 4000000 in
set_option maxRecDepth 20000 in
theorem bpX10_cut_0_31 (x : XT)  (S : ST)  (r : Int32) (S' : ST) (hm : bfX10_cut_0_31 x  S  = some (r, S')) : Ev mX10_cut 8 0 0 31 [none, none, none, none, none] [] (mkS x S) (fun v h => v = some (.int r) ∧ h = mkS x S') := by
    unfold bfX10_cut_0_31 at hm
    refine Ev.steps tokX10_cut 1 (P := True) (pc' := 32) (lv' := [none, none, none, none, none]) (st' := [.int (-1)]) (h' := mkS x S) rfl trivial ?_
    cases hm
    exact Ev.reti tokX10_cut rfl rfl ⟨rfl, rfl⟩
set_option maxHeartbeats 4000000 in
set_option maxRecDepth 20000 in
theorem bpX10_cut_0_69 (x : XT)  (S : ST) (t0 : Int32) (r : Int32) (S' : ST) (hm : bfX10_cut_0_69 x  S t0 = some (r, S')) : Ev mX10_cut 8 0 0 69 [none, none, none, none, none] [.int t0] (mkS x S) (fun v h => v = some (.int r) ∧ h = mkS x S') := by
    unfold bfX10_cut_0_69 at hm
    cases hm
    exact Ev.reti tokX10_cut rfl rfl ⟨rfl, rfl⟩
set_option maxHeartbeats 4000000 in
set_option maxRecDepth 20000 in
theorem bpX10_cut_0_0 (x : XT)  (S : ST) (p1 : Int32) (p2 : Int32) (p3 : Int32) (r : Int32) (S' : ST) (hm : bfX10_cut_0_0 x  S p1 p2 p3 = some (r, S')) : Ev mX10_cut 8 0 0 0 [some (.ref 0), some (.int p1), some (.int p2), some (.int p3), none] [] (mkS x S) (fun v h => v = some (.int r) ∧ h = mkS x S') := by
    unfold bfX10_cut_0_0 at hm
    refine Ev.steps tokX10_cut 4 (P := True) (pc' := 4) (lv' := [some (.ref 0), some (.int p1), some (.int p2), some (.int p3), none]) (st' := [.int (-1), .int p2, .int p1, .ref 0]) (h' := mkS x S) rfl trivial ?_
    cases h1 : gfX10_canSeek_0 x S p1 p2 (-1) with
    | none => rw [h1] at hm; cases hm
    | some q2 =>
      obtain ⟨r3, S4⟩ := q2
      rw [h1] at hm
      dsimp only at hm
      refine ev_callV (N := mX10_canSeek) (d' := 2) (bc := 0) (bs := 0) (bc' := 0) (bs' := 0) (as := [.int p1, .int p2, .int (-1)]) (rest := []) (a := 0) (ci := 10) (dcd tokX10_cut rfl) okX10_canSeek inX10_canSeek seX10_canSeek lk10_241 rfl (by decide) (Nat.le_of_ble_eq_true rfl) rfl ⟨by decide, rfl⟩ (gpX10_canSeek_0 x S p1 p2 (-1) _ _ h1) (fun v h' hq hn => ?_)
      obtain ⟨rfl, rfl⟩ := hq
      refine Ev.steps tokX10_cut 1 (P := True) (pc' := if r3 = 0 then 31 else 10) (lv' := [some (.ref 0), some (.int p1), some (.int p2), some (.int p3), none]) (st' := []) (h' := mkS x S4) rfl trivial ?_
      refine Ev.ite (fun c5 => ?_) (fun c5 => ?_)
      · rw [if_pos c5] at hm
        refine Ev.fgt (lv' := [none, none, none, none, none]) trivial ?_
        exact bpX10_cut_0_31 x S4 _ _ hm
      · rw [if_neg c5] at hm
        refine Ev.steps tokX10_cut 2 (P := True) (pc' := 12) (lv' := [some (.ref 0), some (.int p1), some (.int p2), some (.int p3), none]) (st' := [.int 2, .int p3]) (h' := mkS x S4) rfl trivial ?_
        cases h6 : gfX10_within x S4 p3 2 with
        | none => rw [h6] at hm; cases hm
        | some q7 =>
          obtain ⟨r8, S9⟩ := q7
          rw [h6] at hm
          dsimp only at hm
          refine ev_callS (N := mX10_within) (d' := 1) (bc := 0) (bs := 0) (bc' := 0) (bs' := 0) (as := [.int p3, .int 2]) (rest := []) (dcd tokX10_cut rfl) okX10_within inX10_within lk10_153 rfl (by decide) (Nat.le_of_ble_eq_true rfl) (gpX10_within x S4 p3 2 _ _ h6) (fun v h' hq hn => ?_)
          obtain ⟨rfl, rfl⟩ := hq
          refine Ev.steps tokX10_cut 1 (P := True) (pc' := if r8 = 0 then 31 else 18) (lv' := [some (.ref 0), some (.int p1), some (.int p2), some (.int p3), none]) (st' := []) (h' := mkS x S9) rfl trivial ?_
          refine Ev.ite (fun c10 => ?_) (fun c10 => ?_)
          · rw [if_pos c10] at hm
            refine Ev.fgt (lv' := [none, none, none, none, none]) trivial ?_
            exact bpX10_cut_0_31 x S9 _ _ hm
          · rw [if_neg c10] at hm
            obtain ⟨o11, hm⟩ := oblk hm
            refine Ev.steps tokX10_cut 7 (P := vp_in p1 5 ∧ True) (pc' := if ¬ (S9.2.1 7 p1.toNatClampNeg) = p2 then 33 else 31) (lv' := [some (.ref 0), some (.int p1), some (.int p2), some (.int p3), none]) (st' := []) (h' := mkS x S9) rfl ⟨inb_ok o11, trivial⟩ ?_
            refine Ev.ite (fun c12 => ?_) (fun c12 => ?_)
            · rw [if_pos c12] at hm
              refine Ev.steps tokX10_cut 5 (P := True) (pc' := 42) (lv' := [some (.ref 0), some (.int p1), some (.int p2), some (.int p3), none]) (st' := [.int p1, .ref 1, .ref 54]) (h' := mkS x S9) rfl trivial ?_
              cases h13 : gfX6_begin_54_1 x S9 p1 with
              | none => rw [h13] at hm; cases hm
              | some q14 =>
                obtain ⟨r15, S16⟩ := q14
                rw [h13] at hm
                dsimp only at hm
                refine ev_callV (N := mX6_begin) (d' := 2) (bc := 0) (bs := 0) (bc' := 0) (bs' := 0) (as := [.ref 1, .int p1]) (rest := []) (a := 54) (ci := 6) (dcd tokX10_cut rfl) okX6_begin inX6_begin seX6_begin lk10_245 rfl (by decide) (Nat.le_of_ble_eq_true rfl) rfl ⟨by decide, rfl⟩ (gpX6_begin_54_1 x S9 p1 _ _ h13) (fun v h' hq hn => ?_)
                obtain ⟨rfl, rfl⟩ := hq
                refine Ev.steps tokX10_cut 3 (P := True) (pc' := 50) (lv' := [some (.ref 0), some (.int p1), some (.int p2), some (.int p3), none]) (st' := [.int p2, .ref 54]) (h' := mkS x S16) rfl trivial ?_
                cases h17 : gfX6_fewestShut_54 x S16 p2 with
                | none => rw [h17] at hm; cases hm
                | some q18 =>
                  obtain ⟨r19, S20⟩ := q18
                  rw [h17] at hm
                  dsimp only at hm
                  refine ev_callV (N := mX6_fewestShut) (d' := 7) (bc := 0) (bs := 0) (bc' := 0) (bs' := 0) (as := [.int p2]) (rest := []) (a := 54) (ci := 6) (dcd tokX10_cut rfl) okX6_fewestShut inX6_fewestShut seX6_fewestShut lk10_283 rfl (by decide) (Nat.le_of_ble_eq_true rfl) rfl ⟨by decide, rfl⟩ (gpX6_fewestShut_54 x S16 p2 _ _ h17) (fun v h' hq hn => ?_)
                  obtain ⟨rfl, rfl⟩ := hq
                  refine Ev.steps tokX10_cut 3 (P := True) (pc' := if ¬ p3 = 0 then 67 else 59) (lv' := [some (.ref 0), some (.int p1), some (.int p2), some (.int p3), some (.int r19)]) (st' := []) (h' := mkS x S20) rfl trivial ?_
                  refine Ev.ite (fun c21 => ?_) (fun c21 => ?_)
                  · rw [if_pos c21] at hm
                    refine Ev.steps tokX10_cut 1 (P := True) (pc' := 69) (lv' := [some (.ref 0), some (.int p1), some (.int p2), some (.int p3), some (.int r19)]) (st' := [.int r19]) (h' := mkS x S20) rfl trivial ?_
                    refine Ev.fgt (lv' := [none, none, none, none, none]) trivial ?_
                    exact bpX10_cut_0_69 x S20 r19 _ _ hm
                  · rw [if_neg c21] at hm
                    refine Ev.steps tokX10_cut 1 (P := True) (pc' := 61) (lv' := [some (.ref 0), some (.int p1), some (.int p2), some (.int p3), some (.int r19)]) (st' := [.int r19]) (h' := mkS x S20) rfl trivial ?_
                    cases h22 : gfJ6_bitCount_0f7a4 x S20 r19 with
                    | none => rw [h22] at hm; cases hm
                    | some q23 =>
                      obtain ⟨r24, S25⟩ := q23
                      rw [h22] at hm
                      dsimp only at hm
                      refine ev_callS (N := mJ6_bitCount_0f7a4) (d' := 1) (bc := 0) (bs := 0) (bc' := 0) (bs' := 0) (as := [.int r19]) (rest := []) (dcd tokX10_cut rfl) okJ6_bitCount_0f7a4 inJ6_bitCount_0f7a4 lk10_286 rfl (by decide) (Nat.le_of_ble_eq_true rfl) (gpJ6_bitCount_0f7a4 x S20 r19 _ _ h22) (fun v h' hq hn => ?_)
                      obtain ⟨rfl, rfl⟩ := hq
                      refine Ev.steps tokX10_cut 1 (P := True) (pc' := 69) (lv' := [some (.ref 0), some (.int p1), some (.int p2), some (.int p3), some (.int r19)]) (st' := [.int r24]) (h' := mkS x S25) rfl trivial ?_
                      refine Ev.fgt (lv' := [none, none, none, none, none]) trivial ?_
                      exact bpX10_cut_0_69 x S25 r24 _ _ hm
            · rw [if_neg c12] at hm
              refine Ev.fgt (lv' := [none, none, none, none, none]) trivial ?_
              exact bpX10_cut_0_31 x S9 _ _ hm
theorem gpX10_cut_0 (x : XT) (S : ST) (p1 : Int32) (p2 : Int32) (p3 : Int32) (r : Int32) (S' : ST) (hm : gfX10_cut_0 x S p1 p2 p3 = some (r, S')) : Ct mX10_cut 8 0 0 [.ref 0, .int p1, .int p2, .int p3] (mkS x S) (fun v h => v = some (.int r) ∧ h = mkS x S') :=
  Ct.of (lv := [some (.ref 0), some (.int p1), some (.int p2), some (.int p3), none]) rfl rfl rfl (show (_ : Nat) ≤ _ from Nat.le_of_ble_eq_true rfl) (fun G => rfl) (bpX10_cut_0_0 x S p1 p2 p3 r S' hm)
set_option maxHeartbeats 4000000 in
set_option maxRecDepth 20000 in
theorem bpX6_keepSteps_54_0 (x : XT)  (S : ST)  (r : Unit) (S' : ST) (hm : bfX6_keepSteps_54_0 x  S  = some (r, S')) : Ev mX6_keepSteps 7 0 0 0 [some (.ref 54)] [] (mkS x S) (fun v h => v = none ∧ h = mkS x S') := by
    unfold bfX6_keepSteps_54_0 at hm
    refine Ev.steps tokX6_keepSteps 1 (P := True) (pc' := 1) (lv' := [some (.ref 54)]) (st' := [.ref 54]) (h' := mkS x S) rfl trivial ?_
    cases h1 : gfX6_findAll_54 x S with
    | none => rw [h1] at hm; cases hm
    | some q2 =>
      obtain ⟨r3, S4⟩ := q2
      rw [h1] at hm
      dsimp only at hm
      refine ev_callV (N := mX6_findAll) (d' := 6) (bc := 0) (bs := 0) (bc' := 0) (bs' := 0) (as := []) (rest := []) (a := 54) (ci := 6) (dcd tokX6_keepSteps rfl) okX6_findAll inX6_findAll seX6_findAll lk6_118 rfl (by decide) (Nat.le_of_ble_eq_true rfl) rfl ⟨by decide, rfl⟩ (gpX6_findAll_54 x S _ _ h1) (fun v h' hq hn => ?_)
      obtain ⟨rfl, rfl⟩ := hq
      refine Ev.steps tokX6_keepSteps 7 (P := True) (pc' := 16) (lv' := [some (.ref 54)]) (st' := [.int 120, .int 0, .ref 75, .int 0, .ref 72]) (h' := mkS x S4) rfl trivial ?_
      refine ev_copyi (sp' := 0) (dp' := 0) (n' := 120) (dcd tokX6_keepSteps rfl) lk6_135 mt_ac.2 mt_ac.1 mt_in.2 (by decide) (Nat.le_of_ble_eq_true rfl) rfl rfl (by decide) (by decide) (by decide) (by decide) (by decide) (by decide) (Nat.le_of_ble_eq_true rfl) (Nat.le_of_ble_eq_true rfl) ?_
      cases hm
      exact Ev.retv tokX6_keepSteps rfl rfl ⟨rfl, rfl⟩
theorem gpX6_keepSteps_54 (x : XT) (S : ST)  (r : Unit) (S' : ST) (hm : gfX6_keepSteps_54 x S  = some (r, S')) : Ct mX6_keepSteps 7 0 0 [.ref 54] (mkS x S) (fun v h => v = none ∧ h = mkS x S') :=
  Ct.of (lv := [some (.ref 54)]) rfl rfl rfl (show (_ : Nat) ≤ _ from Nat.le_of_ble_eq_true rfl) (fun G => rfl) (bpX6_keepSteps_54_0 x S  r S' hm)
set_option maxHeartbeats 4000000 in
set_option maxRecDepth 20000 in
theorem bpX6_longerSteps_54_28 (x : XT)  (S : ST) (t0 : Int32) (r : Int32) (S' : ST) (hm : bfX6_longerSteps_54_28 x  S t0 = some (r, S')) : Ev mX6_longerSteps 2 0 0 28 [none, none] [.int t0] (mkS x S) (fun v h => v = some (.int r) ∧ h = mkS x S') := by
    unfold bfX6_longerSteps_54_28 at hm
    cases hm
    exact Ev.reti tokX6_longerSteps rfl rfl ⟨rfl, rfl⟩
set_option maxHeartbeats 4000000 in
set_option maxRecDepth 20000 in
theorem bpX6_longerSteps_54_0 (x : XT)  (S : ST) (p1 : Int32) (r : Int32) (S' : ST) (hm : bfX6_longerSteps_54_0 x  S p1 = some (r, S')) : Ev mX6_longerSteps 2 0 0 0 [some (.ref 54), some (.int p1)] [] (mkS x S) (fun v h => v = some (.int r) ∧ h = mkS x S') := by
    unfold bfX6_longerSteps_54_0 at hm
    refine Ev.steps tokX6_longerSteps 2 (P := True) (pc' := 3) (lv' := [some (.ref 54), some (.int p1)]) (st' := [.int 120, .int p1]) (h' := mkS x S) rfl trivial ?_
    cases h1 : gfX10_within x S p1 120 with
    | none => rw [h1] at hm; cases hm
    | some q2 =>
      obtain ⟨r3, S4⟩ := q2
      rw [h1] at hm
      dsimp only at hm
      refine ev_callSN (N := mX10_within) (d' := 1) (bc := 0) (bs := 0) (bc' := 0) (bs' := 0) (as := [.int p1, .int 120]) (rest := []) (dcd tokX6_longerSteps rfl) okX10_within inX10_within lk6_157 rfl (by decide) (Nat.le_of_ble_eq_true rfl) (gpX10_within x S p1 120 _ _ h1) (fun v h' hq hn => ?_)
      obtain ⟨rfl, rfl⟩ := hq
      refine Ev.steps tokX6_longerSteps 1 (P := True) (pc' := if r3 = 0 then 27 else 9) (lv' := [some (.ref 54), some (.int p1)]) (st' := []) (h' := mkS x S4) rfl trivial ?_
      refine Ev.ite (fun c5 => ?_) (fun c5 => ?_)
      · rw [if_pos c5] at hm
        refine Ev.steps tokX6_longerSteps 1 (P := True) (pc' := 28) (lv' := [some (.ref 54), some (.int p1)]) (st' := [.int (-1)]) (h' := mkS x S4) rfl trivial ?_
        refine Ev.fgt (lv' := [none, none]) trivial ?_
        exact bpX6_longerSteps_54_28 x S4 (-1) _ _ hm
      · rw [if_neg c5] at hm
        obtain ⟨o6, hm⟩ := oblk hm
        obtain ⟨o7, hm⟩ := oblk hm
        refine Ev.steps tokX6_longerSteps 8 (P := vp_in p1 120 ∧ vp_in p1 120 ∧ True) (pc' := 21) (lv' := [some (.ref 54), some (.int p1)]) (st' := [.int (S4.2.1 75 p1.toNatClampNeg), .int (S4.2.1 72 p1.toNatClampNeg)]) (h' := mkS x S4) rfl ⟨inb_ok o6, inb_ok o7, trivial⟩ ?_
        refine ev_max (dcd tokX6_longerSteps rfl) lk6_160 mt_max.1 mt_in.1 mt_max.2 (by decide) (Nat.le_of_ble_eq_true rfl) ?_
        refine Ev.steps tokX6_longerSteps 1 (P := True) (pc' := 28) (lv' := [some (.ref 54), some (.int p1)]) (st' := [.int (if (S4.2.1 72 p1.toNatClampNeg) < (S4.2.1 75 p1.toNatClampNeg) then (S4.2.1 75 p1.toNatClampNeg) else (S4.2.1 72 p1.toNatClampNeg))]) (h' := mkS x S4) rfl trivial ?_
        refine Ev.fgt (lv' := [none, none]) trivial ?_
        exact bpX6_longerSteps_54_28 x S4 (if (S4.2.1 72 p1.toNatClampNeg) < (S4.2.1 75 p1.toNatClampNeg) then (S4.2.1 75 p1.toNatClampNeg) else (S4.2.1 72 p1.toNatClampNeg)) _ _ hm
theorem gpX6_longerSteps_54 (x : XT) (S : ST) (p1 : Int32) (r : Int32) (S' : ST) (hm : gfX6_longerSteps_54 x S p1 = some (r, S')) : Ct mX6_longerSteps 2 0 0 [.ref 54, .int p1] (mkS x S) (fun v h => v = some (.int r) ∧ h = mkS x S') :=
  Ct.of (lv := [some (.ref 54), some (.int p1)]) rfl rfl rfl (show (_ : Nat) ≤ _ from Nat.le_of_ble_eq_true rfl) (fun G => rfl) (bpX6_longerSteps_54_0 x S p1 r S' hm)
set_option maxHeartbeats 4000000 in
set_option maxRecDepth 20000 in
theorem bpX6_meetingPlace_54_54 (x : XT) (k8 : ST → Int32 → Int32 → Option (Int32 × ST)) (hk8 : ∀ (S : ST) (v1 : Int32) (v2 : Int32) (r : Int32) (S' : ST), k8 S v1 v2 = some (r, S') → Ev mX6_meetingPlace 7 0 0 8 [some (.ref 54), some (.int v1), some (.int v2)] [] (mkS x S) (fun v h => v = some (.int r) ∧ h = mkS x S')) (S : ST) (v1 : Int32) (v2 : Int32) (r : Int32) (S' : ST) (hm : bfX6_meetingPlace_54_54 x k8 S v1 v2 = some (r, S')) : Ev mX6_meetingPlace 7 0 0 54 [some (.ref 54), some (.int v1), some (.int v2)] [] (mkS x S) (fun v h => v = some (.int r) ∧ h = mkS x S') := by
    unfold bfX6_meetingPlace_54_54 at hm
    refine Ev.steps tokX6_meetingPlace 2 (P := True) (pc' := 8) (lv' := [some (.ref 54), some (.int v1), some (.int (v2 + 1))]) (st' := []) (h' := mkS x S) rfl trivial ?_
    exact hk8 S v1 (v2 + 1) _ _ hm
set_option maxHeartbeats 4000000 in
set_option maxRecDepth 20000 in
theorem bpX6_meetingPlace_54_52 (x : XT) (k8 : ST → Int32 → Int32 → Option (Int32 × ST)) (hk8 : ∀ (S : ST) (v1 : Int32) (v2 : Int32) (r : Int32) (S' : ST), k8 S v1 v2 = some (r, S') → Ev mX6_meetingPlace 7 0 0 8 [some (.ref 54), some (.int v1), some (.int v2)] [] (mkS x S) (fun v h => v = some (.int r) ∧ h = mkS x S')) (S : ST) (v2 : Int32) (r : Int32) (S' : ST) (hm : bfX6_meetingPlace_54_52 x k8 S v2 = some (r, S')) : Ev mX6_meetingPlace 7 0 0 52 [some (.ref 54), none, some (.int v2)] [] (mkS x S) (fun v h => v = some (.int r) ∧ h = mkS x S') := by
    unfold bfX6_meetingPlace_54_52 at hm
    refine Ev.steps tokX6_meetingPlace 2 (P := True) (pc' := 54) (lv' := [some (.ref 54), some (.int v2), some (.int v2)]) (st' := []) (h' := mkS x S) rfl trivial ?_
    exact bpX6_meetingPlace_54_54 x k8 hk8 S v2 v2 _ _ hm
set_option maxHeartbeats 4000000 in
set_option maxRecDepth 20000 in
theorem bpX6_meetingPlace_54_8 (x : XT) (k8 : ST → Int32 → Int32 → Option (Int32 × ST)) (hk8 : ∀ (S : ST) (v1 : Int32) (v2 : Int32) (r : Int32) (S' : ST), k8 S v1 v2 = some (r, S') → Ev mX6_meetingPlace 7 0 0 8 [some (.ref 54), some (.int v1), some (.int v2)] [] (mkS x S) (fun v h => v = some (.int r) ∧ h = mkS x S')) (S : ST) (v1 : Int32) (v2 : Int32) (r : Int32) (S' : ST) (hm : bfX6_meetingPlace_54_8 x k8 S v1 v2 = some (r, S')) : Ev mX6_meetingPlace 7 0 0 8 [some (.ref 54), some (.int v1), some (.int v2)] [] (mkS x S) (fun v h => v = some (.int r) ∧ h = mkS x S') := by
    unfold bfX6_meetingPlace_54_8 at hm
    refine Ev.steps tokX6_meetingPlace 3 (P := True) (pc' := if 120 ≤ v2 then 60 else 14) (lv' := [some (.ref 54), some (.int v1), some (.int v2)]) (st' := []) (h' := mkS x S) rfl trivial ?_
    refine Ev.ite (fun c1 => ?_) (fun c1 => ?_)
    · rw [if_pos c1] at hm
      refine Ev.steps tokX6_meetingPlace 1 (P := True) (pc' := 61) (lv' := [some (.ref 54), some (.int v1), some (.int v2)]) (st' := [.int v1]) (h' := mkS x S) rfl trivial ?_
      cases hm
      exact Ev.reti tokX6_meetingPlace rfl rfl ⟨rfl, rfl⟩
    · rw [if_neg c1] at hm
      obtain ⟨o2, hm⟩ := oblk hm
      refine Ev.steps tokX6_meetingPlace 6 (P := vp_in v2 120 ∧ True) (pc' := if (S.2.1 72 v2.toNatClampNeg) = (-1) then 54 else 24) (lv' := [some (.ref 54), some (.int v1), some (.int v2)]) (st' := []) (h' := mkS x S) rfl ⟨inb_ok o2, trivial⟩ ?_
      refine Ev.ite (fun c3 => ?_) (fun c3 => ?_)
      · rw [if_pos c3] at hm
        exact bpX6_meetingPlace_54_54 x k8 hk8 S v1 v2 _ _ hm
      · rw [if_neg c3] at hm
        obtain ⟨o4, hm⟩ := oblk hm
        refine Ev.steps tokX6_meetingPlace 6 (P := vp_in v2 120 ∧ True) (pc' := if (S.2.1 75 v2.toNatClampNeg) = (-1) then 54 else 34) (lv' := [some (.ref 54), some (.int v1), some (.int v2)]) (st' := []) (h' := mkS x S) rfl ⟨inb_ok o4, trivial⟩ ?_
        refine Ev.ite (fun c5 => ?_) (fun c5 => ?_)
        · rw [if_pos c5] at hm
          exact bpX6_meetingPlace_54_54 x k8 hk8 S v1 v2 _ _ hm
        · rw [if_neg c5] at hm
          refine Ev.steps tokX6_meetingPlace 3 (P := True) (pc' := if v1 = (-1) then 52 else 39) (lv' := [some (.ref 54), some (.int v1), some (.int v2)]) (st' := []) (h' := mkS x S) rfl trivial ?_
          refine Ev.ite (fun c6 => ?_) (fun c6 => ?_)
          · rw [if_pos c6] at hm
            refine Ev.fgt (lv' := [some (.ref 54), none, some (.int v2)]) ⟨rfl, rfl, trivial⟩ ?_
            exact bpX6_meetingPlace_54_52 x k8 hk8 S v2 _ _ hm
          · rw [if_neg c6] at hm
            refine Ev.steps tokX6_meetingPlace 2 (P := True) (pc' := 41) (lv' := [some (.ref 54), some (.int v1), some (.int v2)]) (st' := [.int v2, .ref 54]) (h' := mkS x S) rfl trivial ?_
            cases h7 : gfX6_longerSteps_54 x S v2 with
            | none => rw [h7] at hm; cases hm
            | some q8 =>
              obtain ⟨r9, S10⟩ := q8
              rw [h7] at hm
              dsimp only at hm
              refine ev_callV (N := mX6_longerSteps) (d' := 2) (bc := 0) (bs := 0) (bc' := 0) (bs' := 0) (as := [.int v2]) (rest := []) (a := 54) (ci := 6) (dcd tokX6_meetingPlace rfl) okX6_longerSteps inX6_longerSteps seX6_longerSteps lk6_154 rfl (by decide) (Nat.le_of_ble_eq_true rfl) rfl ⟨by decide, rfl⟩ (gpX6_longerSteps_54 x S v2 _ _ h7) (fun v h' hq hn => ?_)
              obtain ⟨rfl, rfl⟩ := hq
              refine Ev.steps tokX6_meetingPlace 2 (P := True) (pc' := 46) (lv' := [some (.ref 54), some (.int v1), some (.int v2)]) (st' := [.int v1, .ref 54, .int r9]) (h' := mkS x S10) rfl trivial ?_
              cases h11 : gfX6_longerSteps_54 x S10 v1 with
              | none => rw [h11] at hm; cases hm
              | some q12 =>
                obtain ⟨r13, S14⟩ := q12
                rw [h11] at hm
                dsimp only at hm
                refine ev_callV (N := mX6_longerSteps) (d' := 2) (bc := 0) (bs := 0) (bc' := 0) (bs' := 0) (as := [.int v1]) (rest := [.int r9]) (a := 54) (ci := 6) (dcd tokX6_meetingPlace rfl) okX6_longerSteps inX6_longerSteps seX6_longerSteps lk6_154 rfl (by decide) (Nat.le_of_ble_eq_true rfl) rfl ⟨by decide, rfl⟩ (gpX6_longerSteps_54 x S10 v1 _ _ h11) (fun v h' hq hn => ?_)
                obtain ⟨rfl, rfl⟩ := hq
                refine Ev.steps tokX6_meetingPlace 1 (P := True) (pc' := if r13 ≤ r9 then 54 else 52) (lv' := [some (.ref 54), some (.int v1), some (.int v2)]) (st' := []) (h' := mkS x S14) rfl trivial ?_
                refine Ev.ite (fun c15 => ?_) (fun c15 => ?_)
                · rw [if_pos c15] at hm
                  exact bpX6_meetingPlace_54_54 x k8 hk8 S14 v1 v2 _ _ hm
                · rw [if_neg c15] at hm
                  refine Ev.fgt (lv' := [some (.ref 54), none, some (.int v2)]) ⟨rfl, rfl, trivial⟩ ?_
                  exact bpX6_meetingPlace_54_52 x k8 hk8 S14 v2 _ _ hm
theorem lpX6_meetingPlace_54_8 (x : XT)  : ∀ (n : Nat) (S : ST) (v1 : Int32) (v2 : Int32) (r : Int32) (S' : ST), lfX6_meetingPlace_54_8 x  n S v1 v2 = some (r, S') → Ev mX6_meetingPlace 7 0 0 8 [some (.ref 54), some (.int v1), some (.int v2)] [] (mkS x S) (fun v h => v = some (.int r) ∧ h = mkS x S')
  | 0, _, _, _, _, _, hm => by cases hm
  | n + 1, S, v1, v2, r, S', hm => bpX6_meetingPlace_54_8 x (lfX6_meetingPlace_54_8 x  n) (lpX6_meetingPlace_54_8 x  n) S v1 v2 r S' hm
set_option maxHeartbeats 4000000 in
set_option maxRecDepth 20000 in
theorem bpX6_meetingPlace_54_0 (x : XT)  (S : ST)  (r : Int32) (S' : ST) (hm : bfX6_meetingPlace_54_0 x  S  = some (r, S')) : Ev mX6_meetingPlace 7 0 0 0 [some (.ref 54), none, none] [] (mkS x S) (fun v h => v = some (.int r) ∧ h = mkS x S') := by
    unfold bfX6_meetingPlace_54_0 at hm
    refine Ev.steps tokX6_meetingPlace 1 (P := True) (pc' := 1) (lv' := [some (.ref 54), none, none]) (st' := [.ref 54]) (h' := mkS x S) rfl trivial ?_
    cases h1 : gfX6_findAll_54 x S with
    | none => rw [h1] at hm; cases hm
    | some q2 =>
      obtain ⟨r3, S4⟩ := q2
      rw [h1] at hm
      dsimp only at hm
      refine ev_callV (N := mX6_findAll) (d' := 6) (bc := 0) (bs := 0) (bc' := 0) (bs' := 0) (as := []) (rest := []) (a := 54) (ci := 6) (dcd tokX6_meetingPlace rfl) okX6_findAll inX6_findAll seX6_findAll lk6_118 rfl (by decide) (Nat.le_of_ble_eq_true rfl) rfl ⟨by decide, rfl⟩ (gpX6_findAll_54 x S _ _ h1) (fun v h' hq hn => ?_)
      obtain ⟨rfl, rfl⟩ := hq
      refine Ev.steps tokX6_meetingPlace 4 (P := True) (pc' := 8) (lv' := [some (.ref 54), some (.int (-1)), some (.int 0)]) (st' := []) (h' := mkS x S4) rfl trivial ?_
      exact lpX6_meetingPlace_54_8 x  20000 S4 (-1) 0 _ _ hm
theorem gpX6_meetingPlace_54 (x : XT) (S : ST)  (r : Int32) (S' : ST) (hm : gfX6_meetingPlace_54 x S  = some (r, S')) : Ct mX6_meetingPlace 7 0 0 [.ref 54] (mkS x S) (fun v h => v = some (.int r) ∧ h = mkS x S') :=
  Ct.of (lv := [some (.ref 54), none, none]) rfl rfl rfl (show (_ : Nat) ≤ _ from Nat.le_of_ble_eq_true rfl) (fun G => rfl) (bpX6_meetingPlace_54_0 x S  r S' hm)
set_option maxHeartbeats 4000000 in
set_option maxRecDepth 20000 in
theorem bpX10_meet_0_35 (x : XT)  (S : ST)  (r : Int32) (S' : ST) (hm : bfX10_meet_0_35 x  S  = some (r, S')) : Ev mX10_meet 8 0 0 35 [none, none, none, none, none] [] (mkS x S) (fun v h => v = some (.int r) ∧ h = mkS x S') := by
    unfold bfX10_meet_0_35 at hm
    refine Ev.steps tokX10_meet 1 (P := True) (pc' := 36) (lv' := [none, none, none, none, none]) (st' := [.int (-1)]) (h' := mkS x S) rfl trivial ?_
    cases hm
    exact Ev.reti tokX10_meet rfl rfl ⟨rfl, rfl⟩
set_option maxHeartbeats 4000000 in
set_option maxRecDepth 20000 in
theorem bpX10_meet_0_101 (x : XT)  (S : ST) (t0 : Int32) (r : Int32) (S' : ST) (hm : bfX10_meet_0_101 x  S t0 = some (r, S')) : Ev mX10_meet 8 0 0 101 [none, none, none, none, none] [.int t0] (mkS x S) (fun v h => v = some (.int r) ∧ h = mkS x S') := by
    unfold bfX10_meet_0_101 at hm
    cases hm
    exact Ev.reti tokX10_meet rfl rfl ⟨rfl, rfl⟩
set_option maxHeartbeats 4000000 in
set_option maxRecDepth 20000 in
theorem bpX10_meet_0_87 (x : XT)  (S : ST) (v4 : Int32) (r : Int32) (S' : ST) (hm : bfX10_meet_0_87 x  S v4 = some (r, S')) : Ev mX10_meet 8 0 0 87 [none, none, none, none, some (.int v4)] [] (mkS x S) (fun v h => v = some (.int r) ∧ h = mkS x S') := by
    unfold bfX10_meet_0_87 at hm
    refine Ev.steps tokX10_meet 2 (P := True) (pc' := 101) (lv' := [none, none, none, none, some (.int v4)]) (st' := [.int v4]) (h' := mkS x S) rfl trivial ?_
    refine Ev.fgt (lv' := [none, none, none, none, none]) trivial ?_
    exact bpX10_meet_0_101 x S v4 _ _ hm
set_option maxHeartbeats 4000000 in
set_option maxRecDepth 20000 in
theorem bpX10_meet_0_0 (x : XT)  (S : ST) (p1 : Int32) (p2 : Int32) (p3 : Int32) (r : Int32) (S' : ST) (hm : bfX10_meet_0_0 x  S p1 p2 p3 = some (r, S')) : Ev mX10_meet 8 0 0 0 [some (.ref 0), some (.int p1), some (.int p2), some (.int p3), none] [] (mkS x S) (fun v h => v = some (.int r) ∧ h = mkS x S') := by
    unfold bfX10_meet_0_0 at hm
    refine Ev.steps tokX10_meet 3 (P := True) (pc' := 5) (lv' := [some (.ref 0), some (.int p1), some (.int p2), some (.int p3), none]) (st' := [.int p1, .ref 1]) (h' := mkS x S) rfl trivial ?_
    cases h1 : gfX7_hasGoer_1 x S p1 with
    | none => rw [h1] at hm; cases hm
    | some q2 =>
      obtain ⟨r3, S4⟩ := q2
      rw [h1] at hm
      dsimp only at hm
      refine ev_callV (N := mX7_hasGoer) (d' := 1) (bc := 0) (bs := 0) (bc' := 0) (bs' := 0) (as := [.int p1]) (rest := []) (a := 1) (ci := 7) (dcd tokX10_meet rfl) okX7_hasGoer inX7_hasGoer seX7_hasGoer lk10_134 rfl (by decide) (Nat.le_of_ble_eq_true rfl) rfl ⟨by decide, rfl⟩ (gpX7_hasGoer_1 x S p1 _ _ h1) (fun v h' hq hn => ?_)
      obtain ⟨rfl, rfl⟩ := hq
      refine Ev.steps tokX10_meet 1 (P := True) (pc' := if r3 = 0 then 35 else 11) (lv' := [some (.ref 0), some (.int p1), some (.int p2), some (.int p3), none]) (st' := []) (h' := mkS x S4) rfl trivial ?_
      refine Ev.ite (fun c5 => ?_) (fun c5 => ?_)
      · rw [if_pos c5] at hm
        refine Ev.fgt (lv' := [none, none, none, none, none]) trivial ?_
        exact bpX10_meet_0_35 x S4 _ _ hm
      · rw [if_neg c5] at hm
        refine Ev.steps tokX10_meet 3 (P := True) (pc' := 16) (lv' := [some (.ref 0), some (.int p1), some (.int p2), some (.int p3), none]) (st' := [.int p2, .ref 1]) (h' := mkS x S4) rfl trivial ?_
        cases h6 : gfX7_hasGoer_1 x S4 p2 with
        | none => rw [h6] at hm; cases hm
        | some q7 =>
          obtain ⟨r8, S9⟩ := q7
          rw [h6] at hm
          dsimp only at hm
          refine ev_callV (N := mX7_hasGoer) (d' := 1) (bc := 0) (bs := 0) (bc' := 0) (bs' := 0) (as := [.int p2]) (rest := []) (a := 1) (ci := 7) (dcd tokX10_meet rfl) okX7_hasGoer inX7_hasGoer seX7_hasGoer lk10_134 rfl (by decide) (Nat.le_of_ble_eq_true rfl) rfl ⟨by decide, rfl⟩ (gpX7_hasGoer_1 x S4 p2 _ _ h6) (fun v h' hq hn => ?_)
          obtain ⟨rfl, rfl⟩ := hq
          refine Ev.steps tokX10_meet 1 (P := True) (pc' := if r8 = 0 then 35 else 22) (lv' := [some (.ref 0), some (.int p1), some (.int p2), some (.int p3), none]) (st' := []) (h' := mkS x S9) rfl trivial ?_
          refine Ev.ite (fun c10 => ?_) (fun c10 => ?_)
          · rw [if_pos c10] at hm
            refine Ev.fgt (lv' := [none, none, none, none, none]) trivial ?_
            exact bpX10_meet_0_35 x S9 _ _ hm
          · rw [if_neg c10] at hm
            refine Ev.steps tokX10_meet 3 (P := True) (pc' := if p1 = p2 then 35 else 27) (lv' := [some (.ref 0), some (.int p1), some (.int p2), some (.int p3), none]) (st' := []) (h' := mkS x S9) rfl trivial ?_
            refine Ev.ite (fun c11 => ?_) (fun c11 => ?_)
            · rw [if_pos c11] at hm
              refine Ev.fgt (lv' := [none, none, none, none, none]) trivial ?_
              exact bpX10_meet_0_35 x S9 _ _ hm
            · rw [if_neg c11] at hm
              refine Ev.steps tokX10_meet 2 (P := True) (pc' := 29) (lv' := [some (.ref 0), some (.int p1), some (.int p2), some (.int p3), none]) (st' := [.int 2, .int p3]) (h' := mkS x S9) rfl trivial ?_
              cases h12 : gfX10_within x S9 p3 2 with
              | none => rw [h12] at hm; cases hm
              | some q13 =>
                obtain ⟨r14, S15⟩ := q13
                rw [h12] at hm
                dsimp only at hm
                refine ev_callS (N := mX10_within) (d' := 1) (bc := 0) (bs := 0) (bc' := 0) (bs' := 0) (as := [.int p3, .int 2]) (rest := []) (dcd tokX10_meet rfl) okX10_within inX10_within lk10_153 rfl (by decide) (Nat.le_of_ble_eq_true rfl) (gpX10_within x S9 p3 2 _ _ h12) (fun v h' hq hn => ?_)
                obtain ⟨rfl, rfl⟩ := hq
                refine Ev.steps tokX10_meet 1 (P := True) (pc' := if ¬ r14 = 0 then 37 else 35) (lv' := [some (.ref 0), some (.int p1), some (.int p2), some (.int p3), none]) (st' := []) (h' := mkS x S15) rfl trivial ?_
                refine Ev.ite (fun c16 => ?_) (fun c16 => ?_)
                · rw [if_pos c16] at hm
                  refine Ev.steps tokX10_meet 5 (P := True) (pc' := 46) (lv' := [some (.ref 0), some (.int p1), some (.int p2), some (.int p3), none]) (st' := [.int p1, .ref 1, .ref 54]) (h' := mkS x S15) rfl trivial ?_
                  cases h17 : gfX6_begin_54_1 x S15 p1 with
                  | none => rw [h17] at hm; cases hm
                  | some q18 =>
                    obtain ⟨r19, S20⟩ := q18
                    rw [h17] at hm
                    dsimp only at hm
                    refine ev_callV (N := mX6_begin) (d' := 2) (bc := 0) (bs := 0) (bc' := 0) (bs' := 0) (as := [.ref 1, .int p1]) (rest := []) (a := 54) (ci := 6) (dcd tokX10_meet rfl) okX6_begin inX6_begin seX6_begin lk10_245 rfl (by decide) (Nat.le_of_ble_eq_true rfl) rfl ⟨by decide, rfl⟩ (gpX6_begin_54_1 x S15 p1 _ _ h17) (fun v h' hq hn => ?_)
                    obtain ⟨rfl, rfl⟩ := hq
                    refine Ev.steps tokX10_meet 2 (P := True) (pc' := 53) (lv' := [some (.ref 0), some (.int p1), some (.int p2), some (.int p3), none]) (st' := [.ref 54]) (h' := mkS x S20) rfl trivial ?_
                    cases h21 : gfX6_keepSteps_54 x S20 with
                    | none => rw [h21] at hm; cases hm
                    | some q22 =>
                      obtain ⟨r23, S24⟩ := q22
                      rw [h21] at hm
                      dsimp only at hm
                      refine ev_callV (N := mX6_keepSteps) (d' := 7) (bc := 0) (bs := 0) (bc' := 0) (bs' := 0) (as := []) (rest := []) (a := 54) (ci := 6) (dcd tokX10_meet rfl) okX6_keepSteps inX6_keepSteps seX6_keepSteps lk10_291 rfl (by decide) (Nat.le_of_ble_eq_true rfl) rfl ⟨by decide, rfl⟩ (gpX6_keepSteps_54 x S20 _ _ h21) (fun v h' hq hn => ?_)
                      obtain ⟨rfl, rfl⟩ := hq
                      refine Ev.steps tokX10_meet 5 (P := True) (pc' := 65) (lv' := [some (.ref 0), some (.int p1), some (.int p2), some (.int p3), none]) (st' := [.int p2, .ref 1, .ref 54]) (h' := mkS x S24) rfl trivial ?_
                      cases h25 : gfX6_begin_54_1 x S24 p2 with
                      | none => rw [h25] at hm; cases hm
                      | some q26 =>
                        obtain ⟨r27, S28⟩ := q26
                        rw [h25] at hm
                        dsimp only at hm
                        refine ev_callV (N := mX6_begin) (d' := 2) (bc := 0) (bs := 0) (bc' := 0) (bs' := 0) (as := [.ref 1, .int p2]) (rest := []) (a := 54) (ci := 6) (dcd tokX10_meet rfl) okX6_begin inX6_begin seX6_begin lk10_245 rfl (by decide) (Nat.le_of_ble_eq_true rfl) rfl ⟨by decide, rfl⟩ (gpX6_begin_54_1 x S24 p2 _ _ h25) (fun v h' hq hn => ?_)
                        obtain ⟨rfl, rfl⟩ := hq
                        refine Ev.steps tokX10_meet 2 (P := True) (pc' := 72) (lv' := [some (.ref 0), some (.int p1), some (.int p2), some (.int p3), none]) (st' := [.ref 54]) (h' := mkS x S28) rfl trivial ?_
                        cases h29 : gfX6_meetingPlace_54 x S28 with
                        | none => rw [h29] at hm; cases hm
                        | some q30 =>
                          obtain ⟨r31, S32⟩ := q30
                          rw [h29] at hm
                          dsimp only at hm
                          refine ev_callV (N := mX6_meetingPlace) (d' := 7) (bc := 0) (bs := 0) (bc' := 0) (bs' := 0) (as := []) (rest := []) (a := 54) (ci := 6) (dcd tokX10_meet rfl) okX6_meetingPlace inX6_meetingPlace seX6_meetingPlace lk10_294 rfl (by decide) (Nat.le_of_ble_eq_true rfl) rfl ⟨by decide, rfl⟩ (gpX6_meetingPlace_54 x S28 _ _ h29) (fun v h' hq hn => ?_)
                          obtain ⟨rfl, rfl⟩ := hq
                          refine Ev.steps tokX10_meet 3 (P := True) (pc' := if p3 = 0 then 87 else 81) (lv' := [some (.ref 0), some (.int p1), some (.int p2), some (.int p3), some (.int r31)]) (st' := []) (h' := mkS x S32) rfl trivial ?_
                          refine Ev.ite (fun c33 => ?_) (fun c33 => ?_)
                          · rw [if_pos c33] at hm
                            refine Ev.fgt (lv' := [none, none, none, none, some (.int r31)]) ⟨rfl, trivial⟩ ?_
                            exact bpX10_meet_0_87 x S32 r31 _ _ hm
                          · rw [if_neg c33] at hm
                            refine Ev.steps tokX10_meet 3 (P := True) (pc' := if ¬ r31 = (-1) then 92 else 87) (lv' := [some (.ref 0), some (.int p1), some (.int p2), some (.int p3), some (.int r31)]) (st' := []) (h' := mkS x S32) rfl trivial ?_
                            refine Ev.ite (fun c34 => ?_) (fun c34 => ?_)
                            · rw [if_pos c34] at hm
                              refine Ev.steps tokX10_meet 3 (P := True) (pc' := 98) (lv' := [some (.ref 0), some (.int p1), some (.int p2), some (.int p3), some (.int r31)]) (st' := [.int r31, .ref 54]) (h' := mkS x S32) rfl trivial ?_
                              cases h35 : gfX6_longerSteps_54 x S32 r31 with
                              | none => rw [h35] at hm; cases hm
                              | some q36 =>
                                obtain ⟨r37, S38⟩ := q36
                                rw [h35] at hm
                                dsimp only at hm
                                refine ev_callV (N := mX6_longerSteps) (d' := 2) (bc := 0) (bs := 0) (bc' := 0) (bs' := 0) (as := [.int r31]) (rest := []) (a := 54) (ci := 6) (dcd tokX10_meet rfl) okX6_longerSteps inX6_longerSteps seX6_longerSteps lk10_297 rfl (by decide) (Nat.le_of_ble_eq_true rfl) rfl ⟨by decide, rfl⟩ (gpX6_longerSteps_54 x S32 r31 _ _ h35) (fun v h' hq hn => ?_)
                                obtain ⟨rfl, rfl⟩ := hq
                                refine Ev.fgt (lv' := [none, none, none, none, none]) trivial ?_
                                exact bpX10_meet_0_101 x S38 r37 _ _ hm
                            · rw [if_neg c34] at hm
                              refine Ev.fgt (lv' := [none, none, none, none, some (.int r31)]) ⟨rfl, trivial⟩ ?_
                              exact bpX10_meet_0_87 x S32 r31 _ _ hm
                · rw [if_neg c16] at hm
                  refine Ev.fgt (lv' := [none, none, none, none, none]) trivial ?_
                  exact bpX10_meet_0_35 x S15 _ _ hm
theorem gpX10_meet_0 (x : XT) (S : ST) (p1 : Int32) (p2 : Int32) (p3 : Int32) (r : Int32) (S' : ST) (hm : gfX10_meet_0 x S p1 p2 p3 = some (r, S')) : Ct mX10_meet 8 0 0 [.ref 0, .int p1, .int p2, .int p3] (mkS x S) (fun v h => v = some (.int r) ∧ h = mkS x S') :=
  Ct.of (lv := [some (.ref 0), some (.int p1), some (.int p2), some (.int p3), none]) rfl rfl rfl (show (_ : Nat) ≤ _ from Nat.le_of_ble_eq_true rfl) (fun G => rfl) (bpX10_meet_0_0 x S p1 p2 p3 r S' hm)
end MIR
