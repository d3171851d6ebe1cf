section
def c138 (b : HP) : HP := sR (c137 (c128 b)) (u2 (kR (c137 (c128 b))) 0 7 (some 51))
def c139 (b : HP) : HP := mkn 54 (c138 b) 6 0
def c140 (b : HP) : HP := mkn 55 (mkn 54 b 6 0) 7 0
def c141 (b : HP) : HP := sI (mkn 55 b 7 0) (u2 (kI (mkn 55 b 7 0)) 55 0 0)
def c142 (b : HP) : HP := mkn 56 (c141 b) 13 10
def c143 (b : HP) : HP := sR (c142 b) (u2 (kR (c142 b)) 55 1 (some 56))
def c144 (b : HP) : HP := mkn 57 (c143 b) 13 10
def c145 (b : HP) : HP := sR (c144 b) (u2 (kR (c144 b)) 55 2 (some 57))
def c146 (b : HP) : HP := mkn 58 (c145 b) 13 10
def c147 (b : HP) : HP := sR (c146 b) (u2 (kR (c146 b)) 55 3 (some 58))
def c148 (b : HP) : HP := mkn 59 (c147 b) 13 10
def c149 (b : HP) : HP := sR (c148 b) (u2 (kR (c148 b)) 55 4 (some 59))
def c150 (b : HP) : HP := mkn 60 (c149 b) 15 10
def c151 (b : HP) : HP := sR (c150 b) (u2 (kR (c150 b)) 55 5 (some 60))
def c152 (b : HP) : HP := sI (c151 b) (u2 (kI (c151 b)) 55 6 0)
def c153 (b : HP) : HP := mkn 61 (c152 b) 13 5
def c154 (b : HP) : HP := sR (c153 b) (u2 (kR (c153 b)) 55 7 (some 61))
def c155 (b : HP) : HP := mkn 62 (c154 b) 13 5
def c156 (b : HP) : HP := sR (c155 b) (u2 (kR (c155 b)) 55 8 (some 62))
def c157 (b : HP) : HP := mkn 63 (c156 b) 13 5
def c158 (b : HP) : HP := sR (c157 b) (u2 (kR (c157 b)) 55 9 (some 63))
def c159 (b : HP) : HP := mkn 64 (c158 b) 13 5
def c160 (b : HP) : HP := sR (c159 b) (u2 (kR (c159 b)) 55 10 (some 64))
def c161 (b : HP) : HP := sI (c160 b) (u2 (kI (c160 b)) 55 11 0)
def c162 (b : HP) : HP := mkn 65 (c161 b) 13 6
def c163 (b : HP) : HP := sR (c162 b) (u2 (kR (c162 b)) 55 12 (some 65))
def c164 (b : HP) : HP := mkn 66 (c163 b) 13 6
def c165 (b : HP) : HP := sR (c164 b) (u2 (kR (c164 b)) 55 13 (some 66))
def c166 (b : HP) : HP := mkn 67 (c165 b) 13 6
def c167 (b : HP) : HP := sR (c166 b) (u2 (kR (c166 b)) 55 14 (some 67))
def c168 (b : HP) : HP := mkn 68 (c167 b) 13 3
def c169 (b : HP) : HP := sA (c168 b) (u2 (kA (c168 b)) 68 0 0)
def c170 (b : HP) : HP := sA (c169 b) (u2 (kA (c169 b)) 68 1 1)
def c171 (b : HP) : HP := sA (c170 b) (u2 (kA (c170 b)) 68 2 0)
def c172 (b : HP) : HP := sR (c171 b) (u2 (kR (c171 b)) 55 15 (some 68))
def c173 (b : HP) : HP := sI (c172 b) (u2 (kI (c172 b)) 55 16 0)
def c174 (b : HP) : HP := mkn 69 (c173 b) 17 6
def c175 (b : HP) : HP := sR (c174 b) (u2 (kR (c174 b)) 55 17 (some 69))
def c176 (b : HP) : HP := sI (c175 b) (u2 (kI (c175 b)) 55 18 (-1))
set_option maxHeartbeats 8000000 in
set_option maxRecDepth 40000 in
theorem cn9 (b : HP) : Ct mX7_init 1 14 97 [.ref 55] (mkn 55 b 7 0) (fun v h => v = none ∧ h = (c176 b)) := by
  refine Ct.of (lv := [some (.ref 55)]) rfl rfl rfl (show (_ : Nat) ≤ _ from Nat.le_of_ble_eq_true rfl) (fun G => rfl) ?_
  refine Ev.steps tokX7_init 1 (P := True) (pc' := 1) (lv' := [some (.ref 55)]) (st' := [.ref 55]) (h' := (mkn 55 b 7 0)) rfl trivial ?_
  refine ev_objInit (dcd tokX7_init rfl) lk7_3 ob_in.1 ob_in.2 (by decide) (Nat.le_of_ble_eq_true rfl) ?_
  refine Ev.steps tokX7_init 3 (P := True) (pc' := 9) (lv' := [some (.ref 55)]) (st' := []) (h' := (c141 b)) rfl trivial ?_
  refine Ev.steps tokX7_init 2 (P := True) (pc' := 12) (lv' := [some (.ref 55)]) (st' := [.int 10, .ref 55]) (h' := (c141 b)) rfl trivial ?_
  refine ev_newaN (n0 := 56) (k := 13) (N := 10) (bc := 13) (bs := 87) (dcd tokX7_init rfl) rfl (by decide) rfl (by decide) (by decide) (by decide) (by decide) ?_
  show Ev _ _ _ _ _ _ _ (c142 b) _
  refine Ev.steps tokX7_init 1 (P := True) (pc' := 17) (lv' := [some (.ref 55)]) (st' := []) (h' := (c143 b)) rfl trivial ?_
  refine Ev.steps tokX7_init 2 (P := True) (pc' := 20) (lv' := [some (.ref 55)]) (st' := [.int 10, .ref 55]) (h' := (c143 b)) rfl trivial ?_
  refine ev_newaN (n0 := 57) (k := 13) (N := 10) (bc := 12) (bs := 77) (dcd tokX7_init rfl) rfl (by decide) rfl (by decide) (by decide) (by decide) (by decide) ?_
  show Ev _ _ _ _ _ _ _ (c144 b) _
  refine Ev.steps tokX7_init 1 (P := True) (pc' := 25) (lv' := [some (.ref 55)]) (st' := []) (h' := (c145 b)) rfl trivial ?_
  refine Ev.steps tokX7_init 2 (P := True) (pc' := 28) (lv' := [some (.ref 55)]) (st' := [.int 10, .ref 55]) (h' := (c145 b)) rfl trivial ?_
  refine ev_newaN (n0 := 58) (k := 13) (N := 10) (bc := 11) (bs := 67) (dcd tokX7_init rfl) rfl (by decide) rfl (by decide) (by decide) (by decide) (by decide) ?_
  show Ev _ _ _ _ _ _ _ (c146 b) _
  refine Ev.steps tokX7_init 1 (P := True) (pc' := 33) (lv' := [some (.ref 55)]) (st' := []) (h' := (c147 b)) rfl trivial ?_
  refine Ev.steps tokX7_init 2 (P := True) (pc' := 36) (lv' := [some (.ref 55)]) (st' := [.int 10, .ref 55]) (h' := (c147 b)) rfl trivial ?_
  refine ev_newaN (n0 := 59) (k := 13) (N := 10) (bc := 10) (bs := 57) (dcd tokX7_init rfl) rfl (by decide) rfl (by decide) (by decide) (by decide) (by decide) ?_
  show Ev _ _ _ _ _ _ _ (c148 b) _
  refine Ev.steps tokX7_init 1 (P := True) (pc' := 41) (lv' := [some (.ref 55)]) (st' := []) (h' := (c149 b)) rfl trivial ?_
  refine Ev.steps tokX7_init 2 (P := True) (pc' := 44) (lv' := [some (.ref 55)]) (st' := [.int 10, .ref 55]) (h' := (c149 b)) rfl trivial ?_
  refine ev_newaN (n0 := 60) (k := 15) (N := 10) (bc := 9) (bs := 47) (dcd tokX7_init rfl) rfl (by decide) rfl (by decide) (by decide) (by decide) (by decide) ?_
  show Ev _ _ _ _ _ _ _ (c150 b) _
  refine Ev.steps tokX7_init 1 (P := True) (pc' := 49) (lv' := [some (.ref 55)]) (st' := []) (h' := (c151 b)) rfl trivial ?_
  refine Ev.steps tokX7_init 3 (P := True) (pc' := 54) (lv' := [some (.ref 55)]) (st' := []) (h' := (c152 b)) rfl trivial ?_
  refine Ev.steps tokX7_init 2 (P := True) (pc' := 56) (lv' := [some (.ref 55)]) (st' := [.int 5, .ref 55]) (h' := (c152 b)) rfl trivial ?_
  refine ev_newaN (n0 := 61) (k := 13) (N := 5) (bc := 8) (bs := 42) (dcd tokX7_init rfl) rfl (by decide) rfl (by decide) (by decide) (by decide) (by decide) ?_
  show Ev _ _ _ _ _ _ _ (c153 b) _
  refine Ev.steps tokX7_init 1 (P := True) (pc' := 61) (lv' := [some (.ref 55)]) (st' := []) (h' := (c154 b)) rfl trivial ?_
  refine Ev.steps tokX7_init 2 (P := True) (pc' := 63) (lv' := [some (.ref 55)]) (st' := [.int 5, .ref 55]) (h' := (c154 b)) rfl trivial ?_
  refine ev_newaN (n0 := 62) (k := 13) (N := 5) (bc := 7) (bs := 37) (dcd tokX7_init rfl) rfl (by decide) rfl (by decide) (by decide) (by decide) (by decide) ?_
  show Ev _ _ _ _ _ _ _ (c155 b) _
  refine Ev.steps tokX7_init 1 (P := True) (pc' := 68) (lv' := [some (.ref 55)]) (st' := []) (h' := (c156 b)) rfl trivial ?_
  refine Ev.steps tokX7_init 2 (P := True) (pc' := 70) (lv' := [some (.ref 55)]) (st' := [.int 5, .ref 55]) (h' := (c156 b)) rfl trivial ?_
  refine ev_newaN (n0 := 63) (k := 13) (N := 5) (bc := 6) (bs := 32) (dcd tokX7_init rfl) rfl (by decide) rfl (by decide) (by decide) (by decide) (by decide) ?_
  show Ev _ _ _ _ _ _ _ (c157 b) _
  refine Ev.steps tokX7_init 1 (P := True) (pc' := 75) (lv' := [some (.ref 55)]) (st' := []) (h' := (c158 b)) rfl trivial ?_
  refine Ev.steps tokX7_init 2 (P := True) (pc' := 77) (lv' := [some (.ref 55)]) (st' := [.int 5, .ref 55]) (h' := (c158 b)) rfl trivial ?_
  refine ev_newaN (n0 := 64) (k := 13) (N := 5) (bc := 5) (bs := 27) (dcd tokX7_init rfl) rfl (by decide) rfl (by decide) (by decide) (by decide) (by decide) ?_
  show Ev _ _ _ _ _ _ _ (c159 b) _
  refine Ev.steps tokX7_init 1 (P := True) (pc' := 82) (lv' := [some (.ref 55)]) (st' := []) (h' := (c160 b)) rfl trivial ?_
  refine Ev.steps tokX7_init 3 (P := True) (pc' := 87) (lv' := [some (.ref 55)]) (st' := []) (h' := (c161 b)) rfl trivial ?_
  refine Ev.steps tokX7_init 2 (P := True) (pc' := 90) (lv' := [some (.ref 55)]) (st' := [.int 6, .ref 55]) (h' := (c161 b)) rfl trivial ?_
  refine ev_newaN (n0 := 65) (k := 13) (N := 6) (bc := 4) (bs := 21) (dcd tokX7_init rfl) rfl (by decide) rfl (by decide) (by decide) (by decide) (by decide) ?_
  show Ev _ _ _ _ _ _ _ (c162 b) _
  refine Ev.steps tokX7_init 1 (P := True) (pc' := 95) (lv' := [some (.ref 55)]) (st' := []) (h' := (c163 b)) rfl trivial ?_
  refine Ev.steps tokX7_init 2 (P := True) (pc' := 98) (lv' := [some (.ref 55)]) (st' := [.int 6, .ref 55]) (h' := (c163 b)) rfl trivial ?_
  refine ev_newaN (n0 := 66) (k := 13) (N := 6) (bc := 3) (bs := 15) (dcd tokX7_init rfl) rfl (by decide) rfl (by decide) (by decide) (by decide) (by decide) ?_
  show Ev _ _ _ _ _ _ _ (c164 b) _
  refine Ev.steps tokX7_init 1 (P := True) (pc' := 103) (lv' := [some (.ref 55)]) (st' := []) (h' := (c165 b)) rfl trivial ?_
  refine Ev.steps tokX7_init 2 (P := True) (pc' := 106) (lv' := [some (.ref 55)]) (st' := [.int 6, .ref 55]) (h' := (c165 b)) rfl trivial ?_
  refine ev_newaN (n0 := 67) (k := 13) (N := 6) (bc := 2) (bs := 9) (dcd tokX7_init rfl) rfl (by decide) rfl (by decide) (by decide) (by decide) (by decide) ?_
  show Ev _ _ _ _ _ _ _ (c166 b) _
  refine Ev.steps tokX7_init 1 (P := True) (pc' := 111) (lv' := [some (.ref 55)]) (st' := []) (h' := (c167 b)) rfl trivial ?_
  refine Ev.steps tokX7_init 2 (P := True) (pc' := 113) (lv' := [some (.ref 55)]) (st' := [.int 3, .ref 55]) (h' := (c167 b)) rfl trivial ?_
  refine ev_newaN (n0 := 68) (k := 13) (N := 3) (bc := 1) (bs := 6) (dcd tokX7_init rfl) rfl (by decide) rfl (by decide) (by decide) (by decide) (by decide) ?_
  show Ev _ _ _ _ _ _ _ (c168 b) _
  refine Ev.steps tokX7_init 4 (P := vp_in 0 3 ∧ True) (pc' := 119) (lv' := [some (.ref 55)]) (st' := [.ref 68, .ref 55]) (h' := (c169 b)) rfl ⟨(by unfold vp_in; decide), trivial⟩ ?_
  refine Ev.steps tokX7_init 4 (P := vp_in 1 3 ∧ True) (pc' := 123) (lv' := [some (.ref 55)]) (st' := [.ref 68, .ref 55]) (h' := (c170 b)) rfl ⟨(by unfold vp_in; decide), trivial⟩ ?_
  refine Ev.steps tokX7_init 4 (P := vp_in 2 3 ∧ True) (pc' := 127) (lv' := [some (.ref 55)]) (st' := [.ref 68, .ref 55]) (h' := (c171 b)) rfl ⟨(by unfold vp_in; decide), trivial⟩ ?_
  refine Ev.steps tokX7_init 1 (P := True) (pc' := 130) (lv' := [some (.ref 55)]) (st' := []) (h' := (c172 b)) rfl trivial ?_
  refine Ev.steps tokX7_init 3 (P := True) (pc' := 135) (lv' := [some (.ref 55)]) (st' := []) (h' := (c173 b)) rfl trivial ?_
  refine Ev.steps tokX7_init 2 (P := True) (pc' := 138) (lv' := [some (.ref 55)]) (st' := [.int 6, .ref 55]) (h' := (c173 b)) rfl trivial ?_
  refine ev_anewN (n0 := 69) (ci := 9) (k := 17) (N := 6) (bc := 0) (bs := 0) (dcd tokX7_init rfl) rfl (Or.inr ⟨rfl, rfl⟩) rfl (by decide) (by decide) (by decide) (by decide) ?_
  show Ev _ _ _ _ _ _ _ (c174 b) _
  refine Ev.steps tokX7_init 1 (P := True) (pc' := 144) (lv' := [some (.ref 55)]) (st' := []) (h' := (c175 b)) rfl trivial ?_
  refine Ev.steps tokX7_init 3 (P := True) (pc' := 149) (lv' := [some (.ref 55)]) (st' := []) (h' := (c176 b)) rfl trivial ?_
  exact Ev.retv tokX7_init rfl rfl ⟨rfl, rfl⟩
def c177 (b : HP) : HP := sR (c176 (mkn 54 b 6 0)) (u2 (kR (c176 (mkn 54 b 6 0))) 54 0 (some 55))
def c178 (b : HP) : HP := sI (c177 b) (u2 (kI (c177 b)) 54 2 0)
def c179 (b : HP) : HP := mkn 70 (c178 b) 13 200
def c180 (b : HP) : HP := sR (c179 b) (u2 (kR (c179 b)) 54 3 (some 70))
def c181 (b : HP) : HP := mkn 71 (c180 b) 13 120
def c182 (b : HP) : HP := sR (c181 b) (u2 (kR (c181 b)) 54 4 (some 71))
def c183 (b : HP) : HP := mkn 72 (c182 b) 13 120
def c184 (b : HP) : HP := sR (c183 b) (u2 (kR (c183 b)) 54 5 (some 72))
def c185 (b : HP) : HP := mkn 73 (c184 b) 13 120
def c186 (b : HP) : HP := sR (c185 b) (u2 (kR (c185 b)) 54 6 (some 73))
def c187 (b : HP) : HP := mkn 74 (c186 b) 13 120
def c188 (b : HP) : HP := sR (c187 b) (u2 (kR (c187 b)) 54 7 (some 74))
def c189 (b : HP) : HP := mkn 75 (c188 b) 13 120
def c190 (b : HP) : HP := sR (c189 b) (u2 (kR (c189 b)) 54 8 (some 75))
def c191 (b : HP) : HP := mkn 76 (c190 b) 13 120
def c192 (b : HP) : HP := sR (c191 b) (u2 (kR (c191 b)) 54 9 (some 76))
def c193 (b : HP) : HP := mkn 77 (c192 b) 13 120
def c194 (b : HP) : HP := sR (c193 b) (u2 (kR (c193 b)) 54 10 (some 77))
def c195 (b : HP) : HP := mkn 78 (c194 b) 14 120
def c196 (b : HP) : HP := sR (c195 b) (u2 (kR (c195 b)) 54 11 (some 78))
def c197 (b : HP) : HP := mkn 79 (c196 b) 14 120
def c198 (b : HP) : HP := sR (c197 b) (u2 (kR (c197 b)) 54 12 (some 79))
def c199 (b : HP) : HP := sR (c198 b) (u2 (kR (c198 b)) 54 1 (some 20))
set_option maxHeartbeats 8000000 in
set_option maxRecDepth 40000 in
theorem cn10 (b : HP) : Ct mX6_init 2 25 1396 [.ref 54, .ref 20] (mkn 54 b 6 0) (fun v h => v = none ∧ h = (c199 b)) := by
  refine Ct.of (lv := [some (.ref 54), some (.ref 20)]) rfl rfl rfl (show (_ : Nat) ≤ _ from Nat.le_of_ble_eq_true rfl) (fun G => rfl) ?_
  refine Ev.steps tokX6_init 1 (P := True) (pc' := 1) (lv' := [some (.ref 54), some (.ref 20)]) (st' := [.ref 54]) (h' := (mkn 54 b 6 0)) rfl trivial ?_
  refine ev_objInit (dcd tokX6_init rfl) lk6_3 ob_in.1 ob_in.2 (by decide) (Nat.le_of_ble_eq_true rfl) ?_
  refine Ev.steps tokX6_init 1 (P := True) (pc' := 5) (lv' := [some (.ref 54), some (.ref 20)]) (st' := [.ref 54]) (h' := (mkn 54 b 6 0)) rfl trivial ?_
  refine ev_newN (n := 55) (ci := 7) (bc := 24) (bs := 1377) (dcd tokX6_init rfl) rfl rfl (by decide) ?_
  show Ev _ _ _ _ _ _ _ (c140 b) _
  refine Ev.steps tokX6_init 1 (P := True) (pc' := 9) (lv' := [some (.ref 54), some (.ref 20)]) (st' := [.ref 55, .ref 55, .ref 54]) (h' := (c140 b)) rfl trivial ?_
  refine ev_callIN (N := mX7_init) (d' := 1) (bc := 10) (bs := 1280) (bc' := 14) (bs' := 97) (a := 55) (as := []) (rest := [.ref 55, .ref 54]) (dcd tokX6_init rfl) okX7_init rfl inX7_init rfl lk6_11 rfl (by decide) (Nat.le_of_ble_eq_true rfl) (cn9 (mkn 54 b 6 0)) (fun v h' hq hn => ?_)
  obtain ⟨rfl, rfl⟩ := hq
  refine Ev.steps tokX6_init 1 (P := True) (pc' := 15) (lv' := [some (.ref 54), some (.ref 20)]) (st' := []) (h' := (c177 b)) rfl trivial ?_
  refine Ev.steps tokX6_init 3 (P := True) (pc' := 20) (lv' := [some (.ref 54), some (.ref 20)]) (st' := []) (h' := (c178 b)) rfl trivial ?_
  refine Ev.steps tokX6_init 2 (P := True) (pc' := 24) (lv' := [some (.ref 54), some (.ref 20)]) (st' := [.int 200, .ref 54]) (h' := (c178 b)) rfl trivial ?_
  refine ev_newaN (n0 := 70) (k := 13) (N := 200) (bc := 9) (bs := 1080) (dcd tokX6_init rfl) rfl (by decide) rfl (by decide) (by decide) (by decide) (by decide) ?_
  show Ev _ _ _ _ _ _ _ (c179 b) _
  refine Ev.steps tokX6_init 1 (P := True) (pc' := 29) (lv' := [some (.ref 54), some (.ref 20)]) (st' := []) (h' := (c180 b)) rfl trivial ?_
  refine Ev.steps tokX6_init 2 (P := True) (pc' := 32) (lv' := [some (.ref 54), some (.ref 20)]) (st' := [.int 120, .ref 54]) (h' := (c180 b)) rfl trivial ?_
  refine ev_newaN (n0 := 71) (k := 13) (N := 120) (bc := 8) (bs := 960) (dcd tokX6_init rfl) rfl (by decide) rfl (by decide) (by decide) (by decide) (by decide) ?_
  show Ev _ _ _ _ _ _ _ (c181 b) _
  refine Ev.steps tokX6_init 1 (P := True) (pc' := 37) (lv' := [some (.ref 54), some (.ref 20)]) (st' := []) (h' := (c182 b)) rfl trivial ?_
  refine Ev.steps tokX6_init 2 (P := True) (pc' := 40) (lv' := [some (.ref 54), some (.ref 20)]) (st' := [.int 120, .ref 54]) (h' := (c182 b)) rfl trivial ?_
  refine ev_newaN (n0 := 72) (k := 13) (N := 120) (bc := 7) (bs := 840) (dcd tokX6_init rfl) rfl (by decide) rfl (by decide) (by decide) (by decide) (by decide) ?_
  show Ev _ _ _ _ _ _ _ (c183 b) _
  refine Ev.steps tokX6_init 1 (P := True) (pc' := 45) (lv' := [some (.ref 54), some (.ref 20)]) (st' := []) (h' := (c184 b)) rfl trivial ?_
  refine Ev.steps tokX6_init 2 (P := True) (pc' := 48) (lv' := [some (.ref 54), some (.ref 20)]) (st' := [.int 120, .ref 54]) (h' := (c184 b)) rfl trivial ?_
  refine ev_newaN (n0 := 73) (k := 13) (N := 120) (bc := 6) (bs := 720) (dcd tokX6_init rfl) rfl (by decide) rfl (by decide) (by decide) (by decide) (by decide) ?_
  show Ev _ _ _ _ _ _ _ (c185 b) _
  refine Ev.steps tokX6_init 1 (P := True) (pc' := 53) (lv' := [some (.ref 54), some (.ref 20)]) (st' := []) (h' := (c186 b)) rfl trivial ?_
  refine Ev.steps tokX6_init 2 (P := True) (pc' := 56) (lv' := [some (.ref 54), some (.ref 20)]) (st' := [.int 120, .ref 54]) (h' := (c186 b)) rfl trivial ?_
  refine ev_newaN (n0 := 74) (k := 13) (N := 120) (bc := 5) (bs := 600) (dcd tokX6_init rfl) rfl (by decide) rfl (by decide) (by decide) (by decide) (by decide) ?_
  show Ev _ _ _ _ _ _ _ (c187 b) _
  refine Ev.steps tokX6_init 1 (P := True) (pc' := 61) (lv' := [some (.ref 54), some (.ref 20)]) (st' := []) (h' := (c188 b)) rfl trivial ?_
  refine Ev.steps tokX6_init 2 (P := True) (pc' := 64) (lv' := [some (.ref 54), some (.ref 20)]) (st' := [.int 120, .ref 54]) (h' := (c188 b)) rfl trivial ?_
  refine ev_newaN (n0 := 75) (k := 13) (N := 120) (bc := 4) (bs := 480) (dcd tokX6_init rfl) rfl (by decide) rfl (by decide) (by decide) (by decide) (by decide) ?_
  show Ev _ _ _ _ _ _ _ (c189 b) _
  refine Ev.steps tokX6_init 1 (P := True) (pc' := 69) (lv' := [some (.ref 54), some (.ref 20)]) (st' := []) (h' := (c190 b)) rfl trivial ?_
  refine Ev.steps tokX6_init 2 (P := True) (pc' := 72) (lv' := [some (.ref 54), some (.ref 20)]) (st' := [.int 120, .ref 54]) (h' := (c190 b)) rfl trivial ?_
  refine ev_newaN (n0 := 76) (k := 13) (N := 120) (bc := 3) (bs := 360) (dcd tokX6_init rfl) rfl (by decide) rfl (by decide) (by decide) (by decide) (by decide) ?_
  show Ev _ _ _ _ _ _ _ (c191 b) _
  refine Ev.steps tokX6_init 1 (P := True) (pc' := 77) (lv' := [some (.ref 54), some (.ref 20)]) (st' := []) (h' := (c192 b)) rfl trivial ?_
  refine Ev.steps tokX6_init 2 (P := True) (pc' := 80) (lv' := [some (.ref 54), some (.ref 20)]) (st' := [.int 120, .ref 54]) (h' := (c192 b)) rfl trivial ?_
  refine ev_newaN (n0 := 77) (k := 13) (N := 120) (bc := 2) (bs := 240) (dcd tokX6_init rfl) rfl (by decide) rfl (by decide) (by decide) (by decide) (by decide) ?_
  show Ev _ _ _ _ _ _ _ (c193 b) _
  refine Ev.steps tokX6_init 1 (P := True) (pc' := 85) (lv' := [some (.ref 54), some (.ref 20)]) (st' := []) (h' := (c194 b)) rfl trivial ?_
  refine Ev.steps tokX6_init 2 (P := True) (pc' := 88) (lv' := [some (.ref 54), some (.ref 20)]) (st' := [.int 120, .ref 54]) (h' := (c194 b)) rfl trivial ?_
  refine ev_newaN (n0 := 78) (k := 14) (N := 120) (bc := 1) (bs := 120) (dcd tokX6_init rfl) rfl (by decide) rfl (by decide) (by decide) (by decide) (by decide) ?_
  show Ev _ _ _ _ _ _ _ (c195 b) _
  refine Ev.steps tokX6_init 1 (P := True) (pc' := 93) (lv' := [some (.ref 54), some (.ref 20)]) (st' := []) (h' := (c196 b)) rfl trivial ?_
  refine Ev.steps tokX6_init 2 (P := True) (pc' := 96) (lv' := [some (.ref 54), some (.ref 20)]) (st' := [.int 120, .ref 54]) (h' := (c196 b)) rfl trivial ?_
  refine ev_newaN (n0 := 79) (k := 14) (N := 120) (bc := 0) (bs := 0) (dcd tokX6_init rfl) rfl (by decide) rfl (by decide) (by decide) (by decide) (by decide) ?_
  show Ev _ _ _ _ _ _ _ (c197 b) _
  refine Ev.steps tokX6_init 1 (P := True) (pc' := 101) (lv' := [some (.ref 54), some (.ref 20)]) (st' := []) (h' := (c198 b)) rfl trivial ?_
  refine Ev.steps tokX6_init 3 (P := True) (pc' := 106) (lv' := [some (.ref 54), some (.ref 20)]) (st' := []) (h' := (c199 b)) rfl trivial ?_
  exact Ev.retv tokX6_init rfl rfl ⟨rfl, rfl⟩
def c200 (b : HP) : HP := sR (c199 (c138 b)) (u2 (kR (c199 (c138 b))) 0 8 (some 54))
def c201 (b : HP) : HP := mkn 80 (c200 b) 3 0
def c202 (b : HP) : HP := mkn 81 (mkn 80 b 3 0) 13 8
def c203 (b : HP) : HP := sR (c202 b) (u2 (kR (c202 b)) 80 1 (some 81))
def c204 (b : HP) : HP := mkn 82 (c203 b) 14 20
def c205 (b : HP) : HP := sR (c204 b) (u2 (kR (c204 b)) 80 2 (some 82))
def c206 (b : HP) : HP := sR (c205 b) (u2 (kR (c205 b)) 80 0 (some 20))
set_option maxHeartbeats 8000000 in
set_option maxRecDepth 40000 in
theorem cn11 (b : HP) : Ct mX3_init 1 2 28 [.ref 80, .ref 20] (mkn 80 b 3 0) (fun v h => v = none ∧ h = (c206 b)) := by
  refine Ct.of (lv := [some (.ref 80), some (.ref 20)]) rfl rfl rfl (show (_ : Nat) ≤ _ from Nat.le_of_ble_eq_true rfl) (fun G => rfl) ?_
  refine Ev.steps tokX3_init 1 (P := True) (pc' := 1) (lv' := [some (.ref 80), some (.ref 20)]) (st' := [.ref 80]) (h' := (mkn 80 b 3 0)) rfl trivial ?_
  refine ev_objInit (dcd tokX3_init rfl) lk3_3 ob_in.1 ob_in.2 (by decide) (Nat.le_of_ble_eq_true rfl) ?_
  refine Ev.steps tokX3_init 2 (P := True) (pc' := 7) (lv' := [some (.ref 80), some (.ref 20)]) (st' := [.int 8, .ref 80]) (h' := (mkn 80 b 3 0)) rfl trivial ?_
  refine ev_newaN (n0 := 81) (k := 13) (N := 8) (bc := 1) (bs := 20) (dcd tokX3_init rfl) rfl (by decide) rfl (by decide) (by decide) (by decide) (by decide) ?_
  show Ev _ _ _ _ _ _ _ (c202 b) _
  refine Ev.steps tokX3_init 1 (P := True) (pc' := 12) (lv' := [some (.ref 80), some (.ref 20)]) (st' := []) (h' := (c203 b)) rfl trivial ?_
  refine Ev.steps tokX3_init 2 (P := True) (pc' := 15) (lv' := [some (.ref 80), some (.ref 20)]) (st' := [.int 20, .ref 80]) (h' := (c203 b)) rfl trivial ?_
  refine ev_newaN (n0 := 82) (k := 14) (N := 20) (bc := 0) (bs := 0) (dcd tokX3_init rfl) rfl (by decide) rfl (by decide) (by decide) (by decide) (by decide) ?_
  show Ev _ _ _ _ _ _ _ (c204 b) _
  refine Ev.steps tokX3_init 1 (P := True) (pc' := 20) (lv' := [some (.ref 80), some (.ref 20)]) (st' := []) (h' := (c205 b)) rfl trivial ?_
  refine Ev.steps tokX3_init 3 (P := True) (pc' := 25) (lv' := [some (.ref 80), some (.ref 20)]) (st' := []) (h' := (c206 b)) rfl trivial ?_
  exact Ev.retv tokX3_init rfl rfl ⟨rfl, rfl⟩
end
