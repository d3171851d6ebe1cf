section
def c207 (b : HP) : HP := sR (c206 (c200 b)) (u2 (kR (c206 (c200 b))) 0 9 (some 80))
def c208 (b : HP) : HP := mkn 83 (c207 b) 2 0
def c209 (b : HP) : HP := mkn 84 (mkn 83 b 2 0) 7 0
def c210 (b : HP) : HP := sI (mkn 84 b 7 0) (u2 (kI (mkn 84 b 7 0)) 84 0 0)
def c211 (b : HP) : HP := mkn 85 (c210 b) 13 10
def c212 (b : HP) : HP := sR (c211 b) (u2 (kR (c211 b)) 84 1 (some 85))
def c213 (b : HP) : HP := mkn 86 (c212 b) 13 10
def c214 (b : HP) : HP := sR (c213 b) (u2 (kR (c213 b)) 84 2 (some 86))
def c215 (b : HP) : HP := mkn 87 (c214 b) 13 10
def c216 (b : HP) : HP := sR (c215 b) (u2 (kR (c215 b)) 84 3 (some 87))
def c217 (b : HP) : HP := mkn 88 (c216 b) 13 10
def c218 (b : HP) : HP := sR (c217 b) (u2 (kR (c217 b)) 84 4 (some 88))
def c219 (b : HP) : HP := mkn 89 (c218 b) 15 10
def c220 (b : HP) : HP := sR (c219 b) (u2 (kR (c219 b)) 84 5 (some 89))
def c221 (b : HP) : HP := sI (c220 b) (u2 (kI (c220 b)) 84 6 0)
def c222 (b : HP) : HP := mkn 90 (c221 b) 13 5
def c223 (b : HP) : HP := sR (c222 b) (u2 (kR (c222 b)) 84 7 (some 90))
def c224 (b : HP) : HP := mkn 91 (c223 b) 13 5
def c225 (b : HP) : HP := sR (c224 b) (u2 (kR (c224 b)) 84 8 (some 91))
def c226 (b : HP) : HP := mkn 92 (c225 b) 13 5
def c227 (b : HP) : HP := sR (c226 b) (u2 (kR (c226 b)) 84 9 (some 92))
def c228 (b : HP) : HP := mkn 93 (c227 b) 13 5
def c229 (b : HP) : HP := sR (c228 b) (u2 (kR (c228 b)) 84 10 (some 93))
def c230 (b : HP) : HP := sI (c229 b) (u2 (kI (c229 b)) 84 11 0)
def c231 (b : HP) : HP := mkn 94 (c230 b) 13 6
def c232 (b : HP) : HP := sR (c231 b) (u2 (kR (c231 b)) 84 12 (some 94))
def c233 (b : HP) : HP := mkn 95 (c232 b) 13 6
def c234 (b : HP) : HP := sR (c233 b) (u2 (kR (c233 b)) 84 13 (some 95))
def c235 (b : HP) : HP := mkn 96 (c234 b) 13 6
def c236 (b : HP) : HP := sR (c235 b) (u2 (kR (c235 b)) 84 14 (some 96))
def c237 (b : HP) : HP := mkn 97 (c236 b) 13 3
def c238 (b : HP) : HP := sA (c237 b) (u2 (kA (c237 b)) 97 0 0)
def c239 (b : HP) : HP := sA (c238 b) (u2 (kA (c238 b)) 97 1 1)
def c240 (b : HP) : HP := sA (c239 b) (u2 (kA (c239 b)) 97 2 0)
def c241 (b : HP) : HP := sR (c240 b) (u2 (kR (c240 b)) 84 15 (some 97))
def c242 (b : HP) : HP := sI (c241 b) (u2 (kI (c241 b)) 84 16 0)
def c243 (b : HP) : HP := mkn 98 (c242 b) 17 6
def c244 (b : HP) : HP := sR (c243 b) (u2 (kR (c243 b)) 84 17 (some 98))
def c245 (b : HP) : HP := sI (c244 b) (u2 (kI (c244 b)) 84 18 (-1))
set_option maxHeartbeats 8000000 in
set_option maxRecDepth 40000 in
theorem cn12 (b : HP) : Ct mX7_init 1 14 97 [.ref 84] (mkn 84 b 7 0) (fun v h => v = none ∧ h = (c245 b)) := by
  refine Ct.of (lv := [some (.ref 84)]) rfl rfl rfl (show (_ : Nat) ≤ _ from Nat.le_of_ble_eq_true rfl) (fun G => rfl) ?_
  refine Ev.steps tokX7_init 1 (P := True) (pc' := 1) (lv' := [some (.ref 84)]) (st' := [.ref 84]) (h' := (mkn 84 b 7 0)) rfl trivial ?_
  refine ev_objInit (dcd tokX7_init rfl) lk7_3 ob_in.1 ob_in.2 (by decide) (Nat.le_of_ble_eq_true rfl) ?_
  refine Ev.steps tokX7_init 3 (P := True) (pc' := 9) (lv' := [some (.ref 84)]) (st' := []) (h' := (c210 b)) rfl trivial ?_
  refine Ev.steps tokX7_init 2 (P := True) (pc' := 12) (lv' := [some (.ref 84)]) (st' := [.int 10, .ref 84]) (h' := (c210 b)) rfl trivial ?_
  refine ev_newaN (n0 := 85) (k := 13) (N := 10) (bc := 13) (bs := 87) (dcd tokX7_init rfl) rfl (by decide) rfl (by decide) (by decide) (by decide) (by decide) ?_
  show Ev _ _ _ _ _ _ _ (c211 b) _
  refine Ev.steps tokX7_init 1 (P := True) (pc' := 17) (lv' := [some (.ref 84)]) (st' := []) (h' := (c212 b)) rfl trivial ?_
  refine Ev.steps tokX7_init 2 (P := True) (pc' := 20) (lv' := [some (.ref 84)]) (st' := [.int 10, .ref 84]) (h' := (c212 b)) rfl trivial ?_
  refine ev_newaN (n0 := 86) (k := 13) (N := 10) (bc := 12) (bs := 77) (dcd tokX7_init rfl) rfl (by decide) rfl (by decide) (by decide) (by decide) (by decide) ?_
  show Ev _ _ _ _ _ _ _ (c213 b) _
  refine Ev.steps tokX7_init 1 (P := True) (pc' := 25) (lv' := [some (.ref 84)]) (st' := []) (h' := (c214 b)) rfl trivial ?_
  refine Ev.steps tokX7_init 2 (P := True) (pc' := 28) (lv' := [some (.ref 84)]) (st' := [.int 10, .ref 84]) (h' := (c214 b)) rfl trivial ?_
  refine ev_newaN (n0 := 87) (k := 13) (N := 10) (bc := 11) (bs := 67) (dcd tokX7_init rfl) rfl (by decide) rfl (by decide) (by decide) (by decide) (by decide) ?_
  show Ev _ _ _ _ _ _ _ (c215 b) _
  refine Ev.steps tokX7_init 1 (P := True) (pc' := 33) (lv' := [some (.ref 84)]) (st' := []) (h' := (c216 b)) rfl trivial ?_
  refine Ev.steps tokX7_init 2 (P := True) (pc' := 36) (lv' := [some (.ref 84)]) (st' := [.int 10, .ref 84]) (h' := (c216 b)) rfl trivial ?_
  refine ev_newaN (n0 := 88) (k := 13) (N := 10) (bc := 10) (bs := 57) (dcd tokX7_init rfl) rfl (by decide) rfl (by decide) (by decide) (by decide) (by decide) ?_
  show Ev _ _ _ _ _ _ _ (c217 b) _
  refine Ev.steps tokX7_init 1 (P := True) (pc' := 41) (lv' := [some (.ref 84)]) (st' := []) (h' := (c218 b)) rfl trivial ?_
  refine Ev.steps tokX7_init 2 (P := True) (pc' := 44) (lv' := [some (.ref 84)]) (st' := [.int 10, .ref 84]) (h' := (c218 b)) rfl trivial ?_
  refine ev_newaN (n0 := 89) (k := 15) (N := 10) (bc := 9) (bs := 47) (dcd tokX7_init rfl) rfl (by decide) rfl (by decide) (by decide) (by decide) (by decide) ?_
  show Ev _ _ _ _ _ _ _ (c219 b) _
  refine Ev.steps tokX7_init 1 (P := True) (pc' := 49) (lv' := [some (.ref 84)]) (st' := []) (h' := (c220 b)) rfl trivial ?_
  refine Ev.steps tokX7_init 3 (P := True) (pc' := 54) (lv' := [some (.ref 84)]) (st' := []) (h' := (c221 b)) rfl trivial ?_
  refine Ev.steps tokX7_init 2 (P := True) (pc' := 56) (lv' := [some (.ref 84)]) (st' := [.int 5, .ref 84]) (h' := (c221 b)) rfl trivial ?_
  refine ev_newaN (n0 := 90) (k := 13) (N := 5) (bc := 8) (bs := 42) (dcd tokX7_init rfl) rfl (by decide) rfl (by decide) (by decide) (by decide) (by decide) ?_
  show Ev _ _ _ _ _ _ _ (c222 b) _
  refine Ev.steps tokX7_init 1 (P := True) (pc' := 61) (lv' := [some (.ref 84)]) (st' := []) (h' := (c223 b)) rfl trivial ?_
  refine Ev.steps tokX7_init 2 (P := True) (pc' := 63) (lv' := [some (.ref 84)]) (st' := [.int 5, .ref 84]) (h' := (c223 b)) rfl trivial ?_
  refine ev_newaN (n0 := 91) (k := 13) (N := 5) (bc := 7) (bs := 37) (dcd tokX7_init rfl) rfl (by decide) rfl (by decide) (by decide) (by decide) (by decide) ?_
  show Ev _ _ _ _ _ _ _ (c224 b) _
  refine Ev.steps tokX7_init 1 (P := True) (pc' := 68) (lv' := [some (.ref 84)]) (st' := []) (h' := (c225 b)) rfl trivial ?_
  refine Ev.steps tokX7_init 2 (P := True) (pc' := 70) (lv' := [some (.ref 84)]) (st' := [.int 5, .ref 84]) (h' := (c225 b)) rfl trivial ?_
  refine ev_newaN (n0 := 92) (k := 13) (N := 5) (bc := 6) (bs := 32) (dcd tokX7_init rfl) rfl (by decide) rfl (by decide) (by decide) (by decide) (by decide) ?_
  show Ev _ _ _ _ _ _ _ (c226 b) _
  refine Ev.steps tokX7_init 1 (P := True) (pc' := 75) (lv' := [some (.ref 84)]) (st' := []) (h' := (c227 b)) rfl trivial ?_
  refine Ev.steps tokX7_init 2 (P := True) (pc' := 77) (lv' := [some (.ref 84)]) (st' := [.int 5, .ref 84]) (h' := (c227 b)) rfl trivial ?_
  refine ev_newaN (n0 := 93) (k := 13) (N := 5) (bc := 5) (bs := 27) (dcd tokX7_init rfl) rfl (by decide) rfl (by decide) (by decide) (by decide) (by decide) ?_
  show Ev _ _ _ _ _ _ _ (c228 b) _
  refine Ev.steps tokX7_init 1 (P := True) (pc' := 82) (lv' := [some (.ref 84)]) (st' := []) (h' := (c229 b)) rfl trivial ?_
  refine Ev.steps tokX7_init 3 (P := True) (pc' := 87) (lv' := [some (.ref 84)]) (st' := []) (h' := (c230 b)) rfl trivial ?_
  refine Ev.steps tokX7_init 2 (P := True) (pc' := 90) (lv' := [some (.ref 84)]) (st' := [.int 6, .ref 84]) (h' := (c230 b)) rfl trivial ?_
  refine ev_newaN (n0 := 94) (k := 13) (N := 6) (bc := 4) (bs := 21) (dcd tokX7_init rfl) rfl (by decide) rfl (by decide) (by decide) (by decide) (by decide) ?_
  show Ev _ _ _ _ _ _ _ (c231 b) _
  refine Ev.steps tokX7_init 1 (P := True) (pc' := 95) (lv' := [some (.ref 84)]) (st' := []) (h' := (c232 b)) rfl trivial ?_
  refine Ev.steps tokX7_init 2 (P := True) (pc' := 98) (lv' := [some (.ref 84)]) (st' := [.int 6, .ref 84]) (h' := (c232 b)) rfl trivial ?_
  refine ev_newaN (n0 := 95) (k := 13) (N := 6) (bc := 3) (bs := 15) (dcd tokX7_init rfl) rfl (by decide) rfl (by decide) (by decide) (by decide) (by decide) ?_
  show Ev _ _ _ _ _ _ _ (c233 b) _
  refine Ev.steps tokX7_init 1 (P := True) (pc' := 103) (lv' := [some (.ref 84)]) (st' := []) (h' := (c234 b)) rfl trivial ?_
  refine Ev.steps tokX7_init 2 (P := True) (pc' := 106) (lv' := [some (.ref 84)]) (st' := [.int 6, .ref 84]) (h' := (c234 b)) rfl trivial ?_
  refine ev_newaN (n0 := 96) (k := 13) (N := 6) (bc := 2) (bs := 9) (dcd tokX7_init rfl) rfl (by decide) rfl (by decide) (by decide) (by decide) (by decide) ?_
  show Ev _ _ _ _ _ _ _ (c235 b) _
  refine Ev.steps tokX7_init 1 (P := True) (pc' := 111) (lv' := [some (.ref 84)]) (st' := []) (h' := (c236 b)) rfl trivial ?_
  refine Ev.steps tokX7_init 2 (P := True) (pc' := 113) (lv' := [some (.ref 84)]) (st' := [.int 3, .ref 84]) (h' := (c236 b)) rfl trivial ?_
  refine ev_newaN (n0 := 97) (k := 13) (N := 3) (bc := 1) (bs := 6) (dcd tokX7_init rfl) rfl (by decide) rfl (by decide) (by decide) (by decide) (by decide) ?_
  show Ev _ _ _ _ _ _ _ (c237 b) _
  refine Ev.steps tokX7_init 4 (P := vp_in 0 3 ∧ True) (pc' := 119) (lv' := [some (.ref 84)]) (st' := [.ref 97, .ref 84]) (h' := (c238 b)) rfl ⟨(by unfold vp_in; decide), trivial⟩ ?_
  refine Ev.steps tokX7_init 4 (P := vp_in 1 3 ∧ True) (pc' := 123) (lv' := [some (.ref 84)]) (st' := [.ref 97, .ref 84]) (h' := (c239 b)) rfl ⟨(by unfold vp_in; decide), trivial⟩ ?_
  refine Ev.steps tokX7_init 4 (P := vp_in 2 3 ∧ True) (pc' := 127) (lv' := [some (.ref 84)]) (st' := [.ref 97, .ref 84]) (h' := (c240 b)) rfl ⟨(by unfold vp_in; decide), trivial⟩ ?_
  refine Ev.steps tokX7_init 1 (P := True) (pc' := 130) (lv' := [some (.ref 84)]) (st' := []) (h' := (c241 b)) rfl trivial ?_
  refine Ev.steps tokX7_init 3 (P := True) (pc' := 135) (lv' := [some (.ref 84)]) (st' := []) (h' := (c242 b)) rfl trivial ?_
  refine Ev.steps tokX7_init 2 (P := True) (pc' := 138) (lv' := [some (.ref 84)]) (st' := [.int 6, .ref 84]) (h' := (c242 b)) rfl trivial ?_
  refine ev_anewN (n0 := 98) (ci := 9) (k := 17) (N := 6) (bc := 0) (bs := 0) (dcd tokX7_init rfl) rfl (Or.inr ⟨rfl, rfl⟩) rfl (by decide) (by decide) (by decide) (by decide) ?_
  show Ev _ _ _ _ _ _ _ (c243 b) _
  refine Ev.steps tokX7_init 1 (P := True) (pc' := 144) (lv' := [some (.ref 84)]) (st' := []) (h' := (c244 b)) rfl trivial ?_
  refine Ev.steps tokX7_init 3 (P := True) (pc' := 149) (lv' := [some (.ref 84)]) (st' := []) (h' := (c245 b)) rfl trivial ?_
  exact Ev.retv tokX7_init rfl rfl ⟨rfl, rfl⟩
def c246 (b : HP) : HP := sR (c245 (mkn 83 b 2 0)) (u2 (kR (c245 (mkn 83 b 2 0))) 83 0 (some 84))
def c247 (b : HP) : HP := sI (c246 b) (u2 (kI (c246 b)) 83 2 0)
def c248 (b : HP) : HP := sR (c247 b) (u2 (kR (c247 b)) 83 1 (some 20))
set_option maxHeartbeats 8000000 in
set_option maxRecDepth 40000 in
theorem cn13 (b : HP) : Ct mX2_init 2 15 116 [.ref 83, .ref 20] (mkn 83 b 2 0) (fun v h => v = none ∧ h = (c248 b)) := by
  refine Ct.of (lv := [some (.ref 83), some (.ref 20)]) rfl rfl rfl (show (_ : Nat) ≤ _ from Nat.le_of_ble_eq_true rfl) (fun G => rfl) ?_
  refine Ev.steps tokX2_init 1 (P := True) (pc' := 1) (lv' := [some (.ref 83), some (.ref 20)]) (st' := [.ref 83]) (h' := (mkn 83 b 2 0)) rfl trivial ?_
  refine ev_objInit (dcd tokX2_init rfl) lk2_3 ob_in.1 ob_in.2 (by decide) (Nat.le_of_ble_eq_true rfl) ?_
  refine Ev.steps tokX2_init 1 (P := True) (pc' := 5) (lv' := [some (.ref 83), some (.ref 20)]) (st' := [.ref 83]) (h' := (mkn 83 b 2 0)) rfl trivial ?_
  refine ev_newN (n := 84) (ci := 7) (bc := 14) (bs := 97) (dcd tokX2_init rfl) rfl rfl (by decide) ?_
  show Ev _ _ _ _ _ _ _ (c209 b) _
  refine Ev.steps tokX2_init 1 (P := True) (pc' := 9) (lv' := [some (.ref 83), some (.ref 20)]) (st' := [.ref 84, .ref 84, .ref 83]) (h' := (c209 b)) rfl trivial ?_
  refine ev_callIN (N := mX7_init) (d' := 1) (bc := 0) (bs := 0) (bc' := 14) (bs' := 97) (a := 84) (as := []) (rest := [.ref 84, .ref 83]) (dcd tokX2_init rfl) okX7_init rfl inX7_init rfl lk2_11 rfl (by decide) (Nat.le_of_ble_eq_true rfl) (cn12 (mkn 83 b 2 0)) (fun v h' hq hn => ?_)
  obtain ⟨rfl, rfl⟩ := hq
  refine Ev.steps tokX2_init 1 (P := True) (pc' := 15) (lv' := [some (.ref 83), some (.ref 20)]) (st' := []) (h' := (c246 b)) rfl trivial ?_
  refine Ev.steps tokX2_init 3 (P := True) (pc' := 20) (lv' := [some (.ref 83), some (.ref 20)]) (st' := []) (h' := (c247 b)) rfl trivial ?_
  refine Ev.steps tokX2_init 3 (P := True) (pc' := 25) (lv' := [some (.ref 83), some (.ref 20)]) (st' := []) (h' := (c248 b)) rfl trivial ?_
  exact Ev.retv tokX2_init rfl rfl ⟨rfl, rfl⟩
def c249 (b : HP) : HP := sR (c248 (c207 b)) (u2 (kR (c248 (c207 b))) 0 10 (some 83))
def c250 (b : HP) : HP := mkn 99 (c249 b) 13 7
def c251 (b : HP) : HP := sR (c250 b) (u2 (kR (c250 b)) 0 11 (some 99))
def c252 (b : HP) : HP := sI (c251 b) (u2 (kI (c251 b)) 0 12 0)
def c253 (b : HP) : HP := sI (c252 b) (u2 (kI (c252 b)) 0 13 (-1))
def c254 (b : HP) : HP := sI (c253 b) (u2 (kI (c253 b)) 0 14 (-1))
def c255 (b : HP) : HP := sI (c254 b) (u2 (kI (c254 b)) 0 15 0)
def c256 (b : HP) : HP := mkn 100 (c255 b) 7 0
def c257 (b : HP) : HP := sI (mkn 100 b 7 0) (u2 (kI (mkn 100 b 7 0)) 100 0 0)
def c258 (b : HP) : HP := mkn 101 (c257 b) 13 10
def c259 (b : HP) : HP := sR (c258 b) (u2 (kR (c258 b)) 100 1 (some 101))
def c260 (b : HP) : HP := mkn 102 (c259 b) 13 10
def c261 (b : HP) : HP := sR (c260 b) (u2 (kR (c260 b)) 100 2 (some 102))
def c262 (b : HP) : HP := mkn 103 (c261 b) 13 10
def c263 (b : HP) : HP := sR (c262 b) (u2 (kR (c262 b)) 100 3 (some 103))
def c264 (b : HP) : HP := mkn 104 (c263 b) 13 10
def c265 (b : HP) : HP := sR (c264 b) (u2 (kR (c264 b)) 100 4 (some 104))
def c266 (b : HP) : HP := mkn 105 (c265 b) 15 10
def c267 (b : HP) : HP := sR (c266 b) (u2 (kR (c266 b)) 100 5 (some 105))
def c268 (b : HP) : HP := sI (c267 b) (u2 (kI (c267 b)) 100 6 0)
def c269 (b : HP) : HP := mkn 106 (c268 b) 13 5
def c270 (b : HP) : HP := sR (c269 b) (u2 (kR (c269 b)) 100 7 (some 106))
def c271 (b : HP) : HP := mkn 107 (c270 b) 13 5
def c272 (b : HP) : HP := sR (c271 b) (u2 (kR (c271 b)) 100 8 (some 107))
def c273 (b : HP) : HP := mkn 108 (c272 b) 13 5
def c274 (b : HP) : HP := sR (c273 b) (u2 (kR (c273 b)) 100 9 (some 108))
def c275 (b : HP) : HP := mkn 109 (c274 b) 13 5
def c276 (b : HP) : HP := sR (c275 b) (u2 (kR (c275 b)) 100 10 (some 109))
def c277 (b : HP) : HP := sI (c276 b) (u2 (kI (c276 b)) 100 11 0)
def c278 (b : HP) : HP := mkn 110 (c277 b) 13 6
def c279 (b : HP) : HP := sR (c278 b) (u2 (kR (c278 b)) 100 12 (some 110))
def c280 (b : HP) : HP := mkn 111 (c279 b) 13 6
def c281 (b : HP) : HP := sR (c280 b) (u2 (kR (c280 b)) 100 13 (some 111))
def c282 (b : HP) : HP := mkn 112 (c281 b) 13 6
def c283 (b : HP) : HP := sR (c282 b) (u2 (kR (c282 b)) 100 14 (some 112))
def c284 (b : HP) : HP := mkn 113 (c283 b) 13 3
def c285 (b : HP) : HP := sA (c284 b) (u2 (kA (c284 b)) 113 0 0)
def c286 (b : HP) : HP := sA (c285 b) (u2 (kA (c285 b)) 113 1 1)
def c287 (b : HP) : HP := sA (c286 b) (u2 (kA (c286 b)) 113 2 0)
def c288 (b : HP) : HP := sR (c287 b) (u2 (kR (c287 b)) 100 15 (some 113))
def c289 (b : HP) : HP := sI (c288 b) (u2 (kI (c288 b)) 100 16 0)
def c290 (b : HP) : HP := mkn 114 (c289 b) 17 6
def c291 (b : HP) : HP := sR (c290 b) (u2 (kR (c290 b)) 100 17 (some 114))
def c292 (b : HP) : HP := sI (c291 b) (u2 (kI (c291 b)) 100 18 (-1))
set_option maxHeartbeats 8000000 in
set_option maxRecDepth 40000 in
theorem cn14 (b : HP) : Ct mX7_init 1 14 97 [.ref 100] (mkn 100 b 7 0) (fun v h => v = none ∧ h = (c292 b)) := by
  refine Ct.of (lv := [some (.ref 100)]) rfl rfl rfl (show (_ : Nat) ≤ _ from Nat.le_of_ble_eq_true rfl) (fun G => rfl) ?_
  refine Ev.steps tokX7_init 1 (P := True) (pc' := 1) (lv' := [some (.ref 100)]) (st' := [.ref 100]) (h' := (mkn 100 b 7 0)) rfl trivial ?_
  refine ev_objInit (dcd tokX7_init rfl) lk7_3 ob_in.1 ob_in.2 (by decide) (Nat.le_of_ble_eq_true rfl) ?_
  refine Ev.steps tokX7_init 3 (P := True) (pc' := 9) (lv' := [some (.ref 100)]) (st' := []) (h' := (c257 b)) rfl trivial ?_
  refine Ev.steps tokX7_init 2 (P := True) (pc' := 12) (lv' := [some (.ref 100)]) (st' := [.int 10, .ref 100]) (h' := (c257 b)) rfl trivial ?_
  refine ev_newaN (n0 := 101) (k := 13) (N := 10) (bc := 13) (bs := 87) (dcd tokX7_init rfl) rfl (by decide) rfl (by decide) (by decide) (by decide) (by decide) ?_
  show Ev _ _ _ _ _ _ _ (c258 b) _
  refine Ev.steps tokX7_init 1 (P := True) (pc' := 17) (lv' := [some (.ref 100)]) (st' := []) (h' := (c259 b)) rfl trivial ?_
  refine Ev.steps tokX7_init 2 (P := True) (pc' := 20) (lv' := [some (.ref 100)]) (st' := [.int 10, .ref 100]) (h' := (c259 b)) rfl trivial ?_
  refine ev_newaN (n0 := 102) (k := 13) (N := 10) (bc := 12) (bs := 77) (dcd tokX7_init rfl) rfl (by decide) rfl (by decide) (by decide) (by decide) (by decide) ?_
  show Ev _ _ _ _ _ _ _ (c260 b) _
  refine Ev.steps tokX7_init 1 (P := True) (pc' := 25) (lv' := [some (.ref 100)]) (st' := []) (h' := (c261 b)) rfl trivial ?_
  refine Ev.steps tokX7_init 2 (P := True) (pc' := 28) (lv' := [some (.ref 100)]) (st' := [.int 10, .ref 100]) (h' := (c261 b)) rfl trivial ?_
  refine ev_newaN (n0 := 103) (k := 13) (N := 10) (bc := 11) (bs := 67) (dcd tokX7_init rfl) rfl (by decide) rfl (by decide) (by decide) (by decide) (by decide) ?_
  show Ev _ _ _ _ _ _ _ (c262 b) _
  refine Ev.steps tokX7_init 1 (P := True) (pc' := 33) (lv' := [some (.ref 100)]) (st' := []) (h' := (c263 b)) rfl trivial ?_
  refine Ev.steps tokX7_init 2 (P := True) (pc' := 36) (lv' := [some (.ref 100)]) (st' := [.int 10, .ref 100]) (h' := (c263 b)) rfl trivial ?_
  refine ev_newaN (n0 := 104) (k := 13) (N := 10) (bc := 10) (bs := 57) (dcd tokX7_init rfl) rfl (by decide) rfl (by decide) (by decide) (by decide) (by decide) ?_
  show Ev _ _ _ _ _ _ _ (c264 b) _
  refine Ev.steps tokX7_init 1 (P := True) (pc' := 41) (lv' := [some (.ref 100)]) (st' := []) (h' := (c265 b)) rfl trivial ?_
  refine Ev.steps tokX7_init 2 (P := True) (pc' := 44) (lv' := [some (.ref 100)]) (st' := [.int 10, .ref 100]) (h' := (c265 b)) rfl trivial ?_
  refine ev_newaN (n0 := 105) (k := 15) (N := 10) (bc := 9) (bs := 47) (dcd tokX7_init rfl) rfl (by decide) rfl (by decide) (by decide) (by decide) (by decide) ?_
  show Ev _ _ _ _ _ _ _ (c266 b) _
  refine Ev.steps tokX7_init 1 (P := True) (pc' := 49) (lv' := [some (.ref 100)]) (st' := []) (h' := (c267 b)) rfl trivial ?_
  refine Ev.steps tokX7_init 3 (P := True) (pc' := 54) (lv' := [some (.ref 100)]) (st' := []) (h' := (c268 b)) rfl trivial ?_
  refine Ev.steps tokX7_init 2 (P := True) (pc' := 56) (lv' := [some (.ref 100)]) (st' := [.int 5, .ref 100]) (h' := (c268 b)) rfl trivial ?_
  refine ev_newaN (n0 := 106) (k := 13) (N := 5) (bc := 8) (bs := 42) (dcd tokX7_init rfl) rfl (by decide) rfl (by decide) (by decide) (by decide) (by decide) ?_
  show Ev _ _ _ _ _ _ _ (c269 b) _
  refine Ev.steps tokX7_init 1 (P := True) (pc' := 61) (lv' := [some (.ref 100)]) (st' := []) (h' := (c270 b)) rfl trivial ?_
  refine Ev.steps tokX7_init 2 (P := True) (pc' := 63) (lv' := [some (.ref 100)]) (st' := [.int 5, .ref 100]) (h' := (c270 b)) rfl trivial ?_
  refine ev_newaN (n0 := 107) (k := 13) (N := 5) (bc := 7) (bs := 37) (dcd tokX7_init rfl) rfl (by decide) rfl (by decide) (by decide) (by decide) (by decide) ?_
  show Ev _ _ _ _ _ _ _ (c271 b) _
  refine Ev.steps tokX7_init 1 (P := True) (pc' := 68) (lv' := [some (.ref 100)]) (st' := []) (h' := (c272 b)) rfl trivial ?_
  refine Ev.steps tokX7_init 2 (P := True) (pc' := 70) (lv' := [some (.ref 100)]) (st' := [.int 5, .ref 100]) (h' := (c272 b)) rfl trivial ?_
  refine ev_newaN (n0 := 108) (k := 13) (N := 5) (bc := 6) (bs := 32) (dcd tokX7_init rfl) rfl (by decide) rfl (by decide) (by decide) (by decide) (by decide) ?_
  show Ev _ _ _ _ _ _ _ (c273 b) _
  refine Ev.steps tokX7_init 1 (P := True) (pc' := 75) (lv' := [some (.ref 100)]) (st' := []) (h' := (c274 b)) rfl trivial ?_
  refine Ev.steps tokX7_init 2 (P := True) (pc' := 77) (lv' := [some (.ref 100)]) (st' := [.int 5, .ref 100]) (h' := (c274 b)) rfl trivial ?_
  refine ev_newaN (n0 := 109) (k := 13) (N := 5) (bc := 5) (bs := 27) (dcd tokX7_init rfl) rfl (by decide) rfl (by decide) (by decide) (by decide) (by decide) ?_
  show Ev _ _ _ _ _ _ _ (c275 b) _
  refine Ev.steps tokX7_init 1 (P := True) (pc' := 82) (lv' := [some (.ref 100)]) (st' := []) (h' := (c276 b)) rfl trivial ?_
  refine Ev.steps tokX7_init 3 (P := True) (pc' := 87) (lv' := [some (.ref 100)]) (st' := []) (h' := (c277 b)) rfl trivial ?_
  refine Ev.steps tokX7_init 2 (P := True) (pc' := 90) (lv' := [some (.ref 100)]) (st' := [.int 6, .ref 100]) (h' := (c277 b)) rfl trivial ?_
  refine ev_newaN (n0 := 110) (k := 13) (N := 6) (bc := 4) (bs := 21) (dcd tokX7_init rfl) rfl (by decide) rfl (by decide) (by decide) (by decide) (by decide) ?_
  show Ev _ _ _ _ _ _ _ (c278 b) _
  refine Ev.steps tokX7_init 1 (P := True) (pc' := 95) (lv' := [some (.ref 100)]) (st' := []) (h' := (c279 b)) rfl trivial ?_
  refine Ev.steps tokX7_init 2 (P := True) (pc' := 98) (lv' := [some (.ref 100)]) (st' := [.int 6, .ref 100]) (h' := (c279 b)) rfl trivial ?_
  refine ev_newaN (n0 := 111) (k := 13) (N := 6) (bc := 3) (bs := 15) (dcd tokX7_init rfl) rfl (by decide) rfl (by decide) (by decide) (by decide) (by decide) ?_
  show Ev _ _ _ _ _ _ _ (c280 b) _
  refine Ev.steps tokX7_init 1 (P := True) (pc' := 103) (lv' := [some (.ref 100)]) (st' := []) (h' := (c281 b)) rfl trivial ?_
  refine Ev.steps tokX7_init 2 (P := True) (pc' := 106) (lv' := [some (.ref 100)]) (st' := [.int 6, .ref 100]) (h' := (c281 b)) rfl trivial ?_
  refine ev_newaN (n0 := 112) (k := 13) (N := 6) (bc := 2) (bs := 9) (dcd tokX7_init rfl) rfl (by decide) rfl (by decide) (by decide) (by decide) (by decide) ?_
  show Ev _ _ _ _ _ _ _ (c282 b) _
  refine Ev.steps tokX7_init 1 (P := True) (pc' := 111) (lv' := [some (.ref 100)]) (st' := []) (h' := (c283 b)) rfl trivial ?_
  refine Ev.steps tokX7_init 2 (P := True) (pc' := 113) (lv' := [some (.ref 100)]) (st' := [.int 3, .ref 100]) (h' := (c283 b)) rfl trivial ?_
  refine ev_newaN (n0 := 113) (k := 13) (N := 3) (bc := 1) (bs := 6) (dcd tokX7_init rfl) rfl (by decide) rfl (by decide) (by decide) (by decide) (by decide) ?_
  show Ev _ _ _ _ _ _ _ (c284 b) _
  refine Ev.steps tokX7_init 4 (P := vp_in 0 3 ∧ True) (pc' := 119) (lv' := [some (.ref 100)]) (st' := [.ref 113, .ref 100]) (h' := (c285 b)) rfl ⟨(by unfold vp_in; decide), trivial⟩ ?_
  refine Ev.steps tokX7_init 4 (P := vp_in 1 3 ∧ True) (pc' := 123) (lv' := [some (.ref 100)]) (st' := [.ref 113, .ref 100]) (h' := (c286 b)) rfl ⟨(by unfold vp_in; decide), trivial⟩ ?_
  refine Ev.steps tokX7_init 4 (P := vp_in 2 3 ∧ True) (pc' := 127) (lv' := [some (.ref 100)]) (st' := [.ref 113, .ref 100]) (h' := (c287 b)) rfl ⟨(by unfold vp_in; decide), trivial⟩ ?_
  refine Ev.steps tokX7_init 1 (P := True) (pc' := 130) (lv' := [some (.ref 100)]) (st' := []) (h' := (c288 b)) rfl trivial ?_
  refine Ev.steps tokX7_init 3 (P := True) (pc' := 135) (lv' := [some (.ref 100)]) (st' := []) (h' := (c289 b)) rfl trivial ?_
  refine Ev.steps tokX7_init 2 (P := True) (pc' := 138) (lv' := [some (.ref 100)]) (st' := [.int 6, .ref 100]) (h' := (c289 b)) rfl trivial ?_
  refine ev_anewN (n0 := 114) (ci := 9) (k := 17) (N := 6) (bc := 0) (bs := 0) (dcd tokX7_init rfl) rfl (Or.inr ⟨rfl, rfl⟩) rfl (by decide) (by decide) (by decide) (by decide) ?_
  show Ev _ _ _ _ _ _ _ (c290 b) _
  refine Ev.steps tokX7_init 1 (P := True) (pc' := 144) (lv' := [some (.ref 100)]) (st' := []) (h' := (c291 b)) rfl trivial ?_
  refine Ev.steps tokX7_init 3 (P := True) (pc' := 149) (lv' := [some (.ref 100)]) (st' := []) (h' := (c292 b)) rfl trivial ?_
  exact Ev.retv tokX7_init rfl rfl ⟨rfl, rfl⟩
def c293 (b : HP) : HP := sQ (c292 (c255 b)) (u2 (kQ (c292 (c255 b))) 16 0 (some 100))
def c294 (b : HP) : HP := mkn 115 (c293 b) 7 0
def c295 (b : HP) : HP := sI (mkn 115 b 7 0) (u2 (kI (mkn 115 b 7 0)) 115 0 0)
def c296 (b : HP) : HP := mkn 116 (c295 b) 13 10
def c297 (b : HP) : HP := sR (c296 b) (u2 (kR (c296 b)) 115 1 (some 116))
def c298 (b : HP) : HP := mkn 117 (c297 b) 13 10
def c299 (b : HP) : HP := sR (c298 b) (u2 (kR (c298 b)) 115 2 (some 117))
def c300 (b : HP) : HP := mkn 118 (c299 b) 13 10
def c301 (b : HP) : HP := sR (c300 b) (u2 (kR (c300 b)) 115 3 (some 118))
def c302 (b : HP) : HP := mkn 119 (c301 b) 13 10
def c303 (b : HP) : HP := sR (c302 b) (u2 (kR (c302 b)) 115 4 (some 119))
def c304 (b : HP) : HP := mkn 120 (c303 b) 15 10
def c305 (b : HP) : HP := sR (c304 b) (u2 (kR (c304 b)) 115 5 (some 120))
def c306 (b : HP) : HP := sI (c305 b) (u2 (kI (c305 b)) 115 6 0)
def c307 (b : HP) : HP := mkn 121 (c306 b) 13 5
def c308 (b : HP) : HP := sR (c307 b) (u2 (kR (c307 b)) 115 7 (some 121))
def c309 (b : HP) : HP := mkn 122 (c308 b) 13 5
def c310 (b : HP) : HP := sR (c309 b) (u2 (kR (c309 b)) 115 8 (some 122))
def c311 (b : HP) : HP := mkn 123 (c310 b) 13 5
def c312 (b : HP) : HP := sR (c311 b) (u2 (kR (c311 b)) 115 9 (some 123))
def c313 (b : HP) : HP := mkn 124 (c312 b) 13 5
def c314 (b : HP) : HP := sR (c313 b) (u2 (kR (c313 b)) 115 10 (some 124))
def c315 (b : HP) : HP := sI (c314 b) (u2 (kI (c314 b)) 115 11 0)
def c316 (b : HP) : HP := mkn 125 (c315 b) 13 6
def c317 (b : HP) : HP := sR (c316 b) (u2 (kR (c316 b)) 115 12 (some 125))
def c318 (b : HP) : HP := mkn 126 (c317 b) 13 6
def c319 (b : HP) : HP := sR (c318 b) (u2 (kR (c318 b)) 115 13 (some 126))
def c320 (b : HP) : HP := mkn 127 (c319 b) 13 6
def c321 (b : HP) : HP := sR (c320 b) (u2 (kR (c320 b)) 115 14 (some 127))
def c322 (b : HP) : HP := mkn 128 (c321 b) 13 3
def c323 (b : HP) : HP := sA (c322 b) (u2 (kA (c322 b)) 128 0 0)
def c324 (b : HP) : HP := sA (c323 b) (u2 (kA (c323 b)) 128 1 1)
def c325 (b : HP) : HP := sA (c324 b) (u2 (kA (c324 b)) 128 2 0)
def c326 (b : HP) : HP := sR (c325 b) (u2 (kR (c325 b)) 115 15 (some 128))
def c327 (b : HP) : HP := sI (c326 b) (u2 (kI (c326 b)) 115 16 0)
def c328 (b : HP) : HP := mkn 129 (c327 b) 17 6
def c329 (b : HP) : HP := sR (c328 b) (u2 (kR (c328 b)) 115 17 (some 129))
def c330 (b : HP) : HP := sI (c329 b) (u2 (kI (c329 b)) 115 18 (-1))
set_option maxHeartbeats 8000000 in
set_option maxRecDepth 40000 in
theorem cn15 (b : HP) : Ct mX7_init 1 14 97 [.ref 115] (mkn 115 b 7 0) (fun v h => v = none ∧ h = (c330 b)) := by
  refine Ct.of (lv := [some (.ref 115)]) rfl rfl rfl (show (_ : Nat) ≤ _ from Nat.le_of_ble_eq_true rfl) (fun G => rfl) ?_
  refine Ev.steps tokX7_init 1 (P := True) (pc' := 1) (lv' := [some (.ref 115)]) (st' := [.ref 115]) (h' := (mkn 115 b 7 0)) rfl trivial ?_
  refine ev_objInit (dcd tokX7_init rfl) lk7_3 ob_in.1 ob_in.2 (by decide) (Nat.le_of_ble_eq_true rfl) ?_
  refine Ev.steps tokX7_init 3 (P := True) (pc' := 9) (lv' := [some (.ref 115)]) (st' := []) (h' := (c295 b)) rfl trivial ?_
  refine Ev.steps tokX7_init 2 (P := True) (pc' := 12) (lv' := [some (.ref 115)]) (st' := [.int 10, .ref 115]) (h' := (c295 b)) rfl trivial ?_
  refine ev_newaN (n0 := 116) (k := 13) (N := 10) (bc := 13) (bs := 87) (dcd tokX7_init rfl) rfl (by decide) rfl (by decide) (by decide) (by decide) (by decide) ?_
  show Ev _ _ _ _ _ _ _ (c296 b) _
  refine Ev.steps tokX7_init 1 (P := True) (pc' := 17) (lv' := [some (.ref 115)]) (st' := []) (h' := (c297 b)) rfl trivial ?_
  refine Ev.steps tokX7_init 2 (P := True) (pc' := 20) (lv' := [some (.ref 115)]) (st' := [.int 10, .ref 115]) (h' := (c297 b)) rfl trivial ?_
  refine ev_newaN (n0 := 117) (k := 13) (N := 10) (bc := 12) (bs := 77) (dcd tokX7_init rfl) rfl (by decide) rfl (by decide) (by decide) (by decide) (by decide) ?_
  show Ev _ _ _ _ _ _ _ (c298 b) _
  refine Ev.steps tokX7_init 1 (P := True) (pc' := 25) (lv' := [some (.ref 115)]) (st' := []) (h' := (c299 b)) rfl trivial ?_
  refine Ev.steps tokX7_init 2 (P := True) (pc' := 28) (lv' := [some (.ref 115)]) (st' := [.int 10, .ref 115]) (h' := (c299 b)) rfl trivial ?_
  refine ev_newaN (n0 := 118) (k := 13) (N := 10) (bc := 11) (bs := 67) (dcd tokX7_init rfl) rfl (by decide) rfl (by decide) (by decide) (by decide) (by decide) ?_
  show Ev _ _ _ _ _ _ _ (c300 b) _
  refine Ev.steps tokX7_init 1 (P := True) (pc' := 33) (lv' := [some (.ref 115)]) (st' := []) (h' := (c301 b)) rfl trivial ?_
  refine Ev.steps tokX7_init 2 (P := True) (pc' := 36) (lv' := [some (.ref 115)]) (st' := [.int 10, .ref 115]) (h' := (c301 b)) rfl trivial ?_
  refine ev_newaN (n0 := 119) (k := 13) (N := 10) (bc := 10) (bs := 57) (dcd tokX7_init rfl) rfl (by decide) rfl (by decide) (by decide) (by decide) (by decide) ?_
  show Ev _ _ _ _ _ _ _ (c302 b) _
  refine Ev.steps tokX7_init 1 (P := True) (pc' := 41) (lv' := [some (.ref 115)]) (st' := []) (h' := (c303 b)) rfl trivial ?_
  refine Ev.steps tokX7_init 2 (P := True) (pc' := 44) (lv' := [some (.ref 115)]) (st' := [.int 10, .ref 115]) (h' := (c303 b)) rfl trivial ?_
  refine ev_newaN (n0 := 120) (k := 15) (N := 10) (bc := 9) (bs := 47) (dcd tokX7_init rfl) rfl (by decide) rfl (by decide) (by decide) (by decide) (by decide) ?_
  show Ev _ _ _ _ _ _ _ (c304 b) _
  refine Ev.steps tokX7_init 1 (P := True) (pc' := 49) (lv' := [some (.ref 115)]) (st' := []) (h' := (c305 b)) rfl trivial ?_
  refine Ev.steps tokX7_init 3 (P := True) (pc' := 54) (lv' := [some (.ref 115)]) (st' := []) (h' := (c306 b)) rfl trivial ?_
  refine Ev.steps tokX7_init 2 (P := True) (pc' := 56) (lv' := [some (.ref 115)]) (st' := [.int 5, .ref 115]) (h' := (c306 b)) rfl trivial ?_
  refine ev_newaN (n0 := 121) (k := 13) (N := 5) (bc := 8) (bs := 42) (dcd tokX7_init rfl) rfl (by decide) rfl (by decide) (by decide) (by decide) (by decide) ?_
  show Ev _ _ _ _ _ _ _ (c307 b) _
  refine Ev.steps tokX7_init 1 (P := True) (pc' := 61) (lv' := [some (.ref 115)]) (st' := []) (h' := (c308 b)) rfl trivial ?_
  refine Ev.steps tokX7_init 2 (P := True) (pc' := 63) (lv' := [some (.ref 115)]) (st' := [.int 5, .ref 115]) (h' := (c308 b)) rfl trivial ?_
  refine ev_newaN (n0 := 122) (k := 13) (N := 5) (bc := 7) (bs := 37) (dcd tokX7_init rfl) rfl (by decide) rfl (by decide) (by decide) (by decide) (by decide) ?_
  show Ev _ _ _ _ _ _ _ (c309 b) _
  refine Ev.steps tokX7_init 1 (P := True) (pc' := 68) (lv' := [some (.ref 115)]) (st' := []) (h' := (c310 b)) rfl trivial ?_
  refine Ev.steps tokX7_init 2 (P := True) (pc' := 70) (lv' := [some (.ref 115)]) (st' := [.int 5, .ref 115]) (h' := (c310 b)) rfl trivial ?_
  refine ev_newaN (n0 := 123) (k := 13) (N := 5) (bc := 6) (bs := 32) (dcd tokX7_init rfl) rfl (by decide) rfl (by decide) (by decide) (by decide) (by decide) ?_
  show Ev _ _ _ _ _ _ _ (c311 b) _
  refine Ev.steps tokX7_init 1 (P := True) (pc' := 75) (lv' := [some (.ref 115)]) (st' := []) (h' := (c312 b)) rfl trivial ?_
  refine Ev.steps tokX7_init 2 (P := True) (pc' := 77) (lv' := [some (.ref 115)]) (st' := [.int 5, .ref 115]) (h' := (c312 b)) rfl trivial ?_
  refine ev_newaN (n0 := 124) (k := 13) (N := 5) (bc := 5) (bs := 27) (dcd tokX7_init rfl) rfl (by decide) rfl (by decide) (by decide) (by decide) (by decide) ?_
  show Ev _ _ _ _ _ _ _ (c313 b) _
  refine Ev.steps tokX7_init 1 (P := True) (pc' := 82) (lv' := [some (.ref 115)]) (st' := []) (h' := (c314 b)) rfl trivial ?_
  refine Ev.steps tokX7_init 3 (P := True) (pc' := 87) (lv' := [some (.ref 115)]) (st' := []) (h' := (c315 b)) rfl trivial ?_
  refine Ev.steps tokX7_init 2 (P := True) (pc' := 90) (lv' := [some (.ref 115)]) (st' := [.int 6, .ref 115]) (h' := (c315 b)) rfl trivial ?_
  refine ev_newaN (n0 := 125) (k := 13) (N := 6) (bc := 4) (bs := 21) (dcd tokX7_init rfl) rfl (by decide) rfl (by decide) (by decide) (by decide) (by decide) ?_
  show Ev _ _ _ _ _ _ _ (c316 b) _
  refine Ev.steps tokX7_init 1 (P := True) (pc' := 95) (lv' := [some (.ref 115)]) (st' := []) (h' := (c317 b)) rfl trivial ?_
  refine Ev.steps tokX7_init 2 (P := True) (pc' := 98) (lv' := [some (.ref 115)]) (st' := [.int 6, .ref 115]) (h' := (c317 b)) rfl trivial ?_
  refine ev_newaN (n0 := 126) (k := 13) (N := 6) (bc := 3) (bs := 15) (dcd tokX7_init rfl) rfl (by decide) rfl (by decide) (by decide) (by decide) (by decide) ?_
  show Ev _ _ _ _ _ _ _ (c318 b) _
  refine Ev.steps tokX7_init 1 (P := True) (pc' := 103) (lv' := [some (.ref 115)]) (st' := []) (h' := (c319 b)) rfl trivial ?_
  refine Ev.steps tokX7_init 2 (P := True) (pc' := 106) (lv' := [some (.ref 115)]) (st' := [.int 6, .ref 115]) (h' := (c319 b)) rfl trivial ?_
  refine ev_newaN (n0 := 127) (k := 13) (N := 6) (bc := 2) (bs := 9) (dcd tokX7_init rfl) rfl (by decide) rfl (by decide) (by decide) (by decide) (by decide) ?_
  show Ev _ _ _ _ _ _ _ (c320 b) _
  refine Ev.steps tokX7_init 1 (P := True) (pc' := 111) (lv' := [some (.ref 115)]) (st' := []) (h' := (c321 b)) rfl trivial ?_
  refine Ev.steps tokX7_init 2 (P := True) (pc' := 113) (lv' := [some (.ref 115)]) (st' := [.int 3, .ref 115]) (h' := (c321 b)) rfl trivial ?_
  refine ev_newaN (n0 := 128) (k := 13) (N := 3) (bc := 1) (bs := 6) (dcd tokX7_init rfl) rfl (by decide) rfl (by decide) (by decide) (by decide) (by decide) ?_
  show Ev _ _ _ _ _ _ _ (c322 b) _
  refine Ev.steps tokX7_init 4 (P := vp_in 0 3 ∧ True) (pc' := 119) (lv' := [some (.ref 115)]) (st' := [.ref 128, .ref 115]) (h' := (c323 b)) rfl ⟨(by unfold vp_in; decide), trivial⟩ ?_
  refine Ev.steps tokX7_init 4 (P := vp_in 1 3 ∧ True) (pc' := 123) (lv' := [some (.ref 115)]) (st' := [.ref 128, .ref 115]) (h' := (c324 b)) rfl ⟨(by unfold vp_in; decide), trivial⟩ ?_
  refine Ev.steps tokX7_init 4 (P := vp_in 2 3 ∧ True) (pc' := 127) (lv' := [some (.ref 115)]) (st' := [.ref 128, .ref 115]) (h' := (c325 b)) rfl ⟨(by unfold vp_in; decide), trivial⟩ ?_
  refine Ev.steps tokX7_init 1 (P := True) (pc' := 130) (lv' := [some (.ref 115)]) (st' := []) (h' := (c326 b)) rfl trivial ?_
  refine Ev.steps tokX7_init 3 (P := True) (pc' := 135) (lv' := [some (.ref 115)]) (st' := []) (h' := (c327 b)) rfl trivial ?_
  refine Ev.steps tokX7_init 2 (P := True) (pc' := 138) (lv' := [some (.ref 115)]) (st' := [.int 6, .ref 115]) (h' := (c327 b)) rfl trivial ?_
  refine ev_anewN (n0 := 129) (ci := 9) (k := 17) (N := 6) (bc := 0) (bs := 0) (dcd tokX7_init rfl) rfl (Or.inr ⟨rfl, rfl⟩) rfl (by decide) (by decide) (by decide) (by decide) ?_
  show Ev _ _ _ _ _ _ _ (c328 b) _
  refine Ev.steps tokX7_init 1 (P := True) (pc' := 144) (lv' := [some (.ref 115)]) (st' := []) (h' := (c329 b)) rfl trivial ?_
  refine Ev.steps tokX7_init 3 (P := True) (pc' := 149) (lv' := [some (.ref 115)]) (st' := []) (h' := (c330 b)) rfl trivial ?_
  exact Ev.retv tokX7_init rfl rfl ⟨rfl, rfl⟩
end
