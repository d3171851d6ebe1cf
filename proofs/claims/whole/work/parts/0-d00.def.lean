section DEFS
def bfX10_within_14 (x : XT)  (S : ST) (t0 : Int32) : Option (Int32 × ST) :=
  bif bbz t0 then (some (t0, S)) else none
def bfX10_within_13 (x : XT)  (S : ST)  : Option (Int32 × ST) :=
  bfX10_within_14 x S 0
def bfX10_within_0 (x : XT)  (S : ST) (p0 : Int32) (p1 : Int32) : Option (Int32 × ST) :=
  if p0 < 0 then (bfX10_within_13 x S) else (if p1 ≤ p0 then (bfX10_within_13 x S) else (bfX10_within_14 x S 1))
def gfX10_within (x : XT) (S : ST) (p0 : Int32) (p1 : Int32) : Option (Int32 × ST) := bfX10_within_0 x S p0 p1
def bfX7_addGate_1_37 (x : XT)  (S : ST)  : Option (Int32 × ST) :=
  some ((-1), S)
def bfX7_addGate_1_0 (x : XT)  (S : ST) (p1 : Int32) (p2 : Int32) (p3 : Int32) (p4 : Int32) : Option (Int32 × ST) :=
  match gfX10_within x S p1 6 with
    | none => none
    | some (r3, S4) => (if r3 = 0 then (bfX7_addGate_1_37 x S4) else (match gfX10_within x S4 p2 6 with
    | none => none
    | some (r8, S9) => (if r8 = 0 then (bfX7_addGate_1_37 x S9) else (match gfX10_within x S9 p3 8 with
    | none => none
    | some (r13, S14) => (if r13 = 0 then (bfX7_addGate_1_37 x S14) else (match gfX10_within x S14 p4 10 with
    | none => none
    | some (r18, S19) => (if ¬ r18 = 0 then (if (S19.1 1 0) < 10 then (bif inb (S19.1 1 0) 10 then (bif inb (S19.1 1 0) 10 then (bif inb (S19.1 1 0) 10 then (bif inb (S19.1 1 0) 10 then (bif inb (S19.1 1 0) 10 then (some ((S19.1 1 0), ((u2 S19.1 1 0 ((S19.1 1 0) + 1)), (u2 (u2 (u2 (u2 (u2 S19.2.1 2 ((S19.1 1 0).toNatClampNeg) p1) 3 ((S19.1 1 0).toNatClampNeg) p2) 4 ((S19.1 1 0).toNatClampNeg) p3) 5 ((S19.1 1 0).toNatClampNeg) p4) 6 ((S19.1 1 0).toNatClampNeg) (vp_nar .boolean 1)), S19.2.2.1, S19.2.2.2))) else none) else none) else none) else none) else none) else (some ((-5), S19))) else (bfX7_addGate_1_37 x S19))))))))
def gfX7_addGate_1 (x : XT) (S : ST) (p1 : Int32) (p2 : Int32) (p3 : Int32) (p4 : Int32) : Option (Int32 × ST) := bfX7_addGate_1_0 x S p1 p2 p3 p4
def bfX10_told_0_30 (x : XT)  (S : ST) (v1 : Int32) : Option (Int32 × ST) :=
  some (v1, S)
def bfX10_told_0_0 (x : XT)  (S : ST) (p1 : Int32) : Option (Int32 × ST) :=
  if 0 ≤ p1 then (bfX10_told_0_30 x ((u2 S.1 0 12 (if 0 < p1 then 0 else p1)), S.2.1, S.2.2.1, S.2.2.2) p1) else (if p1 ≤ (-7) then (bfX10_told_0_30 x ((u2 S.1 0 12 (if 0 < p1 then 0 else p1)), S.2.1, S.2.2.1, S.2.2.2) p1) else (bif inb (-p1) 7 then (bif inb (-p1) 7 then (bfX10_told_0_30 x ((u2 S.1 0 12 (if 0 < p1 then 0 else p1)), (u2 S.2.1 99 ((-p1).toNatClampNeg) ((S.2.1 99 ((-p1).toNatClampNeg)) + 1)), S.2.2.1, S.2.2.2) p1) else none) else none))
def gfX10_told_0 (x : XT) (S : ST) (p1 : Int32) : Option (Int32 × ST) := bfX10_told_0_0 x S p1
def bfX10_toldAnew_0_12 (x : XT)  (S : ST) (v1 : Int32) : Option (Int32 × ST) :=
  match gfX10_told_0 x S v1 with
    | none => none
    | some (r3, S4) => (some (r3, S4))
def bfX10_toldAnew_0_0 (x : XT)  (S : ST) (p1 : Int32) : Option (Int32 × ST) :=
  if p1 < 0 then (bfX10_toldAnew_0_12 x S p1) else (bfX10_toldAnew_0_12 x ((u2 S.1 33 0 0), S.2.1, S.2.2.1, S.2.2.2) p1)
def gfX10_toldAnew_0 (x : XT) (S : ST) (p1 : Int32) : Option (Int32 × ST) := bfX10_toldAnew_0_0 x S p1
def bfX10_gate_0_0 (x : XT)  (S : ST) (p1 : Int32) (p2 : Int32) (p3 : Int32) (p4 : Int32) : Option (Int32 × ST) :=
  match gfX7_addGate_1 x S p1 p2 p3 p4 with
    | none => none
    | some (r3, S4) => (match gfX10_toldAnew_0 x S4 r3 with
    | none => none
    | some (r7, S8) => (some (r7, S8)))
def gfX10_gate_0 (x : XT) (S : ST) (p1 : Int32) (p2 : Int32) (p3 : Int32) (p4 : Int32) : Option (Int32 × ST) := bfX10_gate_0_0 x S p1 p2 p3 p4
def bfX7_hasGate_1_17 (x : XT)  (S : ST) (t0 : Int32) : Option (Int32 × ST) :=
  bif bbz t0 then (some (t0, S)) else none
def bfX7_hasGate_1_16 (x : XT)  (S : ST)  : Option (Int32 × ST) :=
  bfX7_hasGate_1_17 x S 0
def bfX7_hasGate_1_0 (x : XT)  (S : ST) (p1 : Int32) : Option (Int32 × ST) :=
  if p1 < 0 then (bfX7_hasGate_1_16 x S) else (if (S.1 1 0) ≤ p1 then (bfX7_hasGate_1_16 x S) else (bfX7_hasGate_1_17 x S 1))
def gfX7_hasGate_1 (x : XT) (S : ST) (p1 : Int32) : Option (Int32 × ST) := bfX7_hasGate_1_0 x S p1
def bfX10_at_0_105 (x : XT)  (S : ST) (t0 : Int32) : Option (Int32 × ST) :=
  some (t0, S)
def bfX10_at_0_0 (x : XT)  (S : ST) (p1 : Int32) (p2 : Int32) : Option (Int32 × ST) :=
  match gfX7_hasGate_1 x S p1 with
    | none => none
    | some (r3, S4) => (if ¬ r3 = 0 then (if p2 = 0 then (bif inb p1 10 then (some ((S4.2.1 2 p1.toNatClampNeg), S4)) else none) else (if p2 = 1 then (bif inb p1 10 then (some ((S4.2.1 3 p1.toNatClampNeg), S4)) else none) else (if p2 = 2 then (bif inb p1 10 then (some ((S4.2.1 4 p1.toNatClampNeg), S4)) else none) else (if p2 = 3 then (bif inb p1 10 then (some ((S4.2.1 5 p1.toNatClampNeg), S4)) else none) else (if p2 = 4 then (bif inb p1 10 then (if (S4.2.1 6 p1.toNatClampNeg) = 0 then (bfX10_at_0_105 x S4 0) else (bfX10_at_0_105 x S4 1)) else none) else (some ((-1), S4))))))) else (some ((-1), S4)))
def gfX10_at_0 (x : XT) (S : ST) (p1 : Int32) (p2 : Int32) : Option (Int32 × ST) := bfX10_at_0_0 x S p1 p2
def bfX7_addGoer_1_26 (x : XT)  (S : ST)  : Option (Int32 × ST) :=
  some ((-1), S)
def bfX7_addGoer_1_0 (x : XT)  (S : ST) (p1 : Int32) (p2 : Int32) (p3 : Int32) : Option (Int32 × ST) :=
  match gfX10_within x S p1 6 with
    | none => none
    | some (r3, S4) => (if r3 = 0 then (bfX7_addGoer_1_26 x S4) else (match gfX10_within x S4 p2 20 with
    | none => none
    | some (r8, S9) => (if r8 = 0 then (bfX7_addGoer_1_26 x S9) else (match gfX10_within x S9 p3 4 with
    | none => none
    | some (r13, S14) => (if ¬ r13 = 0 then (if (S14.1 1 6) < 5 then (bif inb (S14.1 1 6) 5 then (bif inb (S14.1 1 6) 5 then (bif inb (S14.1 1 6) 5 then (bif inb (S14.1 1 6) 5 then (some ((S14.1 1 6), ((u2 S14.1 1 6 ((S14.1 1 6) + 1)), (u2 (u2 (u2 (u2 S14.2.1 7 ((S14.1 1 6).toNatClampNeg) p1) 8 ((S14.1 1 6).toNatClampNeg) p2) 9 ((S14.1 1 6).toNatClampNeg) p3) 10 ((S14.1 1 6).toNatClampNeg) 0), S14.2.2.1, S14.2.2.2))) else none) else none) else none) else none) else (some ((-5), S14))) else (bfX7_addGoer_1_26 x S14))))))
def gfX7_addGoer_1 (x : XT) (S : ST) (p1 : Int32) (p2 : Int32) (p3 : Int32) : Option (Int32 × ST) := bfX7_addGoer_1_0 x S p1 p2 p3
def bfX10_goer_0_0 (x : XT)  (S : ST) (p1 : Int32) (p2 : Int32) (p3 : Int32) : Option (Int32 × ST) :=
  match gfX7_addGoer_1 x S p1 p2 p3 with
    | none => none
    | some (r3, S4) => (match gfX10_toldAnew_0 x S4 r3 with
    | none => none
    | some (r7, S8) => (some (r7, S8)))
def gfX10_goer_0 (x : XT) (S : ST) (p1 : Int32) (p2 : Int32) (p3 : Int32) : Option (Int32 × ST) := bfX10_goer_0_0 x S p1 p2 p3
def bfX7_hasGoer_1_17 (x : XT)  (S : ST) (t0 : Int32) : Option (Int32 × ST) :=
  bif bbz t0 then (some (t0, S)) else none
def bfX7_hasGoer_1_16 (x : XT)  (S : ST)  : Option (Int32 × ST) :=
  bfX7_hasGoer_1_17 x S 0
def bfX7_hasGoer_1_0 (x : XT)  (S : ST) (p1 : Int32) : Option (Int32 × ST) :=
  if p1 < 0 then (bfX7_hasGoer_1_16 x S) else (if (S.1 1 6) ≤ p1 then (bfX7_hasGoer_1_16 x S) else (bfX7_hasGoer_1_17 x S 1))
def gfX7_hasGoer_1 (x : XT) (S : ST) (p1 : Int32) : Option (Int32 × ST) := bfX7_hasGoer_1_0 x S p1
def bfX0_regardUnknown_20_1_0 (x : XT)  (S : ST) (p2 : Int32) (p3 : Int32) (p4 : Int32) : Option (Unit × ST) :=
  some ((), (S.1, (u2 (u2 (u2 (u2 (u2 (u2 (u2 (u2 S.2.1 21 0 p2) 21 1 p3) 21 2 p4) 21 3 0) 21 4 (-1)) 21 5 (-1)) 21 6 (S.2.1 14 0)) 21 7 (S.2.1 14 2)), S.2.2.1, S.2.2.2))
def gfX0_regardUnknown_20_1 (x : XT) (S : ST) (p2 : Int32) (p3 : Int32) (p4 : Int32) : Option (Unit × ST) := bfX0_regardUnknown_20_1_0 x S p2 p3 p4
def bfX0_regard_20_1_0 (x : XT)  (S : ST) (p2 : Int32) (p3 : Int32) (p4 : Int32) : Option (Unit × ST) :=
  bif inb p3 10 then (bif inb p3 10 then (match gfX0_regardUnknown_20_1 x S (S.2.1 4 p3.toNatClampNeg) (S.2.1 5 p3.toNatClampNeg) p4 with
    | none => none
    | some (r5, S6) => (bif inb p2 5 then (some ((), (S6.1, (u2 (u2 (u2 S6.2.1 21 3 (S6.2.1 9 p2.toNatClampNeg)) 21 4 p3) 21 5 p2), S6.2.2.1, S6.2.2.2))) else none)) else none) else none
def gfX0_regard_20_1 (x : XT) (S : ST) (p2 : Int32) (p3 : Int32) (p4 : Int32) : Option (Unit × ST) := bfX0_regard_20_1_0 x S p2 p3 p4
def bfX9_join_199 (x : XT)  (S : ST) (t0 : Int32) : Option (Int32 × ST) :=
  some (t0, S)
def bfX9_join_191 (x : XT)  (S : ST)  : Option (Int32 × ST) :=
  bfX9_join_199 x S (-2000000000)
def bfX9_join_173 (x : XT)  (S : ST) (v5 : Int64) : Option (Int32 × ST) :=
  if (lg_cmp v5 (-1000000000)) < 0 then (bfX9_join_191 x S) else (if (lg_cmp v5 1000000000) ≤ 0 then (bfX9_join_199 x S v5.toInt32) else (bfX9_join_191 x S))
def bfX9_join_139 (x : XT)  (S : ST) (t0 : Int64) : Option (Int32 × ST) :=
  bfX9_join_173 x S t0
def bfX9_join_155 (x : XT)  (S : ST) (t0 : Int64) : Option (Int32 × ST) :=
  bfX9_join_173 x S t0
def bfX9_join_171 (x : XT)  (S : ST) (t0 : Int64) : Option (Int32 × ST) :=
  bfX9_join_173 x S t0
def bfX9_join_21 (x : XT)  (S : ST) (v0 : Int32) (v1 : Int64) (v3 : Int64) : Option (Int32 × ST) :=
  if v0 = 37 then (bif nzl v3 then (bfX9_join_173 x S (v1 - v1 / v3 * v3)) else none) else (if v0 = 42 then (bfX9_join_173 x S (v1 * v3)) else (if v0 = 43 then (bfX9_join_173 x S (v1 + v3)) else (if v0 = 45 then (bfX9_join_173 x S (v1 - v3)) else (if v0 = 47 then (bif nzl v3 then (bfX9_join_173 x S (v1 / v3)) else none) else (if v0 = 60 then (if 0 ≤ (lg_cmp v1 v3) then (bfX9_join_139 x S 0) else (bfX9_join_139 x S 1)) else (if v0 = 62 then (if (lg_cmp v1 v3) ≤ 0 then (bfX9_join_155 x S 0) else (bfX9_join_155 x S 1)) else (if ¬ (lg_cmp v1 v3) = 0 then (bfX9_join_171 x S 0) else (bfX9_join_171 x S 1))))))))
def bfX9_join_12 (x : XT)  (S : ST) (v0 : Int32) (v1 : Int64) (v3 : Int64) : Option (Int32 × ST) :=
  if ¬ (lg_cmp v3 0) = 0 then (bfX9_join_21 x S v0 v1 v3) else (some ((-2000000000), S))
def bfX9_join_0 (x : XT)  (S : ST) (p0 : Int32) (p1 : Int64) (p3 : Int64) : Option (Int32 × ST) :=
  if p0 = 47 then (bfX9_join_12 x S p0 p1 p3) else (if ¬ p0 = 37 then (bfX9_join_21 x S p0 p1 p3) else (bfX9_join_12 x S p0 p1 p3))
def gfX9_join (x : XT) (S : ST) (p0 : Int32) (p1 : Int64) (p3 : Int64) : Option (Int32 × ST) := bfX9_join_0 x S p0 p1 p3
def bfX9_reckon_T_21_22_298 (x : XT)  (S : ST) (t0 : Int32) : Option (Int32 × ST) :=
  some (t0, S)
def bfX9_reckon_T_21_22_111 (x : XT)  (S : ST)  : Option (Int32 × ST) :=
  some ((-2000000000), S)
def bfX9_reckon_T_21_22_278 (x : XT) (k36 : ST → Nat → Int32 → Int32 → Int32 → Option (Int32 × ST)) (S : ST) (v0 : Nat) (v5 : Int32) (v6 : Int32) (v7 : Int32) : Option (Int32 × ST) :=
  bif tx x v0 then (k36 S v0 v5 v6 (v7 + 1)) else none
def bfX9_reckon_T_21_22_135 (x : XT) (k36 : ST → Nat → Int32 → Int32 → Int32 → Option (Int32 × ST)) (S : ST) (v0 : Nat) (v5 : Int32) (v6 : Int32) (v7 : Int32) (t1 : Int32) (t2 : Int32) : Option (Int32 × ST) :=
  bif tx x v0 then (bif inb t1 50 then (bfX9_reckon_T_21_22_278 x k36 (S.1, (u2 S.2.1 22 t1.toNatClampNeg t2), S.2.2.1, S.2.2.2) v0 v5 v6 v7) else none) else none
def bfX9_reckon_T_21_22_114 (x : XT) (k36 : ST → Nat → Int32 → Int32 → Int32 → Option (Int32 × ST)) (S : ST) (v0 : Nat) (v5 : Int32) (v6 : Int32) (v7 : Int32) (v8 : Int32) (v9 : Int32) : Option (Int32 × ST) :=
  bif tx x v0 then (if ¬ v8 = 256 then (bif inb v9 8 then (bfX9_reckon_T_21_22_135 x k36 S v0 v5 v6 v7 v6 (S.2.1 21 v9.toNatClampNeg)) else none) else (bfX9_reckon_T_21_22_135 x k36 S v0 v5 v6 v7 v6 v9)) else none
def bfX9_reckon_T_21_22_85 (x : XT) (k36 : ST → Nat → Int32 → Int32 → Int32 → Option (Int32 × ST)) (S : ST) (v0 : Nat) (v5 : Int32) (v6 : Int32) (v7 : Int32) (v8 : Int32) (v9 : Int32) : Option (Int32 × ST) :=
  bif tx x v0 then (if 50 ≤ (v6 + 1) then (bfX9_reckon_T_21_22_111 x S) else (if v9 < 8 then (bfX9_reckon_T_21_22_114 x k36 S v0 v5 (v6 + 1) v7 v8 v9) else (if ¬ v8 = 259 then (bfX9_reckon_T_21_22_114 x k36 S v0 v5 (v6 + 1) v7 v8 v9) else (bfX9_reckon_T_21_22_111 x S)))) else none
def bfX9_reckon_T_21_22_204 (x : XT) (k36 : ST → Nat → Int32 → Int32 → Int32 → Option (Int32 × ST)) (S : ST) (v0 : Nat) (v5 : Int32) (v6 : Int32) (v7 : Int32) (v9 : Int32) (t0 : Int32) (t1 : Int32) : Option (Int32 × ST) :=
  bif tx x v0 then (if ¬ t0 = t1 then (bfX9_reckon_T_21_22_278 x k36 S v0 v5 (v6 + (-1)) v7) else (bfX9_reckon_T_21_22_278 x k36 S v0 v5 v6 (if v7 < (v9 - 1) then (v9 - 1) else v7))) else none
def bfX9_reckon_T_21_22_186 (x : XT) (k36 : ST → Nat → Int32 → Int32 → Int32 → Option (Int32 × ST)) (S : ST) (v0 : Nat) (v5 : Int32) (v6 : Int32) (v7 : Int32) (v8 : Int32) (v9 : Int32) : Option (Int32 × ST) :=
  bif tx x v0 then (bif inb v6 50 then (if ¬ v8 = 271 then (bfX9_reckon_T_21_22_204 x k36 S v0 v5 v6 v7 v9 (S.2.1 22 v6.toNatClampNeg) 0) else (bfX9_reckon_T_21_22_204 x k36 S v0 v5 v6 v7 v9 (S.2.1 22 v6.toNatClampNeg) 1)) else none) else none
def bfX9_reckon_T_21_22_259 (x : XT) (k36 : ST → Nat → Int32 → Int32 → Int32 → Option (Int32 × ST)) (S : ST) (v0 : Nat) (v5 : Int32) (v6 : Int32) (v7 : Int32) (t0 : Int32) : Option (Int32 × ST) :=
  bif tx x v0 then (if ¬ t0 = (-2000000000) then (bif inb v6 50 then (bfX9_reckon_T_21_22_278 x k36 (S.1, (u2 S.2.1 22 v6.toNatClampNeg t0), S.2.2.1, S.2.2.2) v0 v5 v6 v7) else none) else (some ((-2000000000), S))) else none
def bfX9_reckon_T_21_22_36 (x : XT) (k36 : ST → Nat → Int32 → Int32 → Int32 → Option (Int32 × ST)) (S : ST) (v0 : Nat) (v5 : Int32) (v6 : Int32) (v7 : Int32) : Option (Int32 × ST) :=
  bif tx x v0 then (if v5 ≤ v7 then (if ¬ v6 = 0 then (bfX9_reckon_T_21_22_298 x S (-2000000000)) else (bfX9_reckon_T_21_22_298 x S (S.2.1 22 0))) else (bif inb v7 (mL x (v0 + 4)) then (bif inb v7 (mL x (v0 + 4)) then (if ((S.2.1 (v0 + 4) v7.toNatClampNeg) - (S.2.1 (v0 + 4) v7.toNatClampNeg) / 512 * 512) = 256 then (bfX9_reckon_T_21_22_85 x k36 S v0 v5 v6 v7 ((S.2.1 (v0 + 4) v7.toNatClampNeg) - (S.2.1 (v0 + 4) v7.toNatClampNeg) / 512 * 512) ((S.2.1 (v0 + 4) v7.toNatClampNeg) / 512)) else (if ¬ ((S.2.1 (v0 + 4) v7.toNatClampNeg) - (S.2.1 (v0 + 4) v7.toNatClampNeg) / 512 * 512) = 259 then (if 0 ≤ v6 then (if ¬ ((S.2.1 (v0 + 4) v7.toNatClampNeg) - (S.2.1 (v0 + 4) v7.toNatClampNeg) / 512 * 512) = 273 then (if ((S.2.1 (v0 + 4) v7.toNatClampNeg) - (S.2.1 (v0 + 4) v7.toNatClampNeg) / 512 * 512) = 271 then (bfX9_reckon_T_21_22_186 x k36 S v0 v5 v6 v7 ((S.2.1 (v0 + 4) v7.toNatClampNeg) - (S.2.1 (v0 + 4) v7.toNatClampNeg) / 512 * 512) ((S.2.1 (v0 + 4) v7.toNatClampNeg) / 512)) else (if ¬ ((S.2.1 (v0 + 4) v7.toNatClampNeg) - (S.2.1 (v0 + 4) v7.toNatClampNeg) / 512 * 512) = 272 then (if 0 ≤ (v6 + (-1)) then (bif inb (v6 + (-1)) 50 then (bif inb ((v6 + (-1)) + 1) 50 then (match gfX9_join x S ((S.2.1 (v0 + 4) v7.toNatClampNeg) - (S.2.1 (v0 + 4) v7.toNatClampNeg) / 512 * 512) ((S.2.1 22 ((v6 + (-1)).toNatClampNeg)).toInt64) ((S.2.1 22 (((v6 + (-1)) + 1).toNatClampNeg)).toInt64) with
    | none => none
    | some (r17, S18) => (bfX9_reckon_T_21_22_259 x k36 S18 v0 v5 (v6 + (-1)) v7 r17)) else none) else none) else (bfX9_reckon_T_21_22_259 x k36 S v0 v5 (v6 + (-1)) v7 (-2000000000))) else (bfX9_reckon_T_21_22_186 x k36 S v0 v5 v6 v7 ((S.2.1 (v0 + 4) v7.toNatClampNeg) - (S.2.1 (v0 + 4) v7.toNatClampNeg) / 512 * 512) ((S.2.1 (v0 + 4) v7.toNatClampNeg) / 512)))) else (bif inb v6 50 then (bif inb v6 50 then (bfX9_reckon_T_21_22_278 x k36 (S.1, (u2 S.2.1 22 v6.toNatClampNeg (1 - (S.2.1 22 v6.toNatClampNeg))), S.2.2.1, S.2.2.2) v0 v5 v6 v7) else none) else none)) else (some ((-2000000000), S))) else (bfX9_reckon_T_21_22_85 x k36 S v0 v5 v6 v7 ((S.2.1 (v0 + 4) v7.toNatClampNeg) - (S.2.1 (v0 + 4) v7.toNatClampNeg) / 512 * 512) ((S.2.1 (v0 + 4) v7.toNatClampNeg) / 512)))) else none) else none)) else none
def lfX9_reckon_T_21_22_36 (x : XT)  : Nat → ST → Nat → Int32 → Int32 → Int32 → Option (Int32 × ST)
  | 0, _, _, _, _, _ => none
  | n + 1, S, v0, v5, v6, v7 => bfX9_reckon_T_21_22_36 x (lfX9_reckon_T_21_22_36 x  n) S v0 v5 v6 v7
def bfX9_reckon_T_21_22_0 (x : XT)  (S : ST) (p0 : Nat) (p1 : Int32) (p2 : Int32) : Option (Int32 × ST) :=
  bif tx x p0 then (bif inb (((4 * p1) + p2) + 1) (mL x (p0 + 3)) then (bif inb ((4 * p1) + p2) (mL x (p0 + 3)) then (lfX9_reckon_T_21_22_36 x  20000 S p0 (if (S.1 p0 1) < (S.2.1 (p0 + 3) ((((4 * p1) + p2) + 1).toNatClampNeg)) then (S.1 p0 1) else (S.2.1 (p0 + 3) ((((4 * p1) + p2) + 1).toNatClampNeg))) (-1) (S.2.1 (p0 + 3) (((4 * p1) + p2).toNatClampNeg))) else none) else none) else none
def gfX9_reckon_T_21_22 (x : XT) (S : ST) (p0 : Nat) (p1 : Int32) (p2 : Int32) : Option (Int32 × ST) := bfX9_reckon_T_21_22_0 x S p0 p1 p2
def bfX9_has_T_30 (x : XT)  (S : ST) (t0 : Int32) : Option (Int32 × ST) :=
  bif bbz t0 then (some (t0, S)) else none
def bfX9_has_T_0 (x : XT)  (S : ST) (p0 : Nat) (p1 : Int32) (p2 : Int32) : Option (Int32 × ST) :=
  bif tx x p0 then (bif inb ((4 * p1) + p2) (mL x (p0 + 3)) then (bif inb (((4 * p1) + p2) + 1) (mL x (p0 + 3)) then (if (S.2.1 (p0 + 3) ((((4 * p1) + p2) + 1).toNatClampNeg)) ≤ (S.2.1 (p0 + 3) (((4 * p1) + p2).toNatClampNeg)) then (bfX9_has_T_30 x S 0) else (bfX9_has_T_30 x S 1)) else none) else none) else none
def gfX9_has_T (x : XT) (S : ST) (p0 : Nat) (p1 : Int32) (p2 : Int32) : Option (Int32 × ST) := bfX9_has_T_0 x S p0 p1 p2
def bfX7_hasLaw_1_17 (x : XT)  (S : ST) (t0 : Int32) : Option (Int32 × ST) :=
  bif bbz t0 then (some (t0, S)) else none
def bfX7_hasLaw_1_16 (x : XT)  (S : ST)  : Option (Int32 × ST) :=
  bfX7_hasLaw_1_17 x S 0
def bfX7_hasLaw_1_0 (x : XT)  (S : ST) (p1 : Int32) : Option (Int32 × ST) :=
  if p1 < 0 then (bfX7_hasLaw_1_16 x S) else (if (S.1 1 16) ≤ p1 then (bfX7_hasLaw_1_16 x S) else (bfX7_hasLaw_1_17 x S 1))
def gfX7_hasLaw_1 (x : XT) (S : ST) (p1 : Int32) : Option (Int32 × ST) := bfX7_hasLaw_1_0 x S p1
def bfX7_inForce_1_24 (x : XT)  (S : ST) (t0 : Option Nat) : Option (Option Nat × ST) :=
  some (t0, S)
def bfX7_inForce_1_0 (x : XT)  (S : ST)  : Option (Option Nat × ST) :=
  match gfX7_hasLaw_1 x S (S.1 1 18) with
    | none => none
    | some (r3, S4) => (if r3 = 0 then (bfX7_inForce_1_24 x S4 none) else (bif inb (S4.1 1 18) 6 then (bfX7_inForce_1_24 x S4 (S4.2.2.2 15 ((S4.1 1 18).toNatClampNeg))) else none))
def gfX7_inForce_1 (x : XT) (S : ST)  : Option (Option Nat × ST) := bfX7_inForce_1_0 x S 
def bfX0_told_20_1_171 (x : XT)  (S : ST) (t0 : Int32) : Option (Int32 × ST) :=
  some (t0, S)
def bfX0_told_20_1_192 (x : XT)  (S : ST) (t0 : Int32) : Option (Int32 × ST) :=
  some (t0, S)
def bfX0_told_20_1_204 (x : XT)  (S : ST) (t0 : Int32) : Option (Int32 × ST) :=
  some (t0, S)
def bfX0_told_20_1_111 (x : XT)  (S : ST) (v2 : Int32) (v3 : Int32) : Option (Int32 × ST) :=
  if v2 = 260 then (if ¬ v3 = (-2000000000) then (bfX0_told_20_1_171 x S (if 0 < (if 19 < v3 then 19 else v3) then (if 19 < v3 then 19 else v3) else 0)) else (bfX0_told_20_1_171 x S (if ((S.2.1 21 2) - 1) < 0 then 0 else ((S.2.1 21 2) - 1)))) else (if v2 = 261 then (if ¬ v3 = (-2000000000) then (bfX0_told_20_1_192 x S (if 0 < (if 9 < v3 then 9 else v3) then (if 9 < v3 then 9 else v3) else 0)) else (bfX0_told_20_1_192 x S 1)) else (if ¬ v3 = (-2000000000) then (bfX0_told_20_1_204 x S 1) else (bfX0_told_20_1_204 x S 0)))
def bfX0_told_20_1_105 (x : XT) (k23 : ST → Int32 → Int32 → Nat → Int32 → Option (Int32 × ST)) (S : ST) (v2 : Int32) (v3 : Int32) (v4 : Nat) (v5 : Int32) : Option (Int32 × ST) :=
  bif tx x v4 then (k23 S v2 v3 v4 (v5 + (-1))) else none
def bfX0_told_20_1_104 (x : XT) (k23 : ST → Int32 → Int32 → Nat → Int32 → Option (Int32 × ST)) (S : ST) (v2 : Int32) (v4 : Nat) (v5 : Int32) (t0 : Int32) : Option (Int32 × ST) :=
  bif tx x v4 then (bfX0_told_20_1_105 x k23 S v2 t0 v4 v5) else none
def bfX0_told_20_1_77 (x : XT) (k23 : ST → Int32 → Int32 → Nat → Int32 → Option (Int32 × ST)) (S : ST) (v2 : Int32) (v4 : Nat) (v5 : Int32) : Option (Int32 × ST) :=
  bif tx x v4 then (if ¬ v2 = 262 then (match gfX9_reckon_T_21_22 x S v4 v5 0 with
    | none => none
    | some (r5, S6) => (bfX0_told_20_1_104 x k23 S6 v2 v4 v5 r5)) else (bfX0_told_20_1_104 x k23 S v2 v4 v5 1)) else none
def bfX0_told_20_1_23 (x : XT) (k23 : ST → Int32 → Int32 → Nat → Int32 → Option (Int32 × ST)) (S : ST) (v2 : Int32) (v3 : Int32) (v4 : Nat) (v5 : Int32) : Option (Int32 × ST) :=
  bif tx x v4 then (if v5 < 0 then (bfX0_told_20_1_111 x S v2 v3) else (if ¬ v3 = (-2000000000) then (bfX0_told_20_1_111 x S v2 v3) else (bif inb v5 (mL x (v4 + 1)) then (if ¬ (S.2.1 (v4 + 1) v5.toNatClampNeg) = v2 then (bfX0_told_20_1_105 x k23 S v2 v3 v4 v5) else (match gfX9_has_T x S v4 v5 2 with
    | none => none
    | some (r8, S9) => (if r8 = 0 then (bfX0_told_20_1_77 x k23 S9 v2 v4 v5) else (match gfX9_reckon_T_21_22 x S9 v4 v5 2 with
    | none => none
    | some (r13, S14) => (if ¬ r13 = 1 then (bfX0_told_20_1_105 x k23 S14 v2 v3 v4 v5) else (bfX0_told_20_1_77 x k23 S14 v2 v4 v5)))))) else none))) else none
def lfX0_told_20_1_23 (x : XT)  : Nat → ST → Int32 → Int32 → Nat → Int32 → Option (Int32 × ST)
  | 0, _, _, _, _, _ => none
  | n + 1, S, v2, v3, v4, v5 => bfX0_told_20_1_23 x (lfX0_told_20_1_23 x  n) S v2 v3 v4 v5
def bfX0_told_20_1_0 (x : XT)  (S : ST) (p2 : Int32) : Option (Int32 × ST) :=
  match gfX7_inForce_1 x S with
    | none => none
    | some (r3, S4) => (match r3 with
    | none => (bfX0_told_20_1_111 x S4 p2 (-2000000000))
    | some t5 => bif tx x t5 then (lfX0_told_20_1_23 x  20000 S4 p2 (-2000000000) t5 ((S4.1 t5 0) - 1)) else none)
def gfX0_told_20_1 (x : XT) (S : ST) (p2 : Int32) : Option (Int32 × ST) := bfX0_told_20_1_0 x S p2
def bfX0_can_20_1_24 (x : XT)  (S : ST)  : Option (Int32 × ST) :=
  some (0, S)
def bfX0_can_20_1_55 (x : XT)  (S : ST) (t0 : Int32) : Option (Int32 × ST) :=
  bif bbz t0 then (some (t0, S)) else none
def bfX0_can_20_1_0 (x : XT)  (S : ST) (p2 : Int32) (p3 : Int32) : Option (Int32 × ST) :=
  bif inb p2 5 then (bif inb p3 10 then (if ¬ (S.2.1 7 p2.toNatClampNeg) = (S.2.1 2 p3.toNatClampNeg) then (bfX0_can_20_1_24 x S) else (bif inb p3 10 then (if ¬ (S.2.1 6 p3.toNatClampNeg) = 0 then (bif inb p2 5 then (match gfX0_regard_20_1 x S p2 p3 (S.2.1 8 p2.toNatClampNeg) with
    | none => none
    | some (r9, S10) => (match gfX0_told_20_1 x S10 262 with
    | none => none
    | some (r13, S14) => (if ¬ r13 = 0 then (bfX0_can_20_1_55 x S14 0) else (bfX0_can_20_1_55 x S14 1)))) else none) else (bfX0_can_20_1_24 x S)) else none)) else none) else none
def gfX0_can_20_1 (x : XT) (S : ST) (p2 : Int32) (p3 : Int32) : Option (Int32 × ST) := bfX0_can_20_1_0 x S p2 p3
def bfX0_canBits_20_1_32 (x : XT) (k5 : ST → Int32 → Int32 → Int32 → Option (Int32 × ST)) (S : ST) (v2 : Int32) (v3 : Int32) (v4 : Int32) : Option (Int32 × ST) :=
  k5 S v2 v3 (v4 + 1)
def bfX0_canBits_20_1_5 (x : XT) (k5 : ST → Int32 → Int32 → Int32 → Option (Int32 × ST)) (S : ST) (v2 : Int32) (v3 : Int32) (v4 : Int32) : Option (Int32 × ST) :=
  if (S.1 1 0) ≤ v4 then (some (v3, S)) else (match gfX0_can_20_1 x S v2 v4 with
    | none => none
    | some (r4, S5) => (if r4 = 0 then (bfX0_canBits_20_1_32 x k5 S5 v2 v3 v4) else (bfX0_canBits_20_1_32 x k5 S5 v2 (v3 ||| (1 <<< (v4 &&& 31))) v4)))
def lfX0_canBits_20_1_5 (x : XT)  : Nat → ST → Int32 → Int32 → Int32 → Option (Int32 × ST)
  | 0, _, _, _, _ => none
  | n + 1, S, v2, v3, v4 => bfX0_canBits_20_1_5 x (lfX0_canBits_20_1_5 x  n) S v2 v3 v4
def bfX0_canBits_20_1_0 (x : XT)  (S : ST) (p2 : Int32) : Option (Int32 × ST) :=
  lfX0_canBits_20_1_5 x  20000 S p2 0 0
def gfX0_canBits_20_1 (x : XT) (S : ST) (p2 : Int32) : Option (Int32 × ST) := bfX0_canBits_20_1_0 x S p2
def bfX10_of_0_0 (x : XT)  (S : ST) (p1 : Int32) (p2 : Int32) : Option (Int32 × ST) :=
  match gfX7_hasGoer_1 x S p1 with
    | none => none
    | some (r3, S4) => (if ¬ r3 = 0 then (if p2 = 0 then (bif inb p1 5 then (some ((S4.2.1 7 p1.toNatClampNeg), S4)) else none) else (if p2 = 1 then (bif inb p1 5 then (some ((S4.2.1 8 p1.toNatClampNeg), S4)) else none) else (if p2 = 2 then (bif inb p1 5 then (some ((S4.2.1 9 p1.toNatClampNeg), S4)) else none) else (if p2 = 3 then (bif inb p1 5 then (some ((S4.2.1 10 p1.toNatClampNeg), S4)) else none) else (if p2 = 4 then (match gfX0_canBits_20_1 x S4 p1 with
    | none => none
    | some (r17, S18) => (some (r17, S18))) else (some ((-1), S4))))))) else (some ((-1), S4)))
def gfX10_of_0 (x : XT) (S : ST) (p1 : Int32) (p2 : Int32) : Option (Int32 × ST) := bfX10_of_0_0 x S p1 p2
def bfX10_asks_0_31 (x : XT)  (S : ST)  : Option (Int32 × ST) :=
  some ((-1), S)
def bfX10_asks_0_0 (x : XT)  (S : ST) (p1 : Int32) (p2 : Int32) (p3 : Int32) (p4 : Int32) : Option (Int32 × ST) :=
  match gfX7_hasGoer_1 x S p1 with
    | none => none
    | some (r3, S4) => (if r3 = 0 then (bfX10_asks_0_31 x S4) else (match gfX7_hasGate_1 x S4 p2 with
    | none => none
    | some (r8, S9) => (if r8 = 0 then (bfX10_asks_0_31 x S9) else (match gfX10_within x S9 p3 20 with
    | none => none
    | some (r13, S14) => (if ¬ r13 = 0 then (match gfX0_regard_20_1 x S14 p1 p2 p3 with
    | none => none
    | some (r18, S19) => (if p4 = 0 then (match gfX0_told_20_1 x S19 260 with
    | none => none
    | some (r23, S24) => (some (r23, S24))) else (if p4 = 1 then (match gfX0_told_20_1 x S19 261 with
    | none => none
    | some (r28, S29) => (some (r28, S29))) else (if p4 = 2 then (match gfX0_told_20_1 x S19 262 with
    | none => none
    | some (r33, S34) => (some (r33, S34))) else (some ((-1), S19)))))) else (bfX10_asks_0_31 x S14))))))
def gfX10_asks_0 (x : XT) (S : ST) (p1 : Int32) (p2 : Int32) (p3 : Int32) (p4 : Int32) : Option (Int32 × ST) := bfX10_asks_0_0 x S p1 p2 p3 p4
def bfX7_changeTerm_1_42 (x : XT)  (S : ST)  : Option (Int32 × ST) :=
  some ((-1), S)
def bfX7_changeTerm_1_32 (x : XT)  (S : ST) (v1 : Int32) (v2 : Int32) (t0 : Int32) : Option (Int32 × ST) :=
  if v2 < 0 then (bfX7_changeTerm_1_42 x S) else (if v2 ≤ t0 then (bif inb v1 3 then (bif inb v1 3 then (some ((S.2.1 14 v1.toNatClampNeg), (S.1, (u2 S.2.1 14 v1.toNatClampNeg v2), S.2.2.1, S.2.2.2))) else none) else none) else (bfX7_changeTerm_1_42 x S))
def bfX7_changeTerm_1_0 (x : XT)  (S : ST) (p1 : Int32) (p2 : Int32) : Option (Int32 × ST) :=
  match gfX10_within x S p1 3 with
    | none => none
    | some (r3, S4) => (if ¬ r3 = 0 then (if ¬ p1 = 0 then (if ¬ p1 = 1 then (bfX7_changeTerm_1_32 x S4 p1 p2 9) else (bfX7_changeTerm_1_32 x S4 p1 p2 10)) else (bfX7_changeTerm_1_32 x S4 p1 p2 999)) else (some ((-1), S4)))
def gfX7_changeTerm_1 (x : XT) (S : ST) (p1 : Int32) (p2 : Int32) : Option (Int32 × ST) := bfX7_changeTerm_1_0 x S p1 p2
def bfX10_terms_0_0 (x : XT)  (S : ST) (p1 : Int32) (p2 : Int32) : Option (Int32 × ST) :=
  match gfX7_changeTerm_1 x S p1 p2 with
    | none => none
    | some (r3, S4) => (match gfX10_toldAnew_0 x S4 r3 with
    | none => none
    | some (r7, S8) => (some (r7, S8)))
def gfX10_terms_0 (x : XT) (S : ST) (p1 : Int32) (p2 : Int32) : Option (Int32 × ST) := bfX10_terms_0_0 x S p1 p2
def bfX8_takeFour_18_46 (x : XT)  (S : ST)  : Option (Unit × ST) :=
  some ((), S)
def bfX8_takeFour_18_3 (x : XT) (k3 : ST → Int32 → Int32 → Option (Unit × ST)) (S : ST) (v1 : Int32) (v2 : Int32) : Option (Unit × ST) :=
  if v2 < 0 then (bfX8_takeFour_18_46 x S) else (if 400 ≤ (S.1 18 1) then (bfX8_takeFour_18_46 x S) else (bif inb (S.1 18 1) 400 then (k3 ((u2 S.1 18 1 ((S.1 18 1) + 1)), (u2 S.2.1 19 ((S.1 18 1).toNatClampNeg) (((v1.toUInt32 >>> (v2.toUInt32 &&& Int32.toUInt32 31)).toInt32) &&& 255)), S.2.2.1, S.2.2.2) v1 (v2 + (-8))) else none))
def lfX8_takeFour_18_3 (x : XT)  : Nat → ST → Int32 → Int32 → Option (Unit × ST)
  | 0, _, _, _ => none
  | n + 1, S, v1, v2 => bfX8_takeFour_18_3 x (lfX8_takeFour_18_3 x  n) S v1 v2
def bfX8_takeFour_18_0 (x : XT)  (S : ST) (p1 : Int32) : Option (Unit × ST) :=
  lfX8_takeFour_18_3 x  20000 S p1 24
def gfX8_takeFour_18 (x : XT) (S : ST) (p1 : Int32) : Option (Unit × ST) := bfX8_takeFour_18_0 x S p1
def bfX8_take_18_0 (x : XT)  (S : ST) (p1 : Int32) (p2 : Int32) (p3 : Int32) (p4 : Int32) (p5 : Int32) : Option (Int32 × ST) :=
  if (S.1 18 1) ≤ 380 then (match gfX8_takeFour_18 x S p1 with
    | none => none
    | some (r4, S5) => (match gfX8_takeFour_18 x S5 p2 with
    | none => none
    | some (r8, S9) => (match gfX8_takeFour_18 x S9 p3 with
    | none => none
    | some (r12, S13) => (match gfX8_takeFour_18 x S13 p4 with
    | none => none
    | some (r16, S17) => (match gfX8_takeFour_18 x S17 p5 with
    | none => none
    | some (r20, S21) => (some ((S21.1 18 1), S21))))))) else (some ((-1), S))
def gfX8_take_18 (x : XT) (S : ST) (p1 : Int32) (p2 : Int32) (p3 : Int32) (p4 : Int32) (p5 : Int32) : Option (Int32 × ST) := bfX8_take_18_0 x S p1 p2 p3 p4 p5
def bfX10_feed_0_0 (x : XT)  (S : ST) (p1 : Int32) (p2 : Int32) (p3 : Int32) (p4 : Int32) (p5 : Int32) : Option (Int32 × ST) :=
  match gfX8_take_18 x S p1 p2 p3 p4 p5 with
    | none => none
    | some (r3, S4) => (some (r3, S4))
def gfX10_feed_0 (x : XT) (S : ST) (p1 : Int32) (p2 : Int32) (p3 : Int32) (p4 : Int32) (p5 : Int32) : Option (Int32 × ST) := bfX10_feed_0_0 x S p1 p2 p3 p4 p5
def bfX8_shorten_18_12 (x : XT)  (S : ST)  : Option (Int32 × ST) :=
  some ((-1), S)
def bfX8_shorten_18_0 (x : XT)  (S : ST) (p1 : Int32) : Option (Int32 × ST) :=
  if p1 < 0 then (bfX8_shorten_18_12 x S) else (if p1 ≤ (S.1 18 1) then (some (p1, ((u2 S.1 18 1 p1), S.2.1, S.2.2.1, S.2.2.2))) else (bfX8_shorten_18_12 x S))
def gfX8_shorten_18 (x : XT) (S : ST) (p1 : Int32) : Option (Int32 × ST) := bfX8_shorten_18_0 x S p1
def bfX10_end_0_0 (x : XT)  (S : ST) (p1 : Int32) : Option (Int32 × ST) :=
  match gfX8_shorten_18 x S p1 with
    | none => none
    | some (r3, S4) => (some (r3, S4))
def gfX10_end_0 (x : XT) (S : ST) (p1 : Int32) : Option (Int32 × ST) := bfX10_end_0_0 x S p1
def bfX8_clear_18_0 (x : XT)  (S : ST)  : Option (Unit × ST) :=
  some ((), ((u2 S.1 18 1 0), S.2.1, S.2.2.1, S.2.2.2))
def gfX8_clear_18 (x : XT) (S : ST)  : Option (Unit × ST) := bfX8_clear_18_0 x S 
def bfX8_byteAt_18_22 (x : XT)  (S : ST) (t0 : Int32) : Option (Int32 × ST) :=
  some (t0, S)
def bfX8_byteAt_18_21 (x : XT)  (S : ST)  : Option (Int32 × ST) :=
  bfX8_byteAt_18_22 x S (-1)
def bfX8_byteAt_18_0 (x : XT)  (S : ST) (p1 : Int32) : Option (Int32 × ST) :=
  if p1 < 0 then (bfX8_byteAt_18_21 x S) else (if (S.1 18 1) ≤ p1 then (bfX8_byteAt_18_21 x S) else (bif inb p1 400 then (bfX8_byteAt_18_22 x S (S.2.1 19 p1.toNatClampNeg)) else none))
def gfX8_byteAt_18 (x : XT) (S : ST) (p1 : Int32) : Option (Int32 × ST) := bfX8_byteAt_18_0 x S p1
def bfX10_row_0_101 (x : XT) (k26 : ST → Int32 → Int32 → Option (Int32 × ST)) (S : ST) (v1 : Int32) (v2 : Int32) : Option (Int32 × ST) :=
  k26 S v1 (v2 + 4)
def bfX10_row_0_26 (x : XT) (k26 : ST → Int32 → Int32 → Option (Int32 × ST)) (S : ST) (v1 : Int32) (v2 : Int32) : Option (Int32 × ST) :=
  if (S.1 18 1) ≤ v2 then (match gfX8_clear_18 x S with
    | none => none
    | some (r4, S5) => (match gfX10_toldAnew_0 x S5 v1 with
    | none => none
    | some (r8, S9) => (some (r8, S9)))) else (match gfX8_byteAt_18 x S v2 with
    | none => none
    | some (r12, S13) => (match gfX8_byteAt_18 x S13 (v2 + 1) with
    | none => none
    | some (r16, S17) => (match gfX8_byteAt_18 x S17 (v2 + 2) with
    | none => none
    | some (r20, S21) => (match gfX8_byteAt_18 x S21 (v2 + 3) with
    | none => none
    | some (r24, S25) => (match gfX7_addGate_1 x S25 r12 r16 r20 r24 with
    | none => none
    | some (r28, S29) => (if 0 ≤ r28 then (bfX10_row_0_101 x k26 S29 (v1 + 1) v2) else (bfX10_row_0_101 x k26 ((u2 S29.1 0 15 ((S29.1 0 15) + 1)), S29.2.1, S29.2.2.1, S29.2.2.2) v1 v2)))))))
def lfX10_row_0_26 (x : XT)  : Nat → ST → Int32 → Int32 → Option (Int32 × ST)
  | 0, _, _, _ => none
  | n + 1, S, v1, v2 => bfX10_row_0_26 x (lfX10_row_0_26 x  n) S v1 v2
def bfX10_row_0_0 (x : XT)  (S : ST)  : Option (Int32 × ST) :=
  if ¬ (S.1 18 1) = 0 then (lfX10_row_0_26 x  20000 ((u2 S.1 0 15 0), S.2.1, S.2.2.1, S.2.2.2) 0 0) else (match gfX10_told_0 x S (-6) with
    | none => none
    | some (r4, S5) => (some (r4, S5)))
def gfX10_row_0 (x : XT) (S : ST)  : Option (Int32 × ST) := bfX10_row_0_0 x S 
def bfX10_rust_0_0 (x : XT)  (S : ST)  : Option (Int32 × ST) :=
  some ((S.1 0 15), S)
def gfX10_rust_0 (x : XT) (S : ST)  : Option (Int32 × ST) := bfX10_rust_0_0 x S 
def bfX4_here_24_26 (x : XT)  (S : ST) (t0 : Int32) : Option (Int32 × ST) :=
  some (t0, S)
def bfX4_here_24_0 (x : XT)  (S : ST)  : Option (Int32 × ST) :=
  if (S.1 24 5) ≤ (S.1 24 6) then (bfX4_here_24_26 x S 257) else (bif inb (S.1 24 6) 401 then (bfX4_here_24_26 x S (S.2.1 30 ((S.1 24 6).toNatClampNeg))) else none)
def gfX4_here_24 (x : XT) (S : ST)  : Option (Int32 × ST) := bfX4_here_24_0 x S 
def bfX4_faulty_24_25 (x : XT)  (S : ST) (t1 : Int32) : Option (Int32 × ST) :=
  some (0, ((u2 S.1 24 1 t1), S.2.1, S.2.2.1, S.2.2.2))
def bfX4_faulty_24_0 (x : XT)  (S : ST)  : Option (Int32 × ST) :=
  if (S.1 24 5) ≤ (S.1 24 6) then (bfX4_faulty_24_25 x S (-1)) else (bif inb (S.1 24 6) 401 then (bfX4_faulty_24_25 x S (S.2.1 32 ((S.1 24 6).toNatClampNeg))) else none)
def gfX4_faulty_24 (x : XT) (S : ST)  : Option (Int32 × ST) := bfX4_faulty_24_0 x S 
def bfX9_aim_25_37 (x : XT)  (S : ST)  : Option (Unit × ST) :=
  some ((), S)
def bfX9_aim_25_0 (x : XT)  (S : ST) (p1 : Int32) : Option (Unit × ST) :=
  if p1 < 0 then (bfX9_aim_25_37 x S) else (if (S.1 25 1) ≤ p1 then (bfX9_aim_25_37 x S) else (bif inb p1 400 then (bif inb p1 400 then (bfX9_aim_25_37 x (S.1, (u2 S.2.1 29 p1.toNatClampNeg (((S.2.1 29 p1.toNatClampNeg) - (S.2.1 29 p1.toNatClampNeg) / 512 * 512) + (512 * (S.1 25 1)))), S.2.2.1, S.2.2.2)) else none) else none))
def gfX9_aim_25 (x : XT) (S : ST) (p1 : Int32) : Option (Unit × ST) := bfX9_aim_25_0 x S p1
def bfX9_add_25_0 (x : XT)  (S : ST) (p1 : Int32) (p2 : Int32) : Option (Int32 × ST) :=
  if (S.1 25 1) < 400 then (bif inb (S.1 25 1) 400 then (some ((S.1 25 1), ((u2 S.1 25 1 ((S.1 25 1) + 1)), (u2 S.2.1 29 ((S.1 25 1).toNatClampNeg) (p1 + (512 * p2))), S.2.2.1, S.2.2.2))) else none) else (some ((-1), S))
def gfX9_add_25 (x : XT) (S : ST) (p1 : Int32) (p2 : Int32) : Option (Int32 × ST) := bfX9_add_25_0 x S p1 p2
def bfX4_take_24_0 (x : XT)  (S : ST) (p1 : Int32) : Option (Int32 × ST) :=
  match gfX4_here_24 x S with
    | none => none
    | some (r3, S4) => (if r3 = p1 then (some (1, ((u2 S4.1 24 6 ((S4.1 24 6) + 1)), S4.2.1, S4.2.2.1, S4.2.2.2))) else (match gfX4_faulty_24 x S4 with
    | none => none
    | some (r8, S9) => (bif bbz r8 then (some (r8, S9)) else none)))
def gfX4_take_24 (x : XT) (S : ST) (p1 : Int32) : Option (Int32 × ST) := bfX4_take_24_0 x S p1
def bfX4_lawWord_24_28 (x : XT)  (S : ST) (t0 : Int32) : Option (Int32 × ST) :=
  some (t0, S)
def bfX4_lawWord_24_27 (x : XT)  (S : ST)  : Option (Int32 × ST) :=
  bfX4_lawWord_24_28 x S (-1)
def bfX4_lawWord_24_0 (x : XT)  (S : ST)  : Option (Int32 × ST) :=
  match gfX4_here_24 x S with
    | none => none
    | some (r3, S4) => (if r3 < 274 then (bfX4_lawWord_24_27 x S4) else (if 281 < r3 then (bfX4_lawWord_24_27 x S4) else (bfX4_lawWord_24_28 x S4 (r3 - 274))))
def gfX4_lawWord_24 (x : XT) (S : ST)  : Option (Int32 × ST) := bfX4_lawWord_24_0 x S 
def bfX4_numberedWord_24_48 (x : XT)  (S : ST) (t0 : Int32) : Option (Int32 × ST) :=
  some (t0, S)
def bfX4_numberedWord_24_47 (x : XT)  (S : ST)  : Option (Int32 × ST) :=
  bfX4_numberedWord_24_48 x S (-1)
def bfX4_numberedWord_24_0 (x : XT)  (S : ST) (p1 : Int32) (p2 : Int32) : Option (Int32 × ST) :=
  match gfX4_here_24 x ((u2 S.1 24 6 ((S.1 24 6) + 1)), S.2.1, S.2.2.1, S.2.2.2) with
    | none => none
    | some (r3, S4) => (if ¬ r3 = 256 then (bfX4_numberedWord_24_47 x S4) else (bif inb (S4.1 24 6) 401 then (if p2 ≤ (S4.2.1 31 ((S4.1 24 6).toNatClampNeg)) then (bfX4_numberedWord_24_47 x S4) else (bif inb (S4.1 24 6) 401 then (bfX4_numberedWord_24_48 x S4 (p1 + (S4.2.1 31 ((S4.1 24 6).toNatClampNeg)))) else none)) else none))
def gfX4_numberedWord_24 (x : XT) (S : ST) (p1 : Int32) (p2 : Int32) : Option (Int32 × ST) := bfX4_numberedWord_24_0 x S p1 p2
def bfX4_orderWord_24_0 (x : XT)  (S : ST)  : Option (Int32 × ST) :=
  match gfX4_here_24 x S with
    | none => none
    | some (r3, S4) => (if r3 = 275 then (match gfX4_numberedWord_24 x S4 14 10 with
    | none => none
    | some (r8, S9) => (some (r8, S9))) else (if r3 = 276 then (match gfX4_numberedWord_24 x S4 4 5 with
    | none => none
    | some (r13, S14) => (some (r13, S14))) else (if r3 = 277 then (some ((-1), S4)) else (if r3 = 278 then (some ((-1), S4)) else (if r3 = 279 then (some ((-1), S4)) else (if r3 = 280 then (some (0, S4)) else (if r3 = 281 then (some ((-1), S4)) else (if r3 = 282 then (some (1, S4)) else (if r3 = 283 then (some (2, S4)) else (if r3 = 284 then (some (3, S4)) else (if r3 = 285 then (match gfX4_numberedWord_24 x S4 9 5 with
    | none => none
    | some (r26, S27) => (some (r26, S27))) else (some ((-1), S4)))))))))))))
def gfX4_orderWord_24 (x : XT) (S : ST)  : Option (Int32 × ST) := bfX4_orderWord_24_0 x S 
def bfX4_test_24_44 (x : XT) (rec_X4_test : ST → Int32 → Int32 → Option (Int32 × ST)) (rec_X4_plain : ST → Int32 → Option (Int32 × ST)) (rec_X4_comparison : ST → Int32 → Option (Int32 × ST)) (rec_X4_inBrackets : ST → Int32 → Int32 → Option (Int32 × ST)) (rec_X4_sum : ST → Int32 → Option (Int32 × ST)) (rec_X4_term : ST → Int32 → Option (Int32 × ST)) (rec_X4_part : ST → Int32 → Option (Int32 × ST)) (k5 : ST → Int32 → Int32 → Int32 → Int32 → Option (Int32 × ST)) (S : ST) (v1 : Int32) (v2 : Int32) (v3 : Int32) (v4 : Int32) : Option (Int32 × ST) :=
  match gfX9_aim_25 x S v3 with
    | none => none
    | some (r3, S4) => (match gfX4_here_24 x S4 with
    | none => none
    | some (r7, S8) => (if r7 = v2 then (match gfX9_add_25 x S8 v2 0 with
    | none => none
    | some (r12, S13) => (k5 ((u2 S13.1 24 6 ((S13.1 24 6) + 1)), S13.2.1, S13.2.2.1, S13.2.2.2) v1 v2 r12 (v4 + 1))) else (some (1, S8))))
def bfX4_test_24_42 (x : XT) (rec_X4_test : ST → Int32 → Int32 → Option (Int32 × ST)) (rec_X4_plain : ST → Int32 → Option (Int32 × ST)) (rec_X4_comparison : ST → Int32 → Option (Int32 × ST)) (rec_X4_inBrackets : ST → Int32 → Int32 → Option (Int32 × ST)) (rec_X4_sum : ST → Int32 → Option (Int32 × ST)) (rec_X4_term : ST → Int32 → Option (Int32 × ST)) (rec_X4_part : ST → Int32 → Option (Int32 × ST))  (S : ST)  : Option (Int32 × ST) :=
  some (0, S)
def bfX4_test_24_5 (x : XT) (rec_X4_test : ST → Int32 → Int32 → Option (Int32 × ST)) (rec_X4_plain : ST → Int32 → Option (Int32 × ST)) (rec_X4_comparison : ST → Int32 → Option (Int32 × ST)) (rec_X4_inBrackets : ST → Int32 → Int32 → Option (Int32 × ST)) (rec_X4_sum : ST → Int32 → Option (Int32 × ST)) (rec_X4_term : ST → Int32 → Option (Int32 × ST)) (rec_X4_part : ST → Int32 → Option (Int32 × ST)) (k5 : ST → Int32 → Int32 → Int32 → Int32 → Option (Int32 × ST)) (S : ST) (v1 : Int32) (v2 : Int32) (v3 : Int32) (v4 : Int32) : Option (Int32 × ST) :=
  if 400 < v4 then (match gfX4_faulty_24 x S with
    | none => none
    | some (r4, S5) => (bif bbz r4 then (some (r4, S5)) else none)) else (if ¬ v2 = 271 then (match rec_X4_plain S v1 with
    | none => none
    | some (r10, S11) => (if ¬ r10 = 0 then (bfX4_test_24_44 x rec_X4_test rec_X4_plain rec_X4_comparison rec_X4_inBrackets rec_X4_sum rec_X4_term rec_X4_part k5 S11 v1 v2 v3 v4) else (bfX4_test_24_42 x rec_X4_test rec_X4_plain rec_X4_comparison rec_X4_inBrackets rec_X4_sum rec_X4_term rec_X4_part S11))) else (match rec_X4_test S v1 272 with
    | none => none
    | some (r15, S16) => (if r15 = 0 then (bfX4_test_24_42 x rec_X4_test rec_X4_plain rec_X4_comparison rec_X4_inBrackets rec_X4_sum rec_X4_term rec_X4_part S16) else (bfX4_test_24_44 x rec_X4_test rec_X4_plain rec_X4_comparison rec_X4_inBrackets rec_X4_sum rec_X4_term rec_X4_part k5 S16 v1 v2 v3 v4))))
def lfX4_test_24_5 (x : XT) (rec_X4_test : ST → Int32 → Int32 → Option (Int32 × ST)) (rec_X4_plain : ST → Int32 → Option (Int32 × ST)) (rec_X4_comparison : ST → Int32 → Option (Int32 × ST)) (rec_X4_inBrackets : ST → Int32 → Int32 → Option (Int32 × ST)) (rec_X4_sum : ST → Int32 → Option (Int32 × ST)) (rec_X4_term : ST → Int32 → Option (Int32 × ST)) (rec_X4_part : ST → Int32 → Option (Int32 × ST))  : Nat → ST → Int32 → Int32 → Int32 → Int32 → Option (Int32 × ST)
  | 0, _, _, _, _, _ => none
  | n + 1, S, v1, v2, v3, v4 => bfX4_test_24_5 x rec_X4_test rec_X4_plain rec_X4_comparison rec_X4_inBrackets rec_X4_sum rec_X4_term rec_X4_part (lfX4_test_24_5 x rec_X4_test rec_X4_plain rec_X4_comparison rec_X4_inBrackets rec_X4_sum rec_X4_term rec_X4_part  n) S v1 v2 v3 v4
def bfX4_test_24_0 (x : XT) (rec_X4_test : ST → Int32 → Int32 → Option (Int32 × ST)) (rec_X4_plain : ST → Int32 → Option (Int32 × ST)) (rec_X4_comparison : ST → Int32 → Option (Int32 × ST)) (rec_X4_inBrackets : ST → Int32 → Int32 → Option (Int32 × ST)) (rec_X4_sum : ST → Int32 → Option (Int32 × ST)) (rec_X4_term : ST → Int32 → Option (Int32 × ST)) (rec_X4_part : ST → Int32 → Option (Int32 × ST))  (S : ST) (p1 : Int32) (p2 : Int32) : Option (Int32 × ST) :=
  lfX4_test_24_5 x rec_X4_test rec_X4_plain rec_X4_comparison rec_X4_inBrackets rec_X4_sum rec_X4_term rec_X4_part  20000 S p1 p2 (-1) 0
def grfX4_test_24 (x : XT) (rec_X4_test : ST → Int32 → Int32 → Option (Int32 × ST)) (rec_X4_plain : ST → Int32 → Option (Int32 × ST)) (rec_X4_comparison : ST → Int32 → Option (Int32 × ST)) (rec_X4_inBrackets : ST → Int32 → Int32 → Option (Int32 × ST)) (rec_X4_sum : ST → Int32 → Option (Int32 × ST)) (rec_X4_term : ST → Int32 → Option (Int32 × ST)) (rec_X4_part : ST → Int32 → Option (Int32 × ST)) (S : ST) (p1 : Int32) (p2 : Int32) : Option (Int32 × ST) := bfX4_test_24_0 x rec_X4_test rec_X4_plain rec_X4_comparison rec_X4_inBrackets rec_X4_sum rec_X4_term rec_X4_part S p1 p2
def bfX4_plain_24_95 (x : XT) (rec_X4_test : ST → Int32 → Int32 → Option (Int32 × ST)) (rec_X4_plain : ST → Int32 → Option (Int32 × ST)) (rec_X4_comparison : ST → Int32 → Option (Int32 × ST)) (rec_X4_inBrackets : ST → Int32 → Int32 → Option (Int32 × ST)) (rec_X4_sum : ST → Int32 → Option (Int32 × ST)) (rec_X4_term : ST → Int32 → Option (Int32 × ST)) (rec_X4_part : ST → Int32 → Option (Int32 × ST))  (S : ST)  : Option (Int32 × ST) :=
  some (1, S)
def bfX4_plain_24_79 (x : XT) (rec_X4_test : ST → Int32 → Int32 → Option (Int32 × ST)) (rec_X4_plain : ST → Int32 → Option (Int32 × ST)) (rec_X4_comparison : ST → Int32 → Option (Int32 × ST)) (rec_X4_inBrackets : ST → Int32 → Int32 → Option (Int32 × ST)) (rec_X4_sum : ST → Int32 → Option (Int32 × ST)) (rec_X4_term : ST → Int32 → Option (Int32 × ST)) (rec_X4_part : ST → Int32 → Option (Int32 × ST))  (S : ST) (v2 : Int32) : Option (Int32 × ST) :=
  if v2 = 0 then (bfX4_plain_24_95 x rec_X4_test rec_X4_plain rec_X4_comparison rec_X4_inBrackets rec_X4_sum rec_X4_term rec_X4_part S) else (match gfX9_add_25 x S 273 0 with
    | none => none
    | some (r4, S5) => (bfX4_plain_24_95 x rec_X4_test rec_X4_plain rec_X4_comparison rec_X4_inBrackets rec_X4_sum rec_X4_term rec_X4_part S5))
def bfX4_plain_24_77 (x : XT) (rec_X4_test : ST → Int32 → Int32 → Option (Int32 × ST)) (rec_X4_plain : ST → Int32 → Option (Int32 × ST)) (rec_X4_comparison : ST → Int32 → Option (Int32 × ST)) (rec_X4_inBrackets : ST → Int32 → Int32 → Option (Int32 × ST)) (rec_X4_sum : ST → Int32 → Option (Int32 × ST)) (rec_X4_term : ST → Int32 → Option (Int32 × ST)) (rec_X4_part : ST → Int32 → Option (Int32 × ST))  (S : ST)  : Option (Int32 × ST) :=
  some (0, S)
def bfX4_plain_24_47 (x : XT) (rec_X4_test : ST → Int32 → Int32 → Option (Int32 × ST)) (rec_X4_plain : ST → Int32 → Option (Int32 × ST)) (rec_X4_comparison : ST → Int32 → Option (Int32 × ST)) (rec_X4_inBrackets : ST → Int32 → Int32 → Option (Int32 × ST)) (rec_X4_sum : ST → Int32 → Option (Int32 × ST)) (rec_X4_term : ST → Int32 → Option (Int32 × ST)) (rec_X4_part : ST → Int32 → Option (Int32 × ST))  (S : ST) (v1 : Int32) (v2 : Int32) : Option (Int32 × ST) :=
  match gfX4_here_24 x S with
    | none => none
    | some (r3, S4) => (if ¬ r3 = 40 then (match rec_X4_comparison S4 v1 with
    | none => none
    | some (r8, S9) => (if ¬ r8 = 0 then (bfX4_plain_24_79 x rec_X4_test rec_X4_plain rec_X4_comparison rec_X4_inBrackets rec_X4_sum rec_X4_term rec_X4_part S9 v2) else (bfX4_plain_24_77 x rec_X4_test rec_X4_plain rec_X4_comparison rec_X4_inBrackets rec_X4_sum rec_X4_term rec_X4_part S9))) else (match rec_X4_inBrackets S4 v1 41 with
    | none => none
    | some (r13, S14) => (if r13 = 0 then (bfX4_plain_24_77 x rec_X4_test rec_X4_plain rec_X4_comparison rec_X4_inBrackets rec_X4_sum rec_X4_term rec_X4_part S14) else (bfX4_plain_24_79 x rec_X4_test rec_X4_plain rec_X4_comparison rec_X4_inBrackets rec_X4_sum rec_X4_term rec_X4_part S14 v2))))
def bfX4_plain_24_30 (x : XT) (rec_X4_test : ST → Int32 → Int32 → Option (Int32 × ST)) (rec_X4_plain : ST → Int32 → Option (Int32 × ST)) (rec_X4_comparison : ST → Int32 → Option (Int32 × ST)) (rec_X4_inBrackets : ST → Int32 → Int32 → Option (Int32 × ST)) (rec_X4_sum : ST → Int32 → Option (Int32 × ST)) (rec_X4_term : ST → Int32 → Option (Int32 × ST)) (rec_X4_part : ST → Int32 → Option (Int32 × ST)) (k4 : ST → Int32 → Int32 → Int32 → Option (Int32 × ST)) (S : ST) (v1 : Int32) (v3 : Int32) (t0 : Int32) : Option (Int32 × ST) :=
  k4 ((u2 S.1 24 6 ((S.1 24 6) + 1)), S.2.1, S.2.2.1, S.2.2.2) v1 t0 (v3 + 1)
def bfX4_plain_24_4 (x : XT) (rec_X4_test : ST → Int32 → Int32 → Option (Int32 × ST)) (rec_X4_plain : ST → Int32 → Option (Int32 × ST)) (rec_X4_comparison : ST → Int32 → Option (Int32 × ST)) (rec_X4_inBrackets : ST → Int32 → Int32 → Option (Int32 × ST)) (rec_X4_sum : ST → Int32 → Option (Int32 × ST)) (rec_X4_term : ST → Int32 → Option (Int32 × ST)) (rec_X4_part : ST → Int32 → Option (Int32 × ST)) (k4 : ST → Int32 → Int32 → Int32 → Option (Int32 × ST)) (S : ST) (v1 : Int32) (v2 : Int32) (v3 : Int32) : Option (Int32 × ST) :=
  if 400 < v3 then (bfX4_plain_24_47 x rec_X4_test rec_X4_plain rec_X4_comparison rec_X4_inBrackets rec_X4_sum rec_X4_term rec_X4_part S v1 v2) else (match gfX4_here_24 x S with
    | none => none
    | some (r4, S5) => (if ¬ r4 = 273 then (bfX4_plain_24_47 x rec_X4_test rec_X4_plain rec_X4_comparison rec_X4_inBrackets rec_X4_sum rec_X4_term rec_X4_part S5 v1 v2) else (if ¬ v2 = 0 then (bfX4_plain_24_30 x rec_X4_test rec_X4_plain rec_X4_comparison rec_X4_inBrackets rec_X4_sum rec_X4_term rec_X4_part k4 S5 v1 v3 0) else (bfX4_plain_24_30 x rec_X4_test rec_X4_plain rec_X4_comparison rec_X4_inBrackets rec_X4_sum rec_X4_term rec_X4_part k4 S5 v1 v3 1))))
def lfX4_plain_24_4 (x : XT) (rec_X4_test : ST → Int32 → Int32 → Option (Int32 × ST)) (rec_X4_plain : ST → Int32 → Option (Int32 × ST)) (rec_X4_comparison : ST → Int32 → Option (Int32 × ST)) (rec_X4_inBrackets : ST → Int32 → Int32 → Option (Int32 × ST)) (rec_X4_sum : ST → Int32 → Option (Int32 × ST)) (rec_X4_term : ST → Int32 → Option (Int32 × ST)) (rec_X4_part : ST → Int32 → Option (Int32 × ST))  : Nat → ST → Int32 → Int32 → Int32 → Option (Int32 × ST)
  | 0, _, _, _, _ => none
  | n + 1, S, v1, v2, v3 => bfX4_plain_24_4 x rec_X4_test rec_X4_plain rec_X4_comparison rec_X4_inBrackets rec_X4_sum rec_X4_term rec_X4_part (lfX4_plain_24_4 x rec_X4_test rec_X4_plain rec_X4_comparison rec_X4_inBrackets rec_X4_sum rec_X4_term rec_X4_part  n) S v1 v2 v3
def bfX4_plain_24_0 (x : XT) (rec_X4_test : ST → Int32 → Int32 → Option (Int32 × ST)) (rec_X4_plain : ST → Int32 → Option (Int32 × ST)) (rec_X4_comparison : ST → Int32 → Option (Int32 × ST)) (rec_X4_inBrackets : ST → Int32 → Int32 → Option (Int32 × ST)) (rec_X4_sum : ST → Int32 → Option (Int32 × ST)) (rec_X4_term : ST → Int32 → Option (Int32 × ST)) (rec_X4_part : ST → Int32 → Option (Int32 × ST))  (S : ST) (p1 : Int32) : Option (Int32 × ST) :=
  lfX4_plain_24_4 x rec_X4_test rec_X4_plain rec_X4_comparison rec_X4_inBrackets rec_X4_sum rec_X4_term rec_X4_part  20000 S p1 0 0
def grfX4_plain_24 (x : XT) (rec_X4_test : ST → Int32 → Int32 → Option (Int32 × ST)) (rec_X4_plain : ST → Int32 → Option (Int32 × ST)) (rec_X4_comparison : ST → Int32 → Option (Int32 × ST)) (rec_X4_inBrackets : ST → Int32 → Int32 → Option (Int32 × ST)) (rec_X4_sum : ST → Int32 → Option (Int32 × ST)) (rec_X4_term : ST → Int32 → Option (Int32 × ST)) (rec_X4_part : ST → Int32 → Option (Int32 × ST)) (S : ST) (p1 : Int32) : Option (Int32 × ST) := bfX4_plain_24_0 x rec_X4_test rec_X4_plain rec_X4_comparison rec_X4_inBrackets rec_X4_sum rec_X4_term rec_X4_part S p1
def bfX4_comparison_24_38 (x : XT) (rec_X4_test : ST → Int32 → Int32 → Option (Int32 × ST)) (rec_X4_plain : ST → Int32 → Option (Int32 × ST)) (rec_X4_comparison : ST → Int32 → Option (Int32 × ST)) (rec_X4_inBrackets : ST → Int32 → Int32 → Option (Int32 × ST)) (rec_X4_sum : ST → Int32 → Option (Int32 × ST)) (rec_X4_term : ST → Int32 → Option (Int32 × ST)) (rec_X4_part : ST → Int32 → Option (Int32 × ST))  (S : ST) (v1 : Int32) (v2 : Int32) : Option (Int32 × ST) :=
  match rec_X4_sum ((u2 S.1 24 6 ((S.1 24 6) + 1)), S.2.1, S.2.2.1, S.2.2.2) v1 with
    | none => none
    | some (r3, S4) => (if ¬ r3 = 0 then (match gfX9_add_25 x S4 v2 0 with
    | none => none
    | some (r8, S9) => (some (1, S9))) else (some (0, S4)))
def bfX4_comparison_24_0 (x : XT) (rec_X4_test : ST → Int32 → Int32 → Option (Int32 × ST)) (rec_X4_plain : ST → Int32 → Option (Int32 × ST)) (rec_X4_comparison : ST → Int32 → Option (Int32 × ST)) (rec_X4_inBrackets : ST → Int32 → Int32 → Option (Int32 × ST)) (rec_X4_sum : ST → Int32 → Option (Int32 × ST)) (rec_X4_term : ST → Int32 → Option (Int32 × ST)) (rec_X4_part : ST → Int32 → Option (Int32 × ST))  (S : ST) (p1 : Int32) : Option (Int32 × ST) :=
  match rec_X4_sum S p1 with
    | none => none
    | some (r3, S4) => (if ¬ r3 = 0 then (match gfX4_here_24 x S4 with
    | none => none
    | some (r8, S9) => (if r8 = 60 then (bfX4_comparison_24_38 x rec_X4_test rec_X4_plain rec_X4_comparison rec_X4_inBrackets rec_X4_sum rec_X4_term rec_X4_part S9 p1 r8) else (if r8 = 62 then (bfX4_comparison_24_38 x rec_X4_test rec_X4_plain rec_X4_comparison rec_X4_inBrackets rec_X4_sum rec_X4_term rec_X4_part S9 p1 r8) else (if r8 = 61 then (bfX4_comparison_24_38 x rec_X4_test rec_X4_plain rec_X4_comparison rec_X4_inBrackets rec_X4_sum rec_X4_term rec_X4_part S9 p1 r8) else (match gfX4_faulty_24 x S9 with
    | none => none
    | some (r15, S16) => (bif bbz r15 then (some (r15, S16)) else none)))))) else (some (0, S4)))
def grfX4_comparison_24 (x : XT) (rec_X4_test : ST → Int32 → Int32 → Option (Int32 × ST)) (rec_X4_plain : ST → Int32 → Option (Int32 × ST)) (rec_X4_comparison : ST → Int32 → Option (Int32 × ST)) (rec_X4_inBrackets : ST → Int32 → Int32 → Option (Int32 × ST)) (rec_X4_sum : ST → Int32 → Option (Int32 × ST)) (rec_X4_term : ST → Int32 → Option (Int32 × ST)) (rec_X4_part : ST → Int32 → Option (Int32 × ST)) (S : ST) (p1 : Int32) : Option (Int32 × ST) := bfX4_comparison_24_0 x rec_X4_test rec_X4_plain rec_X4_comparison rec_X4_inBrackets rec_X4_sum rec_X4_term rec_X4_part S p1
def bfX4_inBrackets_24_66 (x : XT) (rec_X4_test : ST → Int32 → Int32 → Option (Int32 × ST)) (rec_X4_plain : ST → Int32 → Option (Int32 × ST)) (rec_X4_comparison : ST → Int32 → Option (Int32 × ST)) (rec_X4_inBrackets : ST → Int32 → Int32 → Option (Int32 × ST)) (rec_X4_sum : ST → Int32 → Option (Int32 × ST)) (rec_X4_term : ST → Int32 → Option (Int32 × ST)) (rec_X4_part : ST → Int32 → Option (Int32 × ST))  (S : ST) (t0 : Int32) : Option (Int32 × ST) :=
  bif bbz t0 then (some (t0, S)) else none
def bfX4_inBrackets_24_65 (x : XT) (rec_X4_test : ST → Int32 → Int32 → Option (Int32 × ST)) (rec_X4_plain : ST → Int32 → Option (Int32 × ST)) (rec_X4_comparison : ST → Int32 → Option (Int32 × ST)) (rec_X4_inBrackets : ST → Int32 → Int32 → Option (Int32 × ST)) (rec_X4_sum : ST → Int32 → Option (Int32 × ST)) (rec_X4_term : ST → Int32 → Option (Int32 × ST)) (rec_X4_part : ST → Int32 → Option (Int32 × ST))  (S : ST)  : Option (Int32 × ST) :=
  bfX4_inBrackets_24_66 x rec_X4_test rec_X4_plain rec_X4_comparison rec_X4_inBrackets rec_X4_sum rec_X4_term rec_X4_part S 0
def bfX4_inBrackets_24_53 (x : XT) (rec_X4_test : ST → Int32 → Int32 → Option (Int32 × ST)) (rec_X4_plain : ST → Int32 → Option (Int32 × ST)) (rec_X4_comparison : ST → Int32 → Option (Int32 × ST)) (rec_X4_inBrackets : ST → Int32 → Int32 → Option (Int32 × ST)) (rec_X4_sum : ST → Int32 → Option (Int32 × ST)) (rec_X4_term : ST → Int32 → Option (Int32 × ST)) (rec_X4_part : ST → Int32 → Option (Int32 × ST))  (S : ST) (v2 : Int32) : Option (Int32 × ST) :=
  match gfX4_take_24 x S v2 with
    | none => none
    | some (r3, S4) => (if r3 = 0 then (bfX4_inBrackets_24_65 x rec_X4_test rec_X4_plain rec_X4_comparison rec_X4_inBrackets rec_X4_sum rec_X4_term rec_X4_part S4) else (bfX4_inBrackets_24_66 x rec_X4_test rec_X4_plain rec_X4_comparison rec_X4_inBrackets rec_X4_sum rec_X4_term rec_X4_part S4 1))
def bfX4_inBrackets_24_0 (x : XT) (rec_X4_test : ST → Int32 → Int32 → Option (Int32 × ST)) (rec_X4_plain : ST → Int32 → Option (Int32 × ST)) (rec_X4_comparison : ST → Int32 → Option (Int32 × ST)) (rec_X4_inBrackets : ST → Int32 → Int32 → Option (Int32 × ST)) (rec_X4_sum : ST → Int32 → Option (Int32 × ST)) (rec_X4_term : ST → Int32 → Option (Int32 × ST)) (rec_X4_part : ST → Int32 → Option (Int32 × ST))  (S : ST) (p1 : Int32) (p2 : Int32) : Option (Int32 × ST) :=
  if p1 < 8 then (if ¬ p2 = 41 then (match rec_X4_sum ((u2 S.1 24 6 ((S.1 24 6) + 1)), S.2.1, S.2.2.1, S.2.2.2) (p1 + 1) with
    | none => none
    | some (r5, S6) => (if r5 = 0 then (bfX4_inBrackets_24_65 x rec_X4_test rec_X4_plain rec_X4_comparison rec_X4_inBrackets rec_X4_sum rec_X4_term rec_X4_part S6) else (bfX4_inBrackets_24_53 x rec_X4_test rec_X4_plain rec_X4_comparison rec_X4_inBrackets rec_X4_sum rec_X4_term rec_X4_part S6 p2))) else (match rec_X4_test ((u2 S.1 24 6 ((S.1 24 6) + 1)), S.2.1, S.2.2.1, S.2.2.2) (p1 + 1) 271 with
    | none => none
    | some (r10, S11) => (if r10 = 0 then (bfX4_inBrackets_24_65 x rec_X4_test rec_X4_plain rec_X4_comparison rec_X4_inBrackets rec_X4_sum rec_X4_term rec_X4_part S11) else (bfX4_inBrackets_24_53 x rec_X4_test rec_X4_plain rec_X4_comparison rec_X4_inBrackets rec_X4_sum rec_X4_term rec_X4_part S11 p2)))) else (match gfX4_faulty_24 x S with
    | none => none
    | some (r15, S16) => (bif bbz r15 then (some (r15, S16)) else none))
def grfX4_inBrackets_24 (x : XT) (rec_X4_test : ST → Int32 → Int32 → Option (Int32 × ST)) (rec_X4_plain : ST → Int32 → Option (Int32 × ST)) (rec_X4_comparison : ST → Int32 → Option (Int32 × ST)) (rec_X4_inBrackets : ST → Int32 → Int32 → Option (Int32 × ST)) (rec_X4_sum : ST → Int32 → Option (Int32 × ST)) (rec_X4_term : ST → Int32 → Option (Int32 × ST)) (rec_X4_part : ST → Int32 → Option (Int32 × ST)) (S : ST) (p1 : Int32) (p2 : Int32) : Option (Int32 × ST) := bfX4_inBrackets_24_0 x rec_X4_test rec_X4_plain rec_X4_comparison rec_X4_inBrackets rec_X4_sum rec_X4_term rec_X4_part S p1 p2
def bfX4_sum_24_76 (x : XT) (rec_X4_test : ST → Int32 → Int32 → Option (Int32 × ST)) (rec_X4_plain : ST → Int32 → Option (Int32 × ST)) (rec_X4_comparison : ST → Int32 → Option (Int32 × ST)) (rec_X4_inBrackets : ST → Int32 → Int32 → Option (Int32 × ST)) (rec_X4_sum : ST → Int32 → Option (Int32 × ST)) (rec_X4_term : ST → Int32 → Option (Int32 × ST)) (rec_X4_part : ST → Int32 → Option (Int32 × ST))  (S : ST) (v2 : Int32) : Option (Int32 × ST) :=
  bif bbz v2 then (some (v2, S)) else none
def bfX4_sum_24_37 (x : XT) (rec_X4_test : ST → Int32 → Int32 → Option (Int32 × ST)) (rec_X4_plain : ST → Int32 → Option (Int32 × ST)) (rec_X4_comparison : ST → Int32 → Option (Int32 × ST)) (rec_X4_inBrackets : ST → Int32 → Int32 → Option (Int32 × ST)) (rec_X4_sum : ST → Int32 → Option (Int32 × ST)) (rec_X4_term : ST → Int32 → Option (Int32 × ST)) (rec_X4_part : ST → Int32 → Option (Int32 × ST)) (k8 : ST → Int32 → Int32 → Int32 → Option (Int32 × ST)) (S : ST) (v1 : Int32) (v3 : Int32) : Option (Int32 × ST) :=
  match gfX4_here_24 x S with
    | none => none
    | some (r3, S4) => (match rec_X4_term ((u2 S4.1 24 6 ((S4.1 24 6) + 1)), S4.2.1, S4.2.2.1, S4.2.2.2) v1 with
    | none => none
    | some (r7, S8) => (match gfX9_add_25 x S8 r3 0 with
    | none => none
    | some (r11, S12) => (k8 S12 v1 r7 (v3 + 1))))
def bfX4_sum_24_8 (x : XT) (rec_X4_test : ST → Int32 → Int32 → Option (Int32 × ST)) (rec_X4_plain : ST → Int32 → Option (Int32 × ST)) (rec_X4_comparison : ST → Int32 → Option (Int32 × ST)) (rec_X4_inBrackets : ST → Int32 → Int32 → Option (Int32 × ST)) (rec_X4_sum : ST → Int32 → Option (Int32 × ST)) (rec_X4_term : ST → Int32 → Option (Int32 × ST)) (rec_X4_part : ST → Int32 → Option (Int32 × ST)) (k8 : ST → Int32 → Int32 → Int32 → Option (Int32 × ST)) (S : ST) (v1 : Int32) (v2 : Int32) (v3 : Int32) : Option (Int32 × ST) :=
  if 400 < v3 then (bfX4_sum_24_76 x rec_X4_test rec_X4_plain rec_X4_comparison rec_X4_inBrackets rec_X4_sum rec_X4_term rec_X4_part S v2) else (if v2 = 0 then (bfX4_sum_24_76 x rec_X4_test rec_X4_plain rec_X4_comparison rec_X4_inBrackets rec_X4_sum rec_X4_term rec_X4_part S v2) else (match gfX4_here_24 x S with
    | none => none
    | some (r5, S6) => (if r5 = 43 then (bfX4_sum_24_37 x rec_X4_test rec_X4_plain rec_X4_comparison rec_X4_inBrackets rec_X4_sum rec_X4_term rec_X4_part k8 S6 v1 v3) else (match gfX4_here_24 x S6 with
    | none => none
    | some (r10, S11) => (if ¬ r10 = 45 then (bfX4_sum_24_76 x rec_X4_test rec_X4_plain rec_X4_comparison rec_X4_inBrackets rec_X4_sum rec_X4_term rec_X4_part S11 v2) else (bfX4_sum_24_37 x rec_X4_test rec_X4_plain rec_X4_comparison rec_X4_inBrackets rec_X4_sum rec_X4_term rec_X4_part k8 S11 v1 v3))))))
def lfX4_sum_24_8 (x : XT) (rec_X4_test : ST → Int32 → Int32 → Option (Int32 × ST)) (rec_X4_plain : ST → Int32 → Option (Int32 × ST)) (rec_X4_comparison : ST → Int32 → Option (Int32 × ST)) (rec_X4_inBrackets : ST → Int32 → Int32 → Option (Int32 × ST)) (rec_X4_sum : ST → Int32 → Option (Int32 × ST)) (rec_X4_term : ST → Int32 → Option (Int32 × ST)) (rec_X4_part : ST → Int32 → Option (Int32 × ST))  : Nat → ST → Int32 → Int32 → Int32 → Option (Int32 × ST)
  | 0, _, _, _, _ => none
  | n + 1, S, v1, v2, v3 => bfX4_sum_24_8 x rec_X4_test rec_X4_plain rec_X4_comparison rec_X4_inBrackets rec_X4_sum rec_X4_term rec_X4_part (lfX4_sum_24_8 x rec_X4_test rec_X4_plain rec_X4_comparison rec_X4_inBrackets rec_X4_sum rec_X4_term rec_X4_part  n) S v1 v2 v3
def bfX4_sum_24_0 (x : XT) (rec_X4_test : ST → Int32 → Int32 → Option (Int32 × ST)) (rec_X4_plain : ST → Int32 → Option (Int32 × ST)) (rec_X4_comparison : ST → Int32 → Option (Int32 × ST)) (rec_X4_inBrackets : ST → Int32 → Int32 → Option (Int32 × ST)) (rec_X4_sum : ST → Int32 → Option (Int32 × ST)) (rec_X4_term : ST → Int32 → Option (Int32 × ST)) (rec_X4_part : ST → Int32 → Option (Int32 × ST))  (S : ST) (p1 : Int32) : Option (Int32 × ST) :=
  match rec_X4_term S p1 with
    | none => none
    | some (r3, S4) => (lfX4_sum_24_8 x rec_X4_test rec_X4_plain rec_X4_comparison rec_X4_inBrackets rec_X4_sum rec_X4_term rec_X4_part  20000 S4 p1 r3 0)
def grfX4_sum_24 (x : XT) (rec_X4_test : ST → Int32 → Int32 → Option (Int32 × ST)) (rec_X4_plain : ST → Int32 → Option (Int32 × ST)) (rec_X4_comparison : ST → Int32 → Option (Int32 × ST)) (rec_X4_inBrackets : ST → Int32 → Int32 → Option (Int32 × ST)) (rec_X4_sum : ST → Int32 → Option (Int32 × ST)) (rec_X4_term : ST → Int32 → Option (Int32 × ST)) (rec_X4_part : ST → Int32 → Option (Int32 × ST)) (S : ST) (p1 : Int32) : Option (Int32 × ST) := bfX4_sum_24_0 x rec_X4_test rec_X4_plain rec_X4_comparison rec_X4_inBrackets rec_X4_sum rec_X4_term rec_X4_part S p1
def bfX4_term_24_85 (x : XT) (rec_X4_test : ST → Int32 → Int32 → Option (Int32 × ST)) (rec_X4_plain : ST → Int32 → Option (Int32 × ST)) (rec_X4_comparison : ST → Int32 → Option (Int32 × ST)) (rec_X4_inBrackets : ST → Int32 → Int32 → Option (Int32 × ST)) (rec_X4_sum : ST → Int32 → Option (Int32 × ST)) (rec_X4_term : ST → Int32 → Option (Int32 × ST)) (rec_X4_part : ST → Int32 → Option (Int32 × ST))  (S : ST) (v2 : Int32) : Option (Int32 × ST) :=
  bif bbz v2 then (some (v2, S)) else none
def bfX4_term_24_46 (x : XT) (rec_X4_test : ST → Int32 → Int32 → Option (Int32 × ST)) (rec_X4_plain : ST → Int32 → Option (Int32 × ST)) (rec_X4_comparison : ST → Int32 → Option (Int32 × ST)) (rec_X4_inBrackets : ST → Int32 → Int32 → Option (Int32 × ST)) (rec_X4_sum : ST → Int32 → Option (Int32 × ST)) (rec_X4_term : ST → Int32 → Option (Int32 × ST)) (rec_X4_part : ST → Int32 → Option (Int32 × ST)) (k8 : ST → Int32 → Int32 → Int32 → Option (Int32 × ST)) (S : ST) (v1 : Int32) (v3 : Int32) : Option (Int32 × ST) :=
  match gfX4_here_24 x S with
    | none => none
    | some (r3, S4) => (match rec_X4_part ((u2 S4.1 24 6 ((S4.1 24 6) + 1)), S4.2.1, S4.2.2.1, S4.2.2.2) v1 with
    | none => none
    | some (r7, S8) => (match gfX9_add_25 x S8 r3 0 with
    | none => none
    | some (r11, S12) => (k8 S12 v1 r7 (v3 + 1))))
end DEFS
