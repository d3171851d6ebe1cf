section DEFS
def gfX10_meet_0 (x : XT) (S : ST) (p1 : Int32) (p2 : Int32) (p3 : Int32) : Option (Int32 × ST) := bfX10_meet_0_0 x S p1 p2 p3
def bfX7_addSight_1_27 (x : XT)  (S : ST)  : Option (Int32 × ST) :=
  some ((-1), S)
def bfX7_addSight_1_0 (x : XT)  (S : ST) (p1 : Int32) (p2 : Int32) (p3 : Int32) : Option (Int32 × ST) :=
  match gfX10_within x S p1 10 with
    | none => none
    | some (r3, S4) => (if r3 = 0 then (bfX7_addSight_1_27 x S4) else (match gfX10_within x S4 p2 20 with
    | none => none
    | some (r8, S9) => (if r8 = 0 then (bfX7_addSight_1_27 x S9) else (match gfX10_within x S9 p3 20 with
    | none => none
    | some (r13, S14) => (if ¬ r13 = 0 then (if (S14.1 1 11) < 6 then (bif inb (S14.1 1 11) 6 then (bif inb (S14.1 1 11) 6 then (bif inb (S14.1 1 11) 6 then (some ((S14.1 1 11) + 1, ((u2 S14.1 1 11 ((S14.1 1 11) + 1)), (u2 (u2 (u2 S14.2.1 11 ((S14.1 1 11).toNatClampNeg) p1) 12 ((S14.1 1 11).toNatClampNeg) p2) 13 ((S14.1 1 11).toNatClampNeg) p3), S14.2.2.1, S14.2.2.2))) else none) else none) else none) else (some ((-5), S14))) else (bfX7_addSight_1_27 x S14))))))
def gfX7_addSight_1 (x : XT) (S : ST) (p1 : Int32) (p2 : Int32) (p3 : Int32) : Option (Int32 × ST) := bfX7_addSight_1_0 x S p1 p2 p3
def bfX10_seen_0_0 (x : XT)  (S : ST) (p1 : Int32) (p2 : Int32) (p3 : Int32) : Option (Int32 × ST) :=
  match gfX7_addSight_1 x S p1 p2 p3 with
    | none => none
    | some (r3, S4) => (match gfX10_told_0 x S4 r3 with
    | none => none
    | some (r7, S8) => (some (r7, S8)))
def gfX10_seen_0 (x : XT) (S : ST) (p1 : Int32) (p2 : Int32) (p3 : Int32) : Option (Int32 × ST) := bfX10_seen_0_0 x S p1 p2 p3
def bfX10_forget_0_0 (x : XT)  (S : ST)  : Option (Int32 × ST) :=
  some ((S.1 1 11), ((u2 S.1 1 11 0), S.2.1, S.2.2.1, S.2.2.2))
def gfX10_forget_0 (x : XT) (S : ST)  : Option (Int32 × ST) := bfX10_forget_0_0 x S 
def bfX3_comesOut_80_1_42 (x : XT)  (S : ST) (t0 : Int32) : Option (Int32 × ST) :=
  some (t0, S)
def bfX3_comesOut_80_1_0 (x : XT)  (S : ST) (p2 : Int32) (p3 : Int32) (p4 : Int32) : Option (Int32 × ST) :=
  match gfX0_regardUnknown_20_1 x S p2 p3 p4 with
    | none => none
    | some (r3, S4) => (match gfX0_told_20_1 x S4 262 with
    | none => none
    | some (r7, S8) => (if ¬ r7 = 1 then (match gfX0_told_20_1 x S8 260 with
    | none => none
    | some (r12, S13) => (bfX3_comesOut_80_1_42 x S13 r12)) else (bfX3_comesOut_80_1_42 x S8 (-1))))
def gfX3_comesOut_80_1 (x : XT) (S : ST) (p2 : Int32) (p3 : Int32) (p4 : Int32) : Option (Int32 × ST) := bfX3_comesOut_80_1_0 x S p2 p3 p4
def bfX3_possible_80_1_86 (x : XT) (k4 : ST → Int32 → Int32 → Option (Int32 × ST)) (S : ST) (v3 : Int32) (t0 : Int32) (t1 : Int32) : Option (Int32 × ST) :=
  k4 S (t0 ||| t1) (v3 + 1)
def bfX3_possible_80_1_73 (x : XT) (k4 : ST → Int32 → Int32 → Option (Int32 × ST)) (S : ST) (v2 : Int32) (v3 : Int32) (v4 : Int32) : Option (Int32 × ST) :=
  if v4 = 0 then (bfX3_possible_80_1_86 x k4 S v3 v2 0) else (bfX3_possible_80_1_86 x k4 S v3 v2 (1 <<< (v3 &&& 31)))
def bfX3_possible_80_1_65 (x : XT) (k4 : ST → Int32 → Int32 → Option (Int32 × ST)) (k16 : ST → Int32 → Int32 → Int32 → Int32 → Option (Int32 × ST)) (S : ST) (v2 : Int32) (v3 : Int32) (v5 : Int32) (t0 : Int32) : Option (Int32 × ST) :=
  k16 S v2 v3 t0 (v5 + 1)
def bfX3_possible_80_1_16 (x : XT) (k4 : ST → Int32 → Int32 → Option (Int32 × ST)) (k16 : ST → Int32 → Int32 → Int32 → Int32 → Option (Int32 × ST)) (S : ST) (v2 : Int32) (v3 : Int32) (v4 : Int32) (v5 : Int32) : Option (Int32 × ST) :=
  if (S.1 1 11) ≤ v5 then (bfX3_possible_80_1_73 x k4 S v2 v3 v4) else (if v4 = 0 then (bfX3_possible_80_1_73 x k4 S v2 v3 v4) else (bif inb v5 6 then (bif inb v5 6 then (match gfX3_comesOut_80_1 x S v3 (S.2.1 11 v5.toNatClampNeg) (S.2.1 12 v5.toNatClampNeg) with
    | none => none
    | some (r7, S8) => (bif inb v5 6 then (if ¬ r7 = (S8.2.1 13 v5.toNatClampNeg) then (bfX3_possible_80_1_65 x k4 k16 S8 v2 v3 v5 0) else (bfX3_possible_80_1_65 x k4 k16 S8 v2 v3 v5 1)) else none)) else none) else none))
def lfX3_possible_80_1_16 (x : XT) (k4 : ST → Int32 → Int32 → Option (Int32 × ST)) : Nat → ST → Int32 → Int32 → Int32 → Int32 → Option (Int32 × ST)
  | 0, _, _, _, _, _ => none
  | n + 1, S, v2, v3, v4, v5 => bfX3_possible_80_1_16 x k4 (lfX3_possible_80_1_16 x k4 n) S v2 v3 v4 v5
def bfX3_possible_80_1_4 (x : XT) (k4 : ST → Int32 → Int32 → Option (Int32 × ST)) (S : ST) (v2 : Int32) (v3 : Int32) : Option (Int32 × ST) :=
  if 8 ≤ v3 then (some (v2, S)) else (lfX3_possible_80_1_16 x k4 20000 S v2 v3 1 0)
def lfX3_possible_80_1_4 (x : XT)  : Nat → ST → Int32 → Int32 → Option (Int32 × ST)
  | 0, _, _, _ => none
  | n + 1, S, v2, v3 => bfX3_possible_80_1_4 x (lfX3_possible_80_1_4 x  n) S v2 v3
def bfX3_possible_80_1_0 (x : XT)  (S : ST)  : Option (Int32 × ST) :=
  lfX3_possible_80_1_4 x  20000 S 0 0
def gfX3_possible_80_1 (x : XT) (S : ST)  : Option (Int32 × ST) := bfX3_possible_80_1_0 x S 
def bfX10_kinds_0_0 (x : XT)  (S : ST)  : Option (Int32 × ST) :=
  match gfX3_possible_80_1 x S with
    | none => none
    | some (r3, S4) => (some (r3, S4))
def gfX10_kinds_0 (x : XT) (S : ST)  : Option (Int32 × ST) := bfX10_kinds_0_0 x S 
def bfX3_mostAlike_80_55 (x : XT) (k4 : ST → Int32 → Int32 → Option (Int32 × ST)) (k15 : ST → Int32 → Int32 → Int32 → Int32 → Option (Int32 × ST)) (S : ST) (v1 : Int32) (v2 : Int32) (v4 : Int32) (t0 : Int32) (t1 : Int32) : Option (Int32 × ST) :=
  k15 S v1 v2 (t0 + t1) (v4 + 1)
def bfX3_mostAlike_80_54 (x : XT) (k4 : ST → Int32 → Int32 → Option (Int32 × ST)) (k15 : ST → Int32 → Int32 → Int32 → Int32 → Option (Int32 × ST)) (S : ST) (v1 : Int32) (v2 : Int32) (v4 : Int32) (t0 : Int32) : Option (Int32 × ST) :=
  bfX3_mostAlike_80_55 x k4 k15 S v1 v2 v4 t0 0
def bfX3_mostAlike_80_15 (x : XT) (k4 : ST → Int32 → Int32 → Option (Int32 × ST)) (k15 : ST → Int32 → Int32 → Int32 → Int32 → Option (Int32 × ST)) (S : ST) (v1 : Int32) (v2 : Int32) (v3 : Int32) (v4 : Int32) : Option (Int32 × ST) :=
  if 8 ≤ v4 then (k4 S (if v1 < v3 then v3 else v1) (v2 + 1)) else (bif inb v4 8 then (bif inb v2 8 then (if ¬ (S.2.1 81 v4.toNatClampNeg) = (S.2.1 81 v2.toNatClampNeg) then (bfX3_mostAlike_80_54 x k4 k15 S v1 v2 v4 v3) else (bif inb v2 8 then (if (S.2.1 81 v2.toNatClampNeg) = (-2) then (bfX3_mostAlike_80_54 x k4 k15 S v1 v2 v4 v3) else (bfX3_mostAlike_80_55 x k4 k15 S v1 v2 v4 v3 1)) else none)) else none) else none)
def lfX3_mostAlike_80_15 (x : XT) (k4 : ST → Int32 → Int32 → Option (Int32 × ST)) : Nat → ST → Int32 → Int32 → Int32 → Int32 → Option (Int32 × ST)
  | 0, _, _, _, _, _ => none
  | n + 1, S, v1, v2, v3, v4 => bfX3_mostAlike_80_15 x k4 (lfX3_mostAlike_80_15 x k4 n) S v1 v2 v3 v4
def bfX3_mostAlike_80_4 (x : XT) (k4 : ST → Int32 → Int32 → Option (Int32 × ST)) (S : ST) (v1 : Int32) (v2 : Int32) : Option (Int32 × ST) :=
  if 8 ≤ v2 then (some (v1, S)) else (lfX3_mostAlike_80_15 x k4 20000 S v1 v2 0 0)
def lfX3_mostAlike_80_4 (x : XT)  : Nat → ST → Int32 → Int32 → Option (Int32 × ST)
  | 0, _, _, _ => none
  | n + 1, S, v1, v2 => bfX3_mostAlike_80_4 x (lfX3_mostAlike_80_4 x  n) S v1 v2
def bfX3_mostAlike_80_0 (x : XT)  (S : ST)  : Option (Int32 × ST) :=
  lfX3_mostAlike_80_4 x  20000 S 0 0
def gfX3_mostAlike_80 (x : XT) (S : ST)  : Option (Int32 × ST) := bfX3_mostAlike_80_0 x S 
def bfX3_bestTrial_80_1_118 (x : XT)  (S : ST) (t0 : Int32) : Option (Int32 × ST) :=
  some (t0, S)
def bfX3_bestTrial_80_1_101 (x : XT) (k24 : ST → Int32 → Int32 → Int32 → Int32 → Int32 → Int32 → Option (Int32 × ST)) (S : ST) (v2 : Int32) (v3 : Int32) (v4 : Int32) (v5 : Int32) (v6 : Int32) (v7 : Int32) : Option (Int32 × ST) :=
  k24 S v2 v3 v4 v5 v6 (v7 + 1)
def bfX3_bestTrial_80_1_73 (x : XT) (k24 : ST → Int32 → Int32 → Int32 → Int32 → Int32 → Int32 → Option (Int32 × ST)) (k34 : ST → Int32 → Int32 → Int32 → Int32 → Int32 → Int32 → Int32 → Option (Int32 × ST)) (S : ST) (v2 : Int32) (v3 : Int32) (v4 : Int32) (v5 : Int32) (v6 : Int32) (v7 : Int32) (v8 : Int32) (t1 : Int32) (t2 : Int32) : Option (Int32 × ST) :=
  bif inb t1 8 then (k34 (S.1, (u2 S.2.1 81 t1.toNatClampNeg t2), S.2.2.1, S.2.2.2) v2 v3 v4 v5 v6 v7 (v8 + 1)) else none
def bfX3_bestTrial_80_1_34 (x : XT) (k24 : ST → Int32 → Int32 → Int32 → Int32 → Int32 → Int32 → Option (Int32 × ST)) (k34 : ST → Int32 → Int32 → Int32 → Int32 → Int32 → Int32 → Int32 → Option (Int32 × ST)) (S : ST) (v2 : Int32) (v3 : Int32) (v4 : Int32) (v5 : Int32) (v6 : Int32) (v7 : Int32) (v8 : Int32) : Option (Int32 × ST) :=
  if 8 ≤ v8 then (match gfX3_mostAlike_80 x S with
    | none => none
    | some (r4, S5) => (if v6 ≤ r4 then (bfX3_bestTrial_80_1_101 x k24 S5 v2 v3 v4 v5 v6 v7) else (bfX3_bestTrial_80_1_101 x k24 S5 v2 v3 v4 v7 r4 v7))) else (if ¬ ((v4 >>> (v8 &&& 31)) &&& 1) = 1 then (bfX3_bestTrial_80_1_73 x k24 k34 S v2 v3 v4 v5 v6 v7 v8 v8 (-2)) else (match gfX3_comesOut_80_1 x S v8 v2 v7 with
    | none => none
    | some (r10, S11) => (bfX3_bestTrial_80_1_73 x k24 k34 S11 v2 v3 v4 v5 v6 v7 v8 v8 r10)))
def lfX3_bestTrial_80_1_34 (x : XT) (k24 : ST → Int32 → Int32 → Int32 → Int32 → Int32 → Int32 → Option (Int32 × ST)) : Nat → ST → Int32 → Int32 → Int32 → Int32 → Int32 → Int32 → Int32 → Option (Int32 × ST)
  | 0, _, _, _, _, _, _, _, _ => none
  | n + 1, S, v2, v3, v4, v5, v6, v7, v8 => bfX3_bestTrial_80_1_34 x k24 (lfX3_bestTrial_80_1_34 x k24 n) S v2 v3 v4 v5 v6 v7 v8
def bfX3_bestTrial_80_1_24 (x : XT) (k24 : ST → Int32 → Int32 → Int32 → Int32 → Int32 → Int32 → Option (Int32 × ST)) (S : ST) (v2 : Int32) (v3 : Int32) (v4 : Int32) (v5 : Int32) (v6 : Int32) (v7 : Int32) : Option (Int32 × ST) :=
  if 20 ≤ v7 then (if v3 = 0 then (bfX3_bestTrial_80_1_118 x S v6) else (bfX3_bestTrial_80_1_118 x S v5)) else (lfX3_bestTrial_80_1_34 x k24 20000 S v2 v3 v4 v5 v6 v7 0)
def lfX3_bestTrial_80_1_24 (x : XT)  : Nat → ST → Int32 → Int32 → Int32 → Int32 → Int32 → Int32 → Option (Int32 × ST)
  | 0, _, _, _, _, _, _, _ => none
  | n + 1, S, v2, v3, v4, v5, v6, v7 => bfX3_bestTrial_80_1_24 x (lfX3_bestTrial_80_1_24 x  n) S v2 v3 v4 v5 v6 v7
def bfX3_bestTrial_80_1_0 (x : XT)  (S : ST) (p2 : Int32) (p3 : Int32) : Option (Int32 × ST) :=
  match gfX3_possible_80_1 x S with
    | none => none
    | some (r3, S4) => (if ¬ r3 = 0 then (lfX3_bestTrial_80_1_24 x  20000 S4 p2 p3 r3 (-1) 9 0) else (some ((-1), S4)))
def gfX3_bestTrial_80_1 (x : XT) (S : ST) (p2 : Int32) (p3 : Int32) : Option (Int32 × ST) := bfX3_bestTrial_80_1_0 x S p2 p3
def bfX10_ask_0_17 (x : XT)  (S : ST)  : Option (Int32 × ST) :=
  some ((-1), S)
def bfX10_ask_0_37 (x : XT)  (S : ST) (t2 : Int32) (t3 : Int32) : Option (Int32 × ST) :=
  match gfX3_bestTrial_80_1 x S t2 t3 with
    | none => none
    | some (r3, S4) => (some (r3, S4))
def bfX10_ask_0_0 (x : XT)  (S : ST) (p1 : Int32) (p2 : Int32) : Option (Int32 × ST) :=
  match gfX10_within x S p1 10 with
    | none => none
    | some (r3, S4) => (if r3 = 0 then (bfX10_ask_0_17 x S4) else (match gfX10_within x S4 p2 2 with
    | none => none
    | some (r8, S9) => (if ¬ r8 = 0 then (if ¬ p2 = 0 then (bfX10_ask_0_37 x S9 p1 0) else (bfX10_ask_0_37 x S9 p1 1)) else (bfX10_ask_0_17 x S9))))
def gfX10_ask_0 (x : XT) (S : ST) (p1 : Int32) (p2 : Int32) : Option (Int32 × ST) := bfX10_ask_0_0 x S p1 p2
def bfJ7_fill_d0a16_82_6 (x : XT) (k6 : ST → Int64 → Int32 → Int32 → Option (Unit × ST)) (S : ST) (v1 : Int64) (v3 : Int32) (v4 : Int32) : Option (Unit × ST) :=
  if v4 ≤ v3 then (some ((), S)) else (bif inb v3 20 then (k6 (S.1, S.2.1, (u2 S.2.2.1 82 v3.toNatClampNeg v1), S.2.2.2) v1 (v3 + 1) v4) else none)
def lfJ7_fill_d0a16_82_6 (x : XT)  : Nat → ST → Int64 → Int32 → Int32 → Option (Unit × ST)
  | 0, _, _, _, _ => none
  | n + 1, S, v1, v3, v4 => bfJ7_fill_d0a16_82_6 x (lfJ7_fill_d0a16_82_6 x  n) S v1 v3 v4
def bfJ7_fill_d0a16_82_0 (x : XT)  (S : ST) (p1 : Int64) : Option (Unit × ST) :=
  lfJ7_fill_d0a16_82_6 x  20000 S p1 0 20
def gfJ7_fill_d0a16_82 (x : XT) (S : ST) (p1 : Int64) : Option (Unit × ST) := bfJ7_fill_d0a16_82_0 x S p1
def bfX3_fewerBitten_80_134 (x : XT)  (S : ST) (v4 : Int64) : Option (Int64 × ST) :=
  some (v4, S)
def bfX3_fewerBitten_80_103 (x : XT) (k103 : ST → Int32 → Int64 → Int32 → Option (Int64 × ST)) (S : ST) (v2 : Int32) (v4 : Int64) (v6 : Int32) : Option (Int64 × ST) :=
  if v2 ≤ v6 then (bfX3_fewerBitten_80_134 x S v4) else (if 20 ≤ v6 then (bfX3_fewerBitten_80_134 x S v4) else (bif inb v6 20 then (k103 S v2 (v4 + (S.2.2.1 82 v6.toNatClampNeg)) (v6 + 1)) else none))
def lfX3_fewerBitten_80_103 (x : XT)  : Nat → ST → Int32 → Int64 → Int32 → Option (Int64 × ST)
  | 0, _, _, _, _ => none
  | n + 1, S, v2, v4, v6 => bfX3_fewerBitten_80_103 x (lfX3_fewerBitten_80_103 x  n) S v2 v4 v6
def bfX3_fewerBitten_80_83 (x : XT) (k20 : ST → Int32 → Int32 → Int32 → Int32 → Option (Int64 × ST)) (k30 : ST → Int32 → Int32 → Int32 → Int32 → Int32 → Option (Int64 × ST)) (S : ST) (v1 : Int32) (v2 : Int32) (v3 : Int32) (v4 : Int32) (v5 : Int32) (t1 : Int32) (t2 : Int64) (t3 : Int64) : Option (Int64 × ST) :=
  bif inb t1 20 then (k30 (S.1, S.2.1, (u2 S.2.2.1 82 t1.toNatClampNeg (t2 + t3)), S.2.2.2) v1 v2 v3 v4 (v5 + (-1))) else none
def bfX3_fewerBitten_80_30 (x : XT) (k20 : ST → Int32 → Int32 → Int32 → Int32 → Option (Int64 × ST)) (k30 : ST → Int32 → Int32 → Int32 → Int32 → Int32 → Option (Int64 × ST)) (S : ST) (v1 : Int32) (v2 : Int32) (v3 : Int32) (v4 : Int32) (v5 : Int32) : Option (Int64 × ST) :=
  if v5 < 0 then (k20 S v1 v2 v3 (v4 + 1)) else (bif inb v5 20 then (if v5 ≤ 0 then (bfX3_fewerBitten_80_83 x k20 k30 S v1 v2 v3 v4 v5 v5 (((S.2.2.1 82 v5.toNatClampNeg) * ((10 - v1).toInt64)) / 10) 0) else (bif inb (v5 - 1) 20 then (bfX3_fewerBitten_80_83 x k20 k30 S v1 v2 v3 v4 v5 v5 (((S.2.2.1 82 v5.toNatClampNeg) * ((10 - v1).toInt64)) / 10) (((S.2.2.1 82 ((v5 - 1).toNatClampNeg)) * v1.toInt64) / 10)) else none)) else none)
def lfX3_fewerBitten_80_30 (x : XT) (k20 : ST → Int32 → Int32 → Int32 → Int32 → Option (Int64 × ST)) : Nat → ST → Int32 → Int32 → Int32 → Int32 → Int32 → Option (Int64 × ST)
  | 0, _, _, _, _, _, _ => none
  | n + 1, S, v1, v2, v3, v4, v5 => bfX3_fewerBitten_80_30 x k20 (lfX3_fewerBitten_80_30 x k20 n) S v1 v2 v3 v4 v5
def bfX3_fewerBitten_80_20 (x : XT) (k20 : ST → Int32 → Int32 → Int32 → Int32 → Option (Int64 × ST)) (S : ST) (v1 : Int32) (v2 : Int32) (v3 : Int32) (v4 : Int32) : Option (Int64 × ST) :=
  if v3 ≤ v4 then (lfX3_fewerBitten_80_103 x  20000 S v2 0 0) else (lfX3_fewerBitten_80_30 x k20 20000 S v1 v2 v3 v4 19)
def lfX3_fewerBitten_80_20 (x : XT)  : Nat → ST → Int32 → Int32 → Int32 → Int32 → Option (Int64 × ST)
  | 0, _, _, _, _, _ => none
  | n + 1, S, v1, v2, v3, v4 => bfX3_fewerBitten_80_20 x (lfX3_fewerBitten_80_20 x  n) S v1 v2 v3 v4
def bfX3_fewerBitten_80_0 (x : XT)  (S : ST) (p1 : Int32) (p2 : Int32) (p3 : Int32) : Option (Int64 × ST) :=
  match gfJ7_fill_d0a16_82 x S 0 with
    | none => none
    | some (r3, S4) => (lfX3_fewerBitten_80_20 x  20000 (S4.1, S4.2.1, (u2 S4.2.2.1 82 0 1000000000000), S4.2.2.2) p1 p2 p3 0)
def gfX3_fewerBitten_80 (x : XT) (S : ST) (p1 : Int32) (p2 : Int32) (p3 : Int32) : Option (Int64 × ST) := bfX3_fewerBitten_80_0 x S p1 p2 p3
def bfX10_few_0_21 (x : XT)  (S : ST)  : Option (Int64 × ST) :=
  some ((-1), S)
def bfX10_few_0_0 (x : XT)  (S : ST) (p1 : Int32) (p2 : Int32) : Option (Int64 × ST) :=
  if p1 < 1 then (bfX10_few_0_21 x S) else (if 20 < p1 then (bfX10_few_0_21 x S) else (if p2 < 0 then (bfX10_few_0_21 x S) else (if p2 ≤ 99 then (match gfX3_fewerBitten_80 x S (S.2.1 14 1) p1 p2 with
    | none => none
    | some (r7, S8) => (some (r7, S8))) else (bfX10_few_0_21 x S))))
def gfX10_few_0 (x : XT) (S : ST) (p1 : Int32) (p2 : Int32) : Option (Int64 × ST) := bfX10_few_0_0 x S p1 p2
def bfX6_tryLaw_54_0 (x : XT)  (S : ST) (p1 : Int32) : Option (Unit × ST) :=
  some ((), ((u2 S.1 55 18 p1), S.2.1, S.2.2.1, S.2.2.2))
def gfX6_tryLaw_54 (x : XT) (S : ST) (p1 : Int32) : Option (Unit × ST) := bfX6_tryLaw_54_0 x S p1
def bfX10_compare_0_27 (x : XT)  (S : ST)  : Option (Int32 × ST) :=
  some ((-1), S)
def bfX10_compare_0_16 (x : XT)  (S : ST) (v1 : Int32) (v2 : Int32) (v3 : Int32) (v4 : Int32) : Option (Int32 × ST) :=
  match gfX10_canSeek_0 x S v2 v3 v4 with
    | none => none
    | some (r3, S4) => (if ¬ r3 = 0 then (match gfX6_begin_54_1 x S4 v2 with
    | none => none
    | some (r8, S9) => (match gfX6_tryLaw_54 x S9 v1 with
    | none => none
    | some (r12, S13) => (match gfX6_wayLength_54 x S13 v3 v4 with
    | none => none
    | some (r16, S17) => (some (r16, S17))))) else (bfX10_compare_0_27 x S4))
def bfX10_compare_0_0 (x : XT)  (S : ST) (p1 : Int32) (p2 : Int32) (p3 : Int32) (p4 : Int32) : Option (Int32 × ST) :=
  if p1 = (-1) then (bfX10_compare_0_16 x S p1 p2 p3 p4) else (match gfX7_hasLaw_1 x S p1 with
    | none => none
    | some (r4, S5) => (if r4 = 0 then (bfX10_compare_0_27 x S5) else (bfX10_compare_0_16 x S5 p1 p2 p3 p4)))
def gfX10_compare_0 (x : XT) (S : ST) (p1 : Int32) (p2 : Int32) (p3 : Int32) (p4 : Int32) : Option (Int32 × ST) := bfX10_compare_0_0 x S p1 p2 p3 p4
def bfX2_draw_83_33 (x : XT)  (S : ST) (t0 : Int32) : Option (Int32 × ST) :=
  some (t0, S)
def bfX2_draw_83_0 (x : XT)  (S : ST) (p1 : Int32) : Option (Int32 × ST) :=
  if p1 ≤ 0 then (bfX2_draw_83_33 x ((u2 S.1 83 2 ((((S.1 83 2) * 1103) + 12345) - (((S.1 83 2) * 1103) + 12345) / 1000003 * 1000003)), S.2.1, S.2.2.1, S.2.2.2) (-1)) else (bif nzi p1 then (bfX2_draw_83_33 x ((u2 S.1 83 2 ((((S.1 83 2) * 1103) + 12345) - (((S.1 83 2) * 1103) + 12345) / 1000003 * 1000003)), S.2.1, S.2.2.1, S.2.2.2) (((((S.1 83 2) * 1103) + 12345) - (((S.1 83 2) * 1103) + 12345) / 1000003 * 1000003) - ((((S.1 83 2) * 1103) + 12345) - (((S.1 83 2) * 1103) + 12345) / 1000003 * 1000003) / p1 * p1)) else none)
def gfX2_draw_83 (x : XT) (S : ST) (p1 : Int32) : Option (Int32 × ST) := bfX2_draw_83_0 x S p1
def bfX7_hasGoer_84_17 (x : XT)  (S : ST) (t0 : Int32) : Option (Int32 × ST) :=
  bif bbz t0 then (some (t0, S)) else none
def bfX7_hasGoer_84_16 (x : XT)  (S : ST)  : Option (Int32 × ST) :=
  bfX7_hasGoer_84_17 x S 0
def bfX7_hasGoer_84_0 (x : XT)  (S : ST) (p1 : Int32) : Option (Int32 × ST) :=
  if p1 < 0 then (bfX7_hasGoer_84_16 x S) else (if (S.1 84 6) ≤ p1 then (bfX7_hasGoer_84_16 x S) else (bfX7_hasGoer_84_17 x S 1))
def gfX7_hasGoer_84 (x : XT) (S : ST) (p1 : Int32) : Option (Int32 × ST) := bfX7_hasGoer_84_0 x S p1
def bfX7_hasGate_84_17 (x : XT)  (S : ST) (t0 : Int32) : Option (Int32 × ST) :=
  bif bbz t0 then (some (t0, S)) else none
def bfX7_hasGate_84_16 (x : XT)  (S : ST)  : Option (Int32 × ST) :=
  bfX7_hasGate_84_17 x S 0
def bfX7_hasGate_84_0 (x : XT)  (S : ST) (p1 : Int32) : Option (Int32 × ST) :=
  if p1 < 0 then (bfX7_hasGate_84_16 x S) else (if (S.1 84 0) ≤ p1 then (bfX7_hasGate_84_16 x S) else (bfX7_hasGate_84_17 x S 1))
def gfX7_hasGate_84 (x : XT) (S : ST) (p1 : Int32) : Option (Int32 × ST) := bfX7_hasGate_84_0 x S p1
def bfX0_regardUnknown_20_84_0 (x : XT)  (S : ST) (p2 : Int32) (p3 : Int32) (p4 : Int32) : Option (Unit × ST) :=
  some ((), (S.1, (u2 (u2 (u2 (u2 (u2 (u2 (u2 (u2 S.2.1 21 0 p2) 21 1 p3) 21 2 p4) 21 3 0) 21 4 (-1)) 21 5 (-1)) 21 6 (S.2.1 97 0)) 21 7 (S.2.1 97 2)), S.2.2.1, S.2.2.2))
def gfX0_regardUnknown_20_84 (x : XT) (S : ST) (p2 : Int32) (p3 : Int32) (p4 : Int32) : Option (Unit × ST) := bfX0_regardUnknown_20_84_0 x S p2 p3 p4
def bfX0_regard_20_84_0 (x : XT)  (S : ST) (p2 : Int32) (p3 : Int32) (p4 : Int32) : Option (Unit × ST) :=
  bif inb p3 10 then (bif inb p3 10 then (match gfX0_regardUnknown_20_84 x S (S.2.1 87 p3.toNatClampNeg) (S.2.1 88 p3.toNatClampNeg) p4 with
    | none => none
    | some (r5, S6) => (bif inb p2 5 then (some ((), (S6.1, (u2 (u2 (u2 S6.2.1 21 3 (S6.2.1 92 p2.toNatClampNeg)) 21 4 p3) 21 5 p2), S6.2.2.1, S6.2.2.2))) else none)) else none) else none
def gfX0_regard_20_84 (x : XT) (S : ST) (p2 : Int32) (p3 : Int32) (p4 : Int32) : Option (Unit × ST) := bfX0_regard_20_84_0 x S p2 p3 p4
def bfX7_hasLaw_84_17 (x : XT)  (S : ST) (t0 : Int32) : Option (Int32 × ST) :=
  bif bbz t0 then (some (t0, S)) else none
def bfX7_hasLaw_84_16 (x : XT)  (S : ST)  : Option (Int32 × ST) :=
  bfX7_hasLaw_84_17 x S 0
def bfX7_hasLaw_84_0 (x : XT)  (S : ST) (p1 : Int32) : Option (Int32 × ST) :=
  if p1 < 0 then (bfX7_hasLaw_84_16 x S) else (if (S.1 84 16) ≤ p1 then (bfX7_hasLaw_84_16 x S) else (bfX7_hasLaw_84_17 x S 1))
def gfX7_hasLaw_84 (x : XT) (S : ST) (p1 : Int32) : Option (Int32 × ST) := bfX7_hasLaw_84_0 x S p1
def bfX7_inForce_84_24 (x : XT)  (S : ST) (t0 : Option Nat) : Option (Option Nat × ST) :=
  some (t0, S)
def bfX7_inForce_84_0 (x : XT)  (S : ST)  : Option (Option Nat × ST) :=
  match gfX7_hasLaw_84 x S (S.1 84 18) with
    | none => none
    | some (r3, S4) => (if r3 = 0 then (bfX7_inForce_84_24 x S4 none) else (bif inb (S4.1 84 18) 6 then (bfX7_inForce_84_24 x S4 (S4.2.2.2 98 ((S4.1 84 18).toNatClampNeg))) else none))
def gfX7_inForce_84 (x : XT) (S : ST)  : Option (Option Nat × ST) := bfX7_inForce_84_0 x S 
def bfX0_told_20_84_171 (x : XT)  (S : ST) (t0 : Int32) : Option (Int32 × ST) :=
  some (t0, S)
def bfX0_told_20_84_192 (x : XT)  (S : ST) (t0 : Int32) : Option (Int32 × ST) :=
  some (t0, S)
def bfX0_told_20_84_204 (x : XT)  (S : ST) (t0 : Int32) : Option (Int32 × ST) :=
  some (t0, S)
def bfX0_told_20_84_111 (x : XT)  (S : ST) (v2 : Int32) (v3 : Int32) : Option (Int32 × ST) :=
  if v2 = 260 then (if ¬ v3 = (-2000000000) then (bfX0_told_20_84_171 x S (if 0 < (if 19 < v3 then 19 else v3) then (if 19 < v3 then 19 else v3) else 0)) else (bfX0_told_20_84_171 x S (if ((S.2.1 21 2) - 1) < 0 then 0 else ((S.2.1 21 2) - 1)))) else (if v2 = 261 then (if ¬ v3 = (-2000000000) then (bfX0_told_20_84_192 x S (if 0 < (if 9 < v3 then 9 else v3) then (if 9 < v3 then 9 else v3) else 0)) else (bfX0_told_20_84_192 x S 1)) else (if ¬ v3 = (-2000000000) then (bfX0_told_20_84_204 x S 1) else (bfX0_told_20_84_204 x S 0)))
def bfX0_told_20_84_105 (x : XT) (k23 : ST → Int32 → Int32 → Nat → Int32 → Option (Int32 × ST)) (S : ST) (v2 : Int32) (v3 : Int32) (v4 : Nat) (v5 : Int32) : Option (Int32 × ST) :=
  bif tx x v4 then (k23 S v2 v3 v4 (v5 + (-1))) else none
def bfX0_told_20_84_104 (x : XT) (k23 : ST → Int32 → Int32 → Nat → Int32 → Option (Int32 × ST)) (S : ST) (v2 : Int32) (v4 : Nat) (v5 : Int32) (t0 : Int32) : Option (Int32 × ST) :=
  bif tx x v4 then (bfX0_told_20_84_105 x k23 S v2 t0 v4 v5) else none
def bfX0_told_20_84_77 (x : XT) (k23 : ST → Int32 → Int32 → Nat → Int32 → Option (Int32 × ST)) (S : ST) (v2 : Int32) (v4 : Nat) (v5 : Int32) : Option (Int32 × ST) :=
  bif tx x v4 then (if ¬ v2 = 262 then (match gfX9_reckon_T_21_22 x S v4 v5 0 with
    | none => none
    | some (r5, S6) => (bfX0_told_20_84_104 x k23 S6 v2 v4 v5 r5)) else (bfX0_told_20_84_104 x k23 S v2 v4 v5 1)) else none
def bfX0_told_20_84_23 (x : XT) (k23 : ST → Int32 → Int32 → Nat → Int32 → Option (Int32 × ST)) (S : ST) (v2 : Int32) (v3 : Int32) (v4 : Nat) (v5 : Int32) : Option (Int32 × ST) :=
  bif tx x v4 then (if v5 < 0 then (bfX0_told_20_84_111 x S v2 v3) else (if ¬ v3 = (-2000000000) then (bfX0_told_20_84_111 x S v2 v3) else (bif inb v5 (mL x (v4 + 1)) then (if ¬ (S.2.1 (v4 + 1) v5.toNatClampNeg) = v2 then (bfX0_told_20_84_105 x k23 S v2 v3 v4 v5) else (match gfX9_has_T x S v4 v5 2 with
    | none => none
    | some (r8, S9) => (if r8 = 0 then (bfX0_told_20_84_77 x k23 S9 v2 v4 v5) else (match gfX9_reckon_T_21_22 x S9 v4 v5 2 with
    | none => none
    | some (r13, S14) => (if ¬ r13 = 1 then (bfX0_told_20_84_105 x k23 S14 v2 v3 v4 v5) else (bfX0_told_20_84_77 x k23 S14 v2 v4 v5)))))) else none))) else none
def lfX0_told_20_84_23 (x : XT)  : Nat → ST → Int32 → Int32 → Nat → Int32 → Option (Int32 × ST)
  | 0, _, _, _, _, _ => none
  | n + 1, S, v2, v3, v4, v5 => bfX0_told_20_84_23 x (lfX0_told_20_84_23 x  n) S v2 v3 v4 v5
def bfX0_told_20_84_0 (x : XT)  (S : ST) (p2 : Int32) : Option (Int32 × ST) :=
  match gfX7_inForce_84 x S with
    | none => none
    | some (r3, S4) => (match r3 with
    | none => (bfX0_told_20_84_111 x S4 p2 (-2000000000))
    | some t5 => bif tx x t5 then (lfX0_told_20_84_23 x  20000 S4 p2 (-2000000000) t5 ((S4.1 t5 0) - 1)) else none)
def gfX0_told_20_84 (x : XT) (S : ST) (p2 : Int32) : Option (Int32 × ST) := bfX0_told_20_84_0 x S p2
def bfX0_can_20_84_24 (x : XT)  (S : ST)  : Option (Int32 × ST) :=
  some (0, S)
def bfX0_can_20_84_55 (x : XT)  (S : ST) (t0 : Int32) : Option (Int32 × ST) :=
  bif bbz t0 then (some (t0, S)) else none
def bfX0_can_20_84_0 (x : XT)  (S : ST) (p2 : Int32) (p3 : Int32) : Option (Int32 × ST) :=
  bif inb p2 5 then (bif inb p3 10 then (if ¬ (S.2.1 90 p2.toNatClampNeg) = (S.2.1 85 p3.toNatClampNeg) then (bfX0_can_20_84_24 x S) else (bif inb p3 10 then (if ¬ (S.2.1 89 p3.toNatClampNeg) = 0 then (bif inb p2 5 then (match gfX0_regard_20_84 x S p2 p3 (S.2.1 91 p2.toNatClampNeg) with
    | none => none
    | some (r9, S10) => (match gfX0_told_20_84 x S10 262 with
    | none => none
    | some (r13, S14) => (if ¬ r13 = 0 then (bfX0_can_20_84_55 x S14 0) else (bfX0_can_20_84_55 x S14 1)))) else none) else (bfX0_can_20_84_24 x S)) else none)) else none) else none
def gfX0_can_20_84 (x : XT) (S : ST) (p2 : Int32) (p3 : Int32) : Option (Int32 × ST) := bfX0_can_20_84_0 x S p2 p3
def bfX0_move_20_84_0 (x : XT)  (S : ST) (p2 : Int32) (p3 : Int32) : Option (Unit × ST) :=
  bif inb p2 5 then (match gfX0_regard_20_84 x S p2 p3 (S.2.1 91 p2.toNatClampNeg) with
    | none => none
    | some (r4, S5) => (match gfX0_told_20_84 x S5 260 with
    | none => none
    | some (r8, S9) => (match gfX0_told_20_84 x S9 261 with
    | none => none
    | some (r12, S13) => (bif inb p3 10 then (bif inb p2 5 then (bif inb p2 5 then (bif inb p2 5 then (bif inb p2 5 then (some ((), (S13.1, (u2 (u2 (u2 S13.2.1 90 p2.toNatClampNeg (S13.2.1 86 p3.toNatClampNeg)) 91 p2.toNatClampNeg r8) 93 p2.toNatClampNeg (if 9999 < ((S13.2.1 93 p2.toNatClampNeg) + r12) then 9999 else ((S13.2.1 93 p2.toNatClampNeg) + r12))), S13.2.2.1, S13.2.2.2))) else none) else none) else none) else none) else none)))) else none
def gfX0_move_20_84 (x : XT) (S : ST) (p2 : Int32) (p3 : Int32) : Option (Unit × ST) := bfX0_move_20_84_0 x S p2 p3
def bfX7_copyFrom_84_1_252 (x : XT) (k252 : ST → Int32 → Option (Unit × ST)) (S : ST) (v2 : Int32) : Option (Unit × ST) :=
  if 6 ≤ v2 then (some ((), S)) else (bif inb v2 6 then (bif inb v2 6 then (bif qk x (S.2.2.2 15 v2.toNatClampNeg) then (k252 (S.1, S.2.1, S.2.2.1, (u2 S.2.2.2 98 v2.toNatClampNeg (S.2.2.2 15 v2.toNatClampNeg))) (v2 + 1)) else none) else none) else none)
def lfX7_copyFrom_84_1_252 (x : XT)  : Nat → ST → Int32 → Option (Unit × ST)
  | 0, _, _ => none
  | n + 1, S, v2 => bfX7_copyFrom_84_1_252 x (lfX7_copyFrom_84_1_252 x  n) S v2
def bfX7_copyFrom_84_1_227 (x : XT) (k227 : ST → Int32 → Option (Unit × ST)) (S : ST) (v2 : Int32) : Option (Unit × ST) :=
  if 3 ≤ v2 then (lfX7_copyFrom_84_1_252 x  20000 S 0) else (bif inb v2 3 then (bif inb v2 3 then (k227 (S.1, (u2 S.2.1 97 v2.toNatClampNeg (S.2.1 14 v2.toNatClampNeg)), S.2.2.1, S.2.2.2) (v2 + 1)) else none) else none)
def lfX7_copyFrom_84_1_227 (x : XT)  : Nat → ST → Int32 → Option (Unit × ST)
  | 0, _, _ => none
  | n + 1, S, v2 => bfX7_copyFrom_84_1_227 x (lfX7_copyFrom_84_1_227 x  n) S v2
def bfX7_copyFrom_84_1_177 (x : XT) (k177 : ST → Int32 → Option (Unit × ST)) (S : ST) (v2 : Int32) : Option (Unit × ST) :=
  if 6 ≤ v2 then (lfX7_copyFrom_84_1_227 x  20000 S 0) else (bif inb v2 6 then (bif inb v2 6 then (bif inb v2 6 then (bif inb v2 6 then (bif inb v2 6 then (bif inb v2 6 then (k177 (S.1, (u2 (u2 (u2 S.2.1 94 v2.toNatClampNeg (S.2.1 11 v2.toNatClampNeg)) 95 v2.toNatClampNeg (S.2.1 12 v2.toNatClampNeg)) 96 v2.toNatClampNeg (S.2.1 13 v2.toNatClampNeg)), S.2.2.1, S.2.2.2) (v2 + 1)) else none) else none) else none) else none) else none) else none)
def lfX7_copyFrom_84_1_177 (x : XT)  : Nat → ST → Int32 → Option (Unit × ST)
  | 0, _, _ => none
  | n + 1, S, v2 => bfX7_copyFrom_84_1_177 x (lfX7_copyFrom_84_1_177 x  n) S v2
def bfX7_copyFrom_84_1_116 (x : XT) (k116 : ST → Int32 → Option (Unit × ST)) (S : ST) (v2 : Int32) : Option (Unit × ST) :=
  if 5 ≤ v2 then (lfX7_copyFrom_84_1_177 x  20000 S 0) else (bif inb v2 5 then (bif inb v2 5 then (bif inb v2 5 then (bif inb v2 5 then (bif inb v2 5 then (bif inb v2 5 then (bif inb v2 5 then (bif inb v2 5 then (k116 (S.1, (u2 (u2 (u2 (u2 S.2.1 90 v2.toNatClampNeg (S.2.1 7 v2.toNatClampNeg)) 91 v2.toNatClampNeg (S.2.1 8 v2.toNatClampNeg)) 92 v2.toNatClampNeg (S.2.1 9 v2.toNatClampNeg)) 93 v2.toNatClampNeg (S.2.1 10 v2.toNatClampNeg)), S.2.2.1, S.2.2.2) (v2 + 1)) else none) else none) else none) else none) else none) else none) else none) else none)
def lfX7_copyFrom_84_1_116 (x : XT)  : Nat → ST → Int32 → Option (Unit × ST)
  | 0, _, _ => none
  | n + 1, S, v2 => bfX7_copyFrom_84_1_116 x (lfX7_copyFrom_84_1_116 x  n) S v2
def bfX7_copyFrom_84_1_42 (x : XT) (k42 : ST → Int32 → Option (Unit × ST)) (S : ST) (v2 : Int32) : Option (Unit × ST) :=
  if 10 ≤ v2 then (lfX7_copyFrom_84_1_116 x  20000 S 0) else (bif inb v2 10 then (bif inb v2 10 then (bif inb v2 10 then (bif inb v2 10 then (bif inb v2 10 then (bif inb v2 10 then (bif inb v2 10 then (bif inb v2 10 then (bif inb v2 10 then (bif inb v2 10 then (k42 (S.1, (u2 (u2 (u2 (u2 (u2 S.2.1 85 v2.toNatClampNeg (S.2.1 2 v2.toNatClampNeg)) 86 v2.toNatClampNeg (S.2.1 3 v2.toNatClampNeg)) 87 v2.toNatClampNeg (S.2.1 4 v2.toNatClampNeg)) 88 v2.toNatClampNeg (S.2.1 5 v2.toNatClampNeg)) 89 v2.toNatClampNeg (vp_nar .boolean (S.2.1 6 v2.toNatClampNeg))), S.2.2.1, S.2.2.2) (v2 + 1)) else none) else none) else none) else none) else none) else none) else none) else none) else none) else none)
def lfX7_copyFrom_84_1_42 (x : XT)  : Nat → ST → Int32 → Option (Unit × ST)
  | 0, _, _ => none
  | n + 1, S, v2 => bfX7_copyFrom_84_1_42 x (lfX7_copyFrom_84_1_42 x  n) S v2
def bfX7_copyFrom_84_1_0 (x : XT)  (S : ST)  : Option (Unit × ST) :=
  lfX7_copyFrom_84_1_42 x  20000 ((u2 (u2 (u2 (u2 (u2 S.1 84 0 (S.1 1 0)) 84 6 (S.1 1 6)) 84 11 (S.1 1 11)) 84 16 (S.1 1 16)) 84 18 (S.1 1 18)), S.2.1, S.2.2.1, S.2.2.2) 0
def gfX7_copyFrom_84_1 (x : XT) (S : ST)  : Option (Unit × ST) := bfX7_copyFrom_84_1_0 x S 
def bfX2_run_83_1_145 (x : XT)  (S : ST) (v4 : Int32) : Option (Int32 × ST) :=
  some (v4, S)
def bfX2_run_83_1_126 (x : XT) (k19 : ST → Int32 → Int32 → Int32 → Option (Int32 × ST)) (S : ST) (v3 : Int32) (v4 : Int32) (v5 : Int32) : Option (Int32 × ST) :=
  k19 (S.1, (u2 S.2.1 97 0 ((S.2.1 97 0) + 1)), S.2.2.1, S.2.2.2) v3 v4 (v5 + 1)
def bfX2_run_83_1_19 (x : XT) (k19 : ST → Int32 → Int32 → Int32 → Option (Int32 × ST)) (S : ST) (v3 : Int32) (v4 : Int32) (v5 : Int32) : Option (Int32 × ST) :=
  if v3 ≤ v5 then (bfX2_run_83_1_145 x S v4) else (if 999 ≤ (S.2.1 97 0) then (bfX2_run_83_1_145 x S v4) else (match gfX2_draw_83 x S (S.1 84 6) with
    | none => none
    | some (r5, S6) => (match gfX2_draw_83 x S6 (S6.1 84 0) with
    | none => none
    | some (r9, S10) => (match gfX7_hasGoer_84 x S10 r5 with
    | none => none
    | some (r13, S14) => (if r13 = 0 then (bfX2_run_83_1_126 x k19 S14 v3 v4 v5) else (match gfX7_hasGate_84 x S14 r9 with
    | none => none
    | some (r18, S19) => (if r18 = 0 then (bfX2_run_83_1_126 x k19 S19 v3 v4 v5) else (match gfX0_can_20_84 x S19 r5 r9 with
    | none => none
    | some (r23, S24) => (if r23 = 0 then (bfX2_run_83_1_126 x k19 S24 v3 v4 v5) else (match gfX0_move_20_84 x S24 r5 r9 with
    | none => none
    | some (r28, S29) => (bfX2_run_83_1_126 x k19 S29 v3 (v4 + 1) v5)))))))))))
def lfX2_run_83_1_19 (x : XT)  : Nat → ST → Int32 → Int32 → Int32 → Option (Int32 × ST)
  | 0, _, _, _, _ => none
  | n + 1, S, v3, v4, v5 => bfX2_run_83_1_19 x (lfX2_run_83_1_19 x  n) S v3 v4 v5
def bfX2_run_83_1_0 (x : XT)  (S : ST) (p2 : Int32) (p3 : Int32) : Option (Int32 × ST) :=
  match gfX7_copyFrom_84_1 x S with
    | none => none
    | some (r3, S4) => (lfX2_run_83_1_19 x  20000 ((u2 S4.1 83 2 p2), S4.2.1, S4.2.2.1, S4.2.2.2) p3 0 0)
def gfX2_run_83_1 (x : XT) (S : ST) (p2 : Int32) (p3 : Int32) : Option (Int32 × ST) := bfX2_run_83_1_0 x S p2 p3
def bfX10_days_0_21 (x : XT)  (S : ST)  : Option (Int32 × ST) :=
  match gfX10_told_0 x S (-1) with
    | none => none
    | some (r3, S4) => (some (r3, S4))
def bfX10_days_0_47 (x : XT)  (S : ST)  : Option (Int32 × ST) :=
  match gfX10_told_0 x S (-3) with
    | none => none
    | some (r3, S4) => (some (r3, S4))
def bfX10_days_0_0 (x : XT)  (S : ST) (p1 : Int32) (p2 : Int32) : Option (Int32 × ST) :=
  match gfX10_within x S p1 1000001 with
    | none => none
    | some (r3, S4) => (if r3 = 0 then (bfX10_days_0_21 x S4) else (if p2 < 1 then (bfX10_days_0_21 x S4) else (if p2 ≤ 60 then (if (S4.1 1 6) = 0 then (bfX10_days_0_47 x S4) else (if ¬ (S4.1 1 0) = 0 then (match gfX2_run_83_1 x S4 p1 p2 with
    | none => none
    | some (r12, S13) => (match gfX10_told_0 x S13 r12 with
    | none => none
    | some (r16, S17) => (some (r16, S17)))) else (bfX10_days_0_47 x S4))) else (bfX10_days_0_21 x S4))))
def gfX10_days_0 (x : XT) (S : ST) (p1 : Int32) (p2 : Int32) : Option (Int32 × ST) := bfX10_days_0_0 x S p1 p2
def bfX2_behind_83_0 (x : XT)  (S : ST) (p1 : Int32) (p2 : Int32) : Option (Int32 × ST) :=
  match gfX7_hasGoer_84 x S p1 with
    | none => none
    | some (r3, S4) => (if ¬ r3 = 0 then (if p2 = 0 then (bif inb p1 5 then (some ((S4.2.1 90 p1.toNatClampNeg), S4)) else none) else (if p2 = 1 then (bif inb p1 5 then (some ((S4.2.1 91 p1.toNatClampNeg), S4)) else none) else (if p2 = 2 then (bif inb p1 5 then (some ((S4.2.1 93 p1.toNatClampNeg), S4)) else none) else (some ((-1), S4))))) else (some ((-1), S4)))
def gfX2_behind_83 (x : XT) (S : ST) (p1 : Int32) (p2 : Int32) : Option (Int32 × ST) := bfX2_behind_83_0 x S p1 p2
def bfX10_drawn_0_0 (x : XT)  (S : ST) (p1 : Int32) (p2 : Int32) : Option (Int32 × ST) :=
  match gfX2_behind_83 x S p1 p2 with
    | none => none
    | some (r3, S4) => (some (r3, S4))
def gfX10_drawn_0 (x : XT) (S : ST) (p1 : Int32) (p2 : Int32) : Option (Int32 × ST) := bfX10_drawn_0_0 x S p1 p2
def bfX7_copyFrom_100_1_252 (x : XT) (k252 : ST → Int32 → Option (Unit × ST)) (S : ST) (v2 : Int32) : Option (Unit × ST) :=
  if 6 ≤ v2 then (some ((), S)) else (bif inb v2 6 then (bif inb v2 6 then (bif qk x (S.2.2.2 15 v2.toNatClampNeg) then (k252 (S.1, S.2.1, S.2.2.1, (u2 S.2.2.2 114 v2.toNatClampNeg (S.2.2.2 15 v2.toNatClampNeg))) (v2 + 1)) else none) else none) else none)
def lfX7_copyFrom_100_1_252 (x : XT)  : Nat → ST → Int32 → Option (Unit × ST)
  | 0, _, _ => none
  | n + 1, S, v2 => bfX7_copyFrom_100_1_252 x (lfX7_copyFrom_100_1_252 x  n) S v2
def bfX7_copyFrom_100_1_227 (x : XT) (k227 : ST → Int32 → Option (Unit × ST)) (S : ST) (v2 : Int32) : Option (Unit × ST) :=
  if 3 ≤ v2 then (lfX7_copyFrom_100_1_252 x  20000 S 0) else (bif inb v2 3 then (bif inb v2 3 then (k227 (S.1, (u2 S.2.1 113 v2.toNatClampNeg (S.2.1 14 v2.toNatClampNeg)), S.2.2.1, S.2.2.2) (v2 + 1)) else none) else none)
def lfX7_copyFrom_100_1_227 (x : XT)  : Nat → ST → Int32 → Option (Unit × ST)
  | 0, _, _ => none
  | n + 1, S, v2 => bfX7_copyFrom_100_1_227 x (lfX7_copyFrom_100_1_227 x  n) S v2
def bfX7_copyFrom_100_1_177 (x : XT) (k177 : ST → Int32 → Option (Unit × ST)) (S : ST) (v2 : Int32) : Option (Unit × ST) :=
  if 6 ≤ v2 then (lfX7_copyFrom_100_1_227 x  20000 S 0) else (bif inb v2 6 then (bif inb v2 6 then (bif inb v2 6 then (bif inb v2 6 then (bif inb v2 6 then (bif inb v2 6 then (k177 (S.1, (u2 (u2 (u2 S.2.1 110 v2.toNatClampNeg (S.2.1 11 v2.toNatClampNeg)) 111 v2.toNatClampNeg (S.2.1 12 v2.toNatClampNeg)) 112 v2.toNatClampNeg (S.2.1 13 v2.toNatClampNeg)), S.2.2.1, S.2.2.2) (v2 + 1)) else none) else none) else none) else none) else none) else none)
def lfX7_copyFrom_100_1_177 (x : XT)  : Nat → ST → Int32 → Option (Unit × ST)
  | 0, _, _ => none
  | n + 1, S, v2 => bfX7_copyFrom_100_1_177 x (lfX7_copyFrom_100_1_177 x  n) S v2
def bfX7_copyFrom_100_1_116 (x : XT) (k116 : ST → Int32 → Option (Unit × ST)) (S : ST) (v2 : Int32) : Option (Unit × ST) :=
  if 5 ≤ v2 then (lfX7_copyFrom_100_1_177 x  20000 S 0) else (bif inb v2 5 then (bif inb v2 5 then (bif inb v2 5 then (bif inb v2 5 then (bif inb v2 5 then (bif inb v2 5 then (bif inb v2 5 then (bif inb v2 5 then (k116 (S.1, (u2 (u2 (u2 (u2 S.2.1 106 v2.toNatClampNeg (S.2.1 7 v2.toNatClampNeg)) 107 v2.toNatClampNeg (S.2.1 8 v2.toNatClampNeg)) 108 v2.toNatClampNeg (S.2.1 9 v2.toNatClampNeg)) 109 v2.toNatClampNeg (S.2.1 10 v2.toNatClampNeg)), S.2.2.1, S.2.2.2) (v2 + 1)) else none) else none) else none) else none) else none) else none) else none) else none)
def lfX7_copyFrom_100_1_116 (x : XT)  : Nat → ST → Int32 → Option (Unit × ST)
  | 0, _, _ => none
  | n + 1, S, v2 => bfX7_copyFrom_100_1_116 x (lfX7_copyFrom_100_1_116 x  n) S v2
def bfX7_copyFrom_100_1_42 (x : XT) (k42 : ST → Int32 → Option (Unit × ST)) (S : ST) (v2 : Int32) : Option (Unit × ST) :=
  if 10 ≤ v2 then (lfX7_copyFrom_100_1_116 x  20000 S 0) else (bif inb v2 10 then (bif inb v2 10 then (bif inb v2 10 then (bif inb v2 10 then (bif inb v2 10 then (bif inb v2 10 then (bif inb v2 10 then (bif inb v2 10 then (bif inb v2 10 then (bif inb v2 10 then (k42 (S.1, (u2 (u2 (u2 (u2 (u2 S.2.1 101 v2.toNatClampNeg (S.2.1 2 v2.toNatClampNeg)) 102 v2.toNatClampNeg (S.2.1 3 v2.toNatClampNeg)) 103 v2.toNatClampNeg (S.2.1 4 v2.toNatClampNeg)) 104 v2.toNatClampNeg (S.2.1 5 v2.toNatClampNeg)) 105 v2.toNatClampNeg (vp_nar .boolean (S.2.1 6 v2.toNatClampNeg))), S.2.2.1, S.2.2.2) (v2 + 1)) else none) else none) else none) else none) else none) else none) else none) else none) else none) else none)
def lfX7_copyFrom_100_1_42 (x : XT)  : Nat → ST → Int32 → Option (Unit × ST)
  | 0, _, _ => none
  | n + 1, S, v2 => bfX7_copyFrom_100_1_42 x (lfX7_copyFrom_100_1_42 x  n) S v2
def bfX7_copyFrom_100_1_0 (x : XT)  (S : ST)  : Option (Unit × ST) :=
  lfX7_copyFrom_100_1_42 x  20000 ((u2 (u2 (u2 (u2 (u2 S.1 100 0 (S.1 1 0)) 100 6 (S.1 1 6)) 100 11 (S.1 1 11)) 100 16 (S.1 1 16)) 100 18 (S.1 1 18)), S.2.1, S.2.2.1, S.2.2.2) 0
def gfX7_copyFrom_100_1 (x : XT) (S : ST)  : Option (Unit × ST) := bfX7_copyFrom_100_1_0 x S 
def bfX7_copyFrom_115_1_252 (x : XT) (k252 : ST → Int32 → Option (Unit × ST)) (S : ST) (v2 : Int32) : Option (Unit × ST) :=
  if 6 ≤ v2 then (some ((), S)) else (bif inb v2 6 then (bif inb v2 6 then (bif qk x (S.2.2.2 15 v2.toNatClampNeg) then (k252 (S.1, S.2.1, S.2.2.1, (u2 S.2.2.2 129 v2.toNatClampNeg (S.2.2.2 15 v2.toNatClampNeg))) (v2 + 1)) else none) else none) else none)
def lfX7_copyFrom_115_1_252 (x : XT)  : Nat → ST → Int32 → Option (Unit × ST)
  | 0, _, _ => none
  | n + 1, S, v2 => bfX7_copyFrom_115_1_252 x (lfX7_copyFrom_115_1_252 x  n) S v2
def bfX7_copyFrom_115_1_227 (x : XT) (k227 : ST → Int32 → Option (Unit × ST)) (S : ST) (v2 : Int32) : Option (Unit × ST) :=
  if 3 ≤ v2 then (lfX7_copyFrom_115_1_252 x  20000 S 0) else (bif inb v2 3 then (bif inb v2 3 then (k227 (S.1, (u2 S.2.1 128 v2.toNatClampNeg (S.2.1 14 v2.toNatClampNeg)), S.2.2.1, S.2.2.2) (v2 + 1)) else none) else none)
def lfX7_copyFrom_115_1_227 (x : XT)  : Nat → ST → Int32 → Option (Unit × ST)
  | 0, _, _ => none
  | n + 1, S, v2 => bfX7_copyFrom_115_1_227 x (lfX7_copyFrom_115_1_227 x  n) S v2
def bfX7_copyFrom_115_1_177 (x : XT) (k177 : ST → Int32 → Option (Unit × ST)) (S : ST) (v2 : Int32) : Option (Unit × ST) :=
  if 6 ≤ v2 then (lfX7_copyFrom_115_1_227 x  20000 S 0) else (bif inb v2 6 then (bif inb v2 6 then (bif inb v2 6 then (bif inb v2 6 then (bif inb v2 6 then (bif inb v2 6 then (k177 (S.1, (u2 (u2 (u2 S.2.1 125 v2.toNatClampNeg (S.2.1 11 v2.toNatClampNeg)) 126 v2.toNatClampNeg (S.2.1 12 v2.toNatClampNeg)) 127 v2.toNatClampNeg (S.2.1 13 v2.toNatClampNeg)), S.2.2.1, S.2.2.2) (v2 + 1)) else none) else none) else none) else none) else none) else none)
def lfX7_copyFrom_115_1_177 (x : XT)  : Nat → ST → Int32 → Option (Unit × ST)
  | 0, _, _ => none
  | n + 1, S, v2 => bfX7_copyFrom_115_1_177 x (lfX7_copyFrom_115_1_177 x  n) S v2
def bfX7_copyFrom_115_1_116 (x : XT) (k116 : ST → Int32 → Option (Unit × ST)) (S : ST) (v2 : Int32) : Option (Unit × ST) :=
  if 5 ≤ v2 then (lfX7_copyFrom_115_1_177 x  20000 S 0) else (bif inb v2 5 then (bif inb v2 5 then (bif inb v2 5 then (bif inb v2 5 then (bif inb v2 5 then (bif inb v2 5 then (bif inb v2 5 then (bif inb v2 5 then (k116 (S.1, (u2 (u2 (u2 (u2 S.2.1 121 v2.toNatClampNeg (S.2.1 7 v2.toNatClampNeg)) 122 v2.toNatClampNeg (S.2.1 8 v2.toNatClampNeg)) 123 v2.toNatClampNeg (S.2.1 9 v2.toNatClampNeg)) 124 v2.toNatClampNeg (S.2.1 10 v2.toNatClampNeg)), S.2.2.1, S.2.2.2) (v2 + 1)) else none) else none) else none) else none) else none) else none) else none) else none)
def lfX7_copyFrom_115_1_116 (x : XT)  : Nat → ST → Int32 → Option (Unit × ST)
  | 0, _, _ => none
  | n + 1, S, v2 => bfX7_copyFrom_115_1_116 x (lfX7_copyFrom_115_1_116 x  n) S v2
def bfX7_copyFrom_115_1_42 (x : XT) (k42 : ST → Int32 → Option (Unit × ST)) (S : ST) (v2 : Int32) : Option (Unit × ST) :=
  if 10 ≤ v2 then (lfX7_copyFrom_115_1_116 x  20000 S 0) else (bif inb v2 10 then (bif inb v2 10 then (bif inb v2 10 then (bif inb v2 10 then (bif inb v2 10 then (bif inb v2 10 then (bif inb v2 10 then (bif inb v2 10 then (bif inb v2 10 then (bif inb v2 10 then (k42 (S.1, (u2 (u2 (u2 (u2 (u2 S.2.1 116 v2.toNatClampNeg (S.2.1 2 v2.toNatClampNeg)) 117 v2.toNatClampNeg (S.2.1 3 v2.toNatClampNeg)) 118 v2.toNatClampNeg (S.2.1 4 v2.toNatClampNeg)) 119 v2.toNatClampNeg (S.2.1 5 v2.toNatClampNeg)) 120 v2.toNatClampNeg (vp_nar .boolean (S.2.1 6 v2.toNatClampNeg))), S.2.2.1, S.2.2.2) (v2 + 1)) else none) else none) else none) else none) else none) else none) else none) else none) else none) else none)
def lfX7_copyFrom_115_1_42 (x : XT)  : Nat → ST → Int32 → Option (Unit × ST)
  | 0, _, _ => none
  | n + 1, S, v2 => bfX7_copyFrom_115_1_42 x (lfX7_copyFrom_115_1_42 x  n) S v2
def bfX7_copyFrom_115_1_0 (x : XT)  (S : ST)  : Option (Unit × ST) :=
  lfX7_copyFrom_115_1_42 x  20000 ((u2 (u2 (u2 (u2 (u2 S.1 115 0 (S.1 1 0)) 115 6 (S.1 1 6)) 115 11 (S.1 1 11)) 115 16 (S.1 1 16)) 115 18 (S.1 1 18)), S.2.1, S.2.2.1, S.2.2.2) 0
def gfX7_copyFrom_115_1 (x : XT) (S : ST)  : Option (Unit × ST) := bfX7_copyFrom_115_1_0 x S 
def bfX10_image_0_0 (x : XT)  (S : ST) (p1 : Int32) : Option (Int32 × ST) :=
  match gfX10_within x S p1 2 with
    | none => none
    | some (r3, S4) => (if ¬ r3 = 0 then (bif inb p1 2 then (if (S4.2.2.2 16 p1.toNatClampNeg) = some 100 then (match gfX7_copyFrom_100_1 x S4 with
    | none => none
    | some (r10, S11) => (bif inb p1 2 then (match gfX10_told_0 x (S11.1, (u2 S11.2.1 17 p1.toNatClampNeg (vp_nar .boolean 1)), S11.2.2.1, S11.2.2.2) 0 with
    | none => none
    | some (r15, S16) => (some (r15, S16))) else none)) else (if (S4.2.2.2 16 p1.toNatClampNeg) = some 115 then (match gfX7_copyFrom_115_1 x S4 with
    | none => none
    | some (r20, S21) => (bif inb p1 2 then (match gfX10_told_0 x (S21.1, (u2 S21.2.1 17 p1.toNatClampNeg (vp_nar .boolean 1)), S21.2.2.1, S21.2.2.2) 0 with
    | none => none
    | some (r25, S26) => (some (r25, S26))) else none)) else (none))) else none) else (match gfX10_told_0 x S4 (-1) with
    | none => none
    | some (r29, S30) => (some (r29, S30))))
def gfX10_image_0 (x : XT) (S : ST) (p1 : Int32) : Option (Int32 × ST) := bfX10_image_0_0 x S p1
def bfX7_copyFrom_1_100_252 (x : XT) (k252 : ST → Int32 → Option (Unit × ST)) (S : ST) (v2 : Int32) : Option (Unit × ST) :=
  if 6 ≤ v2 then (some ((), S)) else (bif inb v2 6 then (bif inb v2 6 then (bif qk x (S.2.2.2 114 v2.toNatClampNeg) then (k252 (S.1, S.2.1, S.2.2.1, (u2 S.2.2.2 15 v2.toNatClampNeg (S.2.2.2 114 v2.toNatClampNeg))) (v2 + 1)) else none) else none) else none)
def lfX7_copyFrom_1_100_252 (x : XT)  : Nat → ST → Int32 → Option (Unit × ST)
  | 0, _, _ => none
  | n + 1, S, v2 => bfX7_copyFrom_1_100_252 x (lfX7_copyFrom_1_100_252 x  n) S v2
def bfX7_copyFrom_1_100_227 (x : XT) (k227 : ST → Int32 → Option (Unit × ST)) (S : ST) (v2 : Int32) : Option (Unit × ST) :=
  if 3 ≤ v2 then (lfX7_copyFrom_1_100_252 x  20000 S 0) else (bif inb v2 3 then (bif inb v2 3 then (k227 (S.1, (u2 S.2.1 14 v2.toNatClampNeg (S.2.1 113 v2.toNatClampNeg)), S.2.2.1, S.2.2.2) (v2 + 1)) else none) else none)
def lfX7_copyFrom_1_100_227 (x : XT)  : Nat → ST → Int32 → Option (Unit × ST)
  | 0, _, _ => none
  | n + 1, S, v2 => bfX7_copyFrom_1_100_227 x (lfX7_copyFrom_1_100_227 x  n) S v2
def bfX7_copyFrom_1_100_177 (x : XT) (k177 : ST → Int32 → Option (Unit × ST)) (S : ST) (v2 : Int32) : Option (Unit × ST) :=
  if 6 ≤ v2 then (lfX7_copyFrom_1_100_227 x  20000 S 0) else (bif inb v2 6 then (bif inb v2 6 then (bif inb v2 6 then (bif inb v2 6 then (bif inb v2 6 then (bif inb v2 6 then (k177 (S.1, (u2 (u2 (u2 S.2.1 11 v2.toNatClampNeg (S.2.1 110 v2.toNatClampNeg)) 12 v2.toNatClampNeg (S.2.1 111 v2.toNatClampNeg)) 13 v2.toNatClampNeg (S.2.1 112 v2.toNatClampNeg)), S.2.2.1, S.2.2.2) (v2 + 1)) else none) else none) else none) else none) else none) else none)
def lfX7_copyFrom_1_100_177 (x : XT)  : Nat → ST → Int32 → Option (Unit × ST)
  | 0, _, _ => none
  | n + 1, S, v2 => bfX7_copyFrom_1_100_177 x (lfX7_copyFrom_1_100_177 x  n) S v2
def bfX7_copyFrom_1_100_116 (x : XT) (k116 : ST → Int32 → Option (Unit × ST)) (S : ST) (v2 : Int32) : Option (Unit × ST) :=
  if 5 ≤ v2 then (lfX7_copyFrom_1_100_177 x  20000 S 0) else (bif inb v2 5 then (bif inb v2 5 then (bif inb v2 5 then (bif inb v2 5 then (bif inb v2 5 then (bif inb v2 5 then (bif inb v2 5 then (bif inb v2 5 then (k116 (S.1, (u2 (u2 (u2 (u2 S.2.1 7 v2.toNatClampNeg (S.2.1 106 v2.toNatClampNeg)) 8 v2.toNatClampNeg (S.2.1 107 v2.toNatClampNeg)) 9 v2.toNatClampNeg (S.2.1 108 v2.toNatClampNeg)) 10 v2.toNatClampNeg (S.2.1 109 v2.toNatClampNeg)), S.2.2.1, S.2.2.2) (v2 + 1)) else none) else none) else none) else none) else none) else none) else none) else none)
def lfX7_copyFrom_1_100_116 (x : XT)  : Nat → ST → Int32 → Option (Unit × ST)
  | 0, _, _ => none
  | n + 1, S, v2 => bfX7_copyFrom_1_100_116 x (lfX7_copyFrom_1_100_116 x  n) S v2
def bfX7_copyFrom_1_100_42 (x : XT) (k42 : ST → Int32 → Option (Unit × ST)) (S : ST) (v2 : Int32) : Option (Unit × ST) :=
  if 10 ≤ v2 then (lfX7_copyFrom_1_100_116 x  20000 S 0) else (bif inb v2 10 then (bif inb v2 10 then (bif inb v2 10 then (bif inb v2 10 then (bif inb v2 10 then (bif inb v2 10 then (bif inb v2 10 then (bif inb v2 10 then (bif inb v2 10 then (bif inb v2 10 then (k42 (S.1, (u2 (u2 (u2 (u2 (u2 S.2.1 2 v2.toNatClampNeg (S.2.1 101 v2.toNatClampNeg)) 3 v2.toNatClampNeg (S.2.1 102 v2.toNatClampNeg)) 4 v2.toNatClampNeg (S.2.1 103 v2.toNatClampNeg)) 5 v2.toNatClampNeg (S.2.1 104 v2.toNatClampNeg)) 6 v2.toNatClampNeg (vp_nar .boolean (S.2.1 105 v2.toNatClampNeg))), S.2.2.1, S.2.2.2) (v2 + 1)) else none) else none) else none) else none) else none) else none) else none) else none) else none) else none)
def lfX7_copyFrom_1_100_42 (x : XT)  : Nat → ST → Int32 → Option (Unit × ST)
  | 0, _, _ => none
  | n + 1, S, v2 => bfX7_copyFrom_1_100_42 x (lfX7_copyFrom_1_100_42 x  n) S v2
def bfX7_copyFrom_1_100_0 (x : XT)  (S : ST)  : Option (Unit × ST) :=
  lfX7_copyFrom_1_100_42 x  20000 ((u2 (u2 (u2 (u2 (u2 S.1 1 0 (S.1 100 0)) 1 6 (S.1 100 6)) 1 11 (S.1 100 11)) 1 16 (S.1 100 16)) 1 18 (S.1 100 18)), S.2.1, S.2.2.1, S.2.2.2) 0
def gfX7_copyFrom_1_100 (x : XT) (S : ST)  : Option (Unit × ST) := bfX7_copyFrom_1_100_0 x S 
def bfX7_copyFrom_1_115_252 (x : XT) (k252 : ST → Int32 → Option (Unit × ST)) (S : ST) (v2 : Int32) : Option (Unit × ST) :=
  if 6 ≤ v2 then (some ((), S)) else (bif inb v2 6 then (bif inb v2 6 then (bif qk x (S.2.2.2 129 v2.toNatClampNeg) then (k252 (S.1, S.2.1, S.2.2.1, (u2 S.2.2.2 15 v2.toNatClampNeg (S.2.2.2 129 v2.toNatClampNeg))) (v2 + 1)) else none) else none) else none)
def lfX7_copyFrom_1_115_252 (x : XT)  : Nat → ST → Int32 → Option (Unit × ST)
  | 0, _, _ => none
  | n + 1, S, v2 => bfX7_copyFrom_1_115_252 x (lfX7_copyFrom_1_115_252 x  n) S v2
def bfX7_copyFrom_1_115_227 (x : XT) (k227 : ST → Int32 → Option (Unit × ST)) (S : ST) (v2 : Int32) : Option (Unit × ST) :=
  if 3 ≤ v2 then (lfX7_copyFrom_1_115_252 x  20000 S 0) else (bif inb v2 3 then (bif inb v2 3 then (k227 (S.1, (u2 S.2.1 14 v2.toNatClampNeg (S.2.1 128 v2.toNatClampNeg)), S.2.2.1, S.2.2.2) (v2 + 1)) else none) else none)
def lfX7_copyFrom_1_115_227 (x : XT)  : Nat → ST → Int32 → Option (Unit × ST)
  | 0, _, _ => none
  | n + 1, S, v2 => bfX7_copyFrom_1_115_227 x (lfX7_copyFrom_1_115_227 x  n) S v2
def bfX7_copyFrom_1_115_177 (x : XT) (k177 : ST → Int32 → Option (Unit × ST)) (S : ST) (v2 : Int32) : Option (Unit × ST) :=
  if 6 ≤ v2 then (lfX7_copyFrom_1_115_227 x  20000 S 0) else (bif inb v2 6 then (bif inb v2 6 then (bif inb v2 6 then (bif inb v2 6 then (bif inb v2 6 then (bif inb v2 6 then (k177 (S.1, (u2 (u2 (u2 S.2.1 11 v2.toNatClampNeg (S.2.1 125 v2.toNatClampNeg)) 12 v2.toNatClampNeg (S.2.1 126 v2.toNatClampNeg)) 13 v2.toNatClampNeg (S.2.1 127 v2.toNatClampNeg)), S.2.2.1, S.2.2.2) (v2 + 1)) else none) else none) else none) else none) else none) else none)
def lfX7_copyFrom_1_115_177 (x : XT)  : Nat → ST → Int32 → Option (Unit × ST)
  | 0, _, _ => none
  | n + 1, S, v2 => bfX7_copyFrom_1_115_177 x (lfX7_copyFrom_1_115_177 x  n) S v2
def bfX7_copyFrom_1_115_116 (x : XT) (k116 : ST → Int32 → Option (Unit × ST)) (S : ST) (v2 : Int32) : Option (Unit × ST) :=
  if 5 ≤ v2 then (lfX7_copyFrom_1_115_177 x  20000 S 0) else (bif inb v2 5 then (bif inb v2 5 then (bif inb v2 5 then (bif inb v2 5 then (bif inb v2 5 then (bif inb v2 5 then (bif inb v2 5 then (bif inb v2 5 then (k116 (S.1, (u2 (u2 (u2 (u2 S.2.1 7 v2.toNatClampNeg (S.2.1 121 v2.toNatClampNeg)) 8 v2.toNatClampNeg (S.2.1 122 v2.toNatClampNeg)) 9 v2.toNatClampNeg (S.2.1 123 v2.toNatClampNeg)) 10 v2.toNatClampNeg (S.2.1 124 v2.toNatClampNeg)), S.2.2.1, S.2.2.2) (v2 + 1)) else none) else none) else none) else none) else none) else none) else none) else none)
def lfX7_copyFrom_1_115_116 (x : XT)  : Nat → ST → Int32 → Option (Unit × ST)
  | 0, _, _ => none
  | n + 1, S, v2 => bfX7_copyFrom_1_115_116 x (lfX7_copyFrom_1_115_116 x  n) S v2
def bfX7_copyFrom_1_115_42 (x : XT) (k42 : ST → Int32 → Option (Unit × ST)) (S : ST) (v2 : Int32) : Option (Unit × ST) :=
  if 10 ≤ v2 then (lfX7_copyFrom_1_115_116 x  20000 S 0) else (bif inb v2 10 then (bif inb v2 10 then (bif inb v2 10 then (bif inb v2 10 then (bif inb v2 10 then (bif inb v2 10 then (bif inb v2 10 then (bif inb v2 10 then (bif inb v2 10 then (bif inb v2 10 then (k42 (S.1, (u2 (u2 (u2 (u2 (u2 S.2.1 2 v2.toNatClampNeg (S.2.1 116 v2.toNatClampNeg)) 3 v2.toNatClampNeg (S.2.1 117 v2.toNatClampNeg)) 4 v2.toNatClampNeg (S.2.1 118 v2.toNatClampNeg)) 5 v2.toNatClampNeg (S.2.1 119 v2.toNatClampNeg)) 6 v2.toNatClampNeg (vp_nar .boolean (S.2.1 120 v2.toNatClampNeg))), S.2.2.1, S.2.2.2) (v2 + 1)) else none) else none) else none) else none) else none) else none) else none) else none) else none) else none)
def lfX7_copyFrom_1_115_42 (x : XT)  : Nat → ST → Int32 → Option (Unit × ST)
  | 0, _, _ => none
  | n + 1, S, v2 => bfX7_copyFrom_1_115_42 x (lfX7_copyFrom_1_115_42 x  n) S v2
def bfX7_copyFrom_1_115_0 (x : XT)  (S : ST)  : Option (Unit × ST) :=
  lfX7_copyFrom_1_115_42 x  20000 ((u2 (u2 (u2 (u2 (u2 S.1 1 0 (S.1 115 0)) 1 6 (S.1 115 6)) 1 11 (S.1 115 11)) 1 16 (S.1 115 16)) 1 18 (S.1 115 18)), S.2.1, S.2.2.1, S.2.2.2) 0
def gfX7_copyFrom_1_115 (x : XT) (S : ST)  : Option (Unit × ST) := bfX7_copyFrom_1_115_0 x S 
def bfX10_back_0_0 (x : XT)  (S : ST) (p1 : Int32) : Option (Int32 × ST) :=
  match gfX10_within x S p1 2 with
    | none => none
    | some (r3, S4) => (if ¬ r3 = 0 then (bif inb p1 2 then (if ¬ (S4.2.1 17 p1.toNatClampNeg) = 0 then (bif inb p1 2 then (if (S4.2.2.2 16 p1.toNatClampNeg) = some 100 then (match gfX7_copyFrom_1_100 x S4 with
    | none => none
    | some (r12, S13) => (match gfX10_toldAnew_0 x S13 0 with
    | none => none
    | some (r16, S17) => (some (r16, S17)))) else (if (S4.2.2.2 16 p1.toNatClampNeg) = some 115 then (match gfX7_copyFrom_1_115 x S4 with
    | none => none
    | some (r21, S22) => (match gfX10_toldAnew_0 x S22 0 with
    | none => none
    | some (r25, S26) => (some (r25, S26)))) else (none))) else none) else (match gfX10_told_0 x S4 (-2) with
    | none => none
    | some (r29, S30) => (some (r29, S30)))) else none) else (match gfX10_told_0 x S4 (-1) with
    | none => none
    | some (r33, S34) => (some (r33, S34))))
def gfX10_back_0 (x : XT) (S : ST) (p1 : Int32) : Option (Int32 × ST) := bfX10_back_0_0 x S p1
def bfX7_allMany_1_4 (x : XT) (k4 : ST → Int32 → Int32 → Option (Int32 × ST)) (S : ST) (v1 : Int32) (v2 : Int32) : Option (Int32 × ST) :=
  if (S.1 1 6) ≤ v2 then (some (v1, S)) else (bif inb v2 5 then (k4 S (v1 + (S.2.1 8 v2.toNatClampNeg)) (v2 + 1)) else none)
def lfX7_allMany_1_4 (x : XT)  : Nat → ST → Int32 → Int32 → Option (Int32 × ST)
  | 0, _, _, _ => none
  | n + 1, S, v1, v2 => bfX7_allMany_1_4 x (lfX7_allMany_1_4 x  n) S v1 v2
def bfX7_allMany_1_0 (x : XT)  (S : ST)  : Option (Int32 × ST) :=
  lfX7_allMany_1_4 x  20000 S 0 0
def gfX7_allMany_1 (x : XT) (S : ST)  : Option (Int32 × ST) := bfX7_allMany_1_0 x S 
def bfX10_count_0_0 (x : XT)  (S : ST) (p1 : Int32) : Option (Int32 × ST) :=
  if p1 = 0 then (some ((S.1 1 0), S)) else (if p1 = 1 then (some ((S.1 1 6), S)) else (if p1 = 2 then (match gfX7_allMany_1 x S with
    | none => none
    | some (r6, S7) => (some (r6, S7))) else (if p1 = 3 then (some ((S.1 1 11), S)) else (if p1 = 4 then (some ((S.1 1 16), S)) else (if p1 = 5 then (some ((S.1 33 0), S)) else (if p1 = 6 then (some ((S.1 18 1), S)) else (if p1 = 7 then (some ((S.2.1 99 1), S)) else (if p1 = 8 then (some ((S.2.1 99 2), S)) else (if p1 = 9 then (some ((S.2.1 99 3), S)) else (if p1 = 10 then (some ((S.2.1 99 5), S)) else (if p1 = 11 then (some ((S.2.1 99 6), S)) else (if p1 = 12 then (some ((S.1 1 18), S)) else (if p1 = 13 then (some ((S.2.1 14 0), S)) else (if p1 = 14 then (some ((S.2.1 14 1), S)) else (if p1 = 15 then (some ((S.2.1 14 2), S)) else (some ((-1), S)))))))))))))))))
def gfX10_count_0 (x : XT) (S : ST) (p1 : Int32) : Option (Int32 × ST) := bfX10_count_0_0 x S p1
def bfX10_status_0_0 (x : XT)  (S : ST)  : Option (Int32 × ST) :=
  some ((S.1 0 12), S)
def gfX10_status_0 (x : XT) (S : ST)  : Option (Int32 × ST) := bfX10_status_0_0 x S 
def bfX11_lies_15 (x : XT)  (S : ST) (t0 : Int32) : Option (Int32 × ST) :=
  bif bbz t0 then (some (t0, S)) else none
def bfX11_lies_14 (x : XT)  (S : ST)  : Option (Int32 × ST) :=
  bfX11_lies_15 x S 0
def bfX11_lies_0 (x : XT)  (S : ST) (p0 : Int32) (p1 : Int32) (p2 : Int32) : Option (Int32 × ST) :=
  if p0 < p1 then (bfX11_lies_14 x S) else (if p2 < p0 then (bfX11_lies_14 x S) else (bfX11_lies_15 x S 1))
def gfX11_lies (x : XT) (S : ST) (p0 : Int32) (p1 : Int32) (p2 : Int32) : Option (Int32 × ST) := bfX11_lies_0 x S p0 p1 p2
def bfX11_lesser_10 (x : XT)  (S : ST) (t0 : Int32) : Option (Int32 × ST) :=
  some (t0, S)
def bfX11_lesser_0 (x : XT)  (S : ST) (p0 : Int32) (p1 : Int32) : Option (Int32 × ST) :=
  if p1 ≤ p0 then (bfX11_lesser_10 x S p1) else (bfX11_lesser_10 x S p0)
def gfX11_lesser (x : XT) (S : ST) (p0 : Int32) (p1 : Int32) : Option (Int32 × ST) := bfX11_lesser_0 x S p0 p1
def bfX11_greater_10 (x : XT)  (S : ST) (t0 : Int32) : Option (Int32 × ST) :=
  some (t0, S)
def bfX11_greater_0 (x : XT)  (S : ST) (p0 : Int32) (p1 : Int32) : Option (Int32 × ST) :=
  if p0 ≤ p1 then (bfX11_greater_10 x S p1) else (bfX11_greater_10 x S p0)
def gfX11_greater (x : XT) (S : ST) (p0 : Int32) (p1 : Int32) : Option (Int32 × ST) := bfX11_greater_0 x S p0 p1
def bfX11_refuses_130_0 (x : XT)  (S : ST) (p1 : Int32) : Option (Int32 × ST) :=
  bif inb (-p1) 7 then (bif inb (-p1) 7 then (some (p1, ((u2 S.1 130 0 p1), (u2 S.2.1 131 ((-p1).toNatClampNeg) ((S.2.1 131 ((-p1).toNatClampNeg)) + 1)), S.2.2.1, S.2.2.2))) else none) else none
def gfX11_refuses_130 (x : XT) (S : ST) (p1 : Int32) : Option (Int32 × ST) := bfX11_refuses_130_0 x S p1
def bfX11_good_130_0 (x : XT)  (S : ST) (p1 : Int32) : Option (Int32 × ST) :=
  some (p1, ((u2 S.1 130 0 0), S.2.1, S.2.2.1, S.2.2.2))
def gfX11_good_130 (x : XT) (S : ST) (p1 : Int32) : Option (Int32 × ST) := bfX11_good_130_0 x S p1
def bfX11_settled_130_0 (x : XT)  (S : ST) (p1 : Int32) : Option (Int32 × ST) :=
  match gfX11_good_130 x ((u2 S.1 130 31 0), S.2.1, S.2.2.1, S.2.2.2) p1 with
    | none => none
    | some (r3, S4) => (some (r3, S4))
def gfX11_settled_130 (x : XT) (S : ST) (p1 : Int32) : Option (Int32 × ST) := bfX11_settled_130_0 x S p1
def bfX11_isIn_14 (x : XT)  (S : ST) (t0 : Int32) : Option (Int32 × ST) :=
  bif bbz t0 then (some (t0, S)) else none
def bfX11_isIn_0 (x : XT)  (S : ST) (p0 : Int32) (p1 : Int32) : Option (Int32 × ST) :=
  if ¬ ((p0 >>> (p1 &&& 31)) &&& 1) = 1 then (bfX11_isIn_14 x S 0) else (bfX11_isIn_14 x S 1)
def gfX11_isIn (x : XT) (S : ST) (p0 : Int32) (p1 : Int32) : Option (Int32 × ST) := bfX11_isIn_0 x S p0 p1
def bfX11_ones_4 (x : XT) (k4 : ST → Int32 → Int32 → Int32 → Option (Int32 × ST)) (S : ST) (v0 : Int32) (v1 : Int32) (v2 : Int32) : Option (Int32 × ST) :=
  if 10 ≤ v2 then (some (v1, S)) else (k4 S v0 (v1 + ((v0 >>> (v2 &&& 31)) &&& 1)) (v2 + 1))
def lfX11_ones_4 (x : XT)  : Nat → ST → Int32 → Int32 → Int32 → Option (Int32 × ST)
  | 0, _, _, _, _ => none
  | n + 1, S, v0, v1, v2 => bfX11_ones_4 x (lfX11_ones_4 x  n) S v0 v1 v2
def bfX11_ones_0 (x : XT)  (S : ST) (p0 : Int32) : Option (Int32 × ST) :=
  lfX11_ones_4 x  20000 S p0 0 0
def gfX11_ones (x : XT) (S : ST) (p0 : Int32) : Option (Int32 × ST) := bfX11_ones_0 x S p0
def bfX11_isPark_0 (x : XT)  (S : ST) (p0 : Int32) : Option (Int32 × ST) :=
  match gfX11_lies x S p0 0 5 with
    | none => none
    | some (r3, S4) => (bif bbz r3 then (some (r3, S4)) else none)
def gfX11_isPark (x : XT) (S : ST) (p0 : Int32) : Option (Int32 × ST) := bfX11_isPark_0 x S p0
def bfX11_isMany_0 (x : XT)  (S : ST) (p0 : Int32) : Option (Int32 × ST) :=
  match gfX11_lies x S p0 0 19 with
    | none => none
    | some (r3, S4) => (bif bbz r3 then (some (r3, S4)) else none)
def gfX11_isMany (x : XT) (S : ST) (p0 : Int32) : Option (Int32 × ST) := bfX11_isMany_0 x S p0
def bfX11_isArm_0 (x : XT)  (S : ST) (p0 : Int32) : Option (Int32 × ST) :=
  match gfX11_lies x S p0 0 9 with
    | none => none
    | some (r3, S4) => (bif bbz r3 then (some (r3, S4)) else none)
def gfX11_isArm (x : XT) (S : ST) (p0 : Int32) : Option (Int32 × ST) := bfX11_isArm_0 x S p0
def bfX11_laysAside_130_2 (x : XT) (k2 : ST → Int32 → Int32 → Option (Unit × ST)) (S : ST) (v1 : Int32) (v2 : Int32) : Option (Unit × ST) :=
  if 36 ≤ v2 then (some ((), S)) else (bif inb v2 5703 then (bif inb ((36 * v1) + v2) 72 then (k2 (S.1, (u2 S.2.1 135 (((36 * v1) + v2).toNatClampNeg) (S.2.1 132 v2.toNatClampNeg)), S.2.2.1, S.2.2.2) v1 (v2 + 1)) else none) else none)
def lfX11_laysAside_130_2 (x : XT)  : Nat → ST → Int32 → Int32 → Option (Unit × ST)
  | 0, _, _, _ => none
  | n + 1, S, v1, v2 => bfX11_laysAside_130_2 x (lfX11_laysAside_130_2 x  n) S v1 v2
def bfX11_laysAside_130_0 (x : XT)  (S : ST) (p1 : Int32) : Option (Unit × ST) :=
  lfX11_laysAside_130_2 x  20000 S p1 0
def gfX11_laysAside_130 (x : XT) (S : ST) (p1 : Int32) : Option (Unit × ST) := bfX11_laysAside_130_0 x S p1
def bfX11_takesBack_130_2 (x : XT) (k2 : ST → Int32 → Int32 → Option (Unit × ST)) (S : ST) (v1 : Int32) (v2 : Int32) : Option (Unit × ST) :=
  if 36 ≤ v2 then (some ((), S)) else (bif inb ((36 * v1) + v2) 72 then (bif inb v2 5703 then (k2 (S.1, (u2 S.2.1 132 v2.toNatClampNeg (S.2.1 135 (((36 * v1) + v2).toNatClampNeg))), S.2.2.1, S.2.2.2) v1 (v2 + 1)) else none) else none)
def lfX11_takesBack_130_2 (x : XT)  : Nat → ST → Int32 → Int32 → Option (Unit × ST)
  | 0, _, _, _ => none
  | n + 1, S, v1, v2 => bfX11_takesBack_130_2 x (lfX11_takesBack_130_2 x  n) S v1 v2
def bfX11_takesBack_130_0 (x : XT)  (S : ST) (p1 : Int32) : Option (Unit × ST) :=
  lfX11_takesBack_130_2 x  20000 S p1 0
def gfX11_takesBack_130 (x : XT) (S : ST) (p1 : Int32) : Option (Unit × ST) := bfX11_takesBack_130_0 x S p1
def bfX11_image_130_17 (x : XT) (k17 : ST → Int32 → Int32 → Option (Int32 × ST)) (S : ST) (v1 : Int32) (v2 : Int32) : Option (Int32 × ST) :=
  if 5703 ≤ v2 then (bif inb v1 2 then (match gfX11_good_130 x (S.1, (u2 S.2.1 134 v1.toNatClampNeg (vp_nar .boolean 1)), S.2.2.1, S.2.2.2) 0 with
    | none => none
    | some (r5, S6) => (some (r5, S6))) else none) else (bif inb v2 5703 then (bif inb ((5703 * v1) + v2) 11406 then (k17 (S.1, (u2 S.2.1 133 (((5703 * v1) + v2).toNatClampNeg) (S.2.1 132 v2.toNatClampNeg)), S.2.2.1, S.2.2.2) v1 (v2 + 1)) else none) else none)
end DEFS
