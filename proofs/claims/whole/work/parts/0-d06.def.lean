section DEFS
def bfX11_laysLeft_130_53 (x : XT) (k42 : ST → Int32 → Int32 → Option (Unit × ST)) (k53 : ST → Int32 → Int32 → Int32 → Option (Unit × ST)) (S : ST) (v3 : Int32) (v4 : Int32) (v5 : Int32) : Option (Unit × ST) :=
  match gfX11_gateMany_130 x S with
    | none => none
    | some (r3, S4) => (if (120 * r3) ≤ v5 then (k42 S4 v3 v4) else (match gfX11_gateMany_130 x S4 with
    | none => none
    | some (r8, S9) => (bif nzi r8 then (match gfX11_gateMany_130 x S9 with
    | none => none
    | some (r13, S14) => (bif nzi r13 then (match gfX11_nextPlace_130 x S14 (v5 / r8) (v5 - v5 / r13 * r13) with
    | none => none
    | some (r18, S19) => (if ¬ r18 = (-1) then (bif inb r18 120 then (if v3 = 0 then (bfX11_laysLeft_130_133 x k42 k53 S19 v3 v4 v5 (v5 / r8) (S19.2.1 147 r18.toNatClampNeg) 1) else (bif inb ((10 * ((v5 / r8) - (v5 / r8) / 20 * 20)) + (v5 - v5 / r13 * r13)) 200 then (bfX11_laysLeft_130_133 x k42 k53 S19 v3 v4 v5 (v5 / r8) (S19.2.1 147 r18.toNatClampNeg) (S19.2.1 146 (((10 * ((v5 / r8) - (v5 / r8) / 20 * 20)) + (v5 - v5 / r13 * r13)).toNatClampNeg))) else none)) else none) else (bfX11_laysLeft_130_163 x k42 k53 S19 v3 v4 v5))) else none)) else none)))
def lfX11_laysLeft_130_53 (x : XT) (k42 : ST → Int32 → Int32 → Option (Unit × ST)) : Nat → ST → Int32 → Int32 → Int32 → Option (Unit × ST)
  | 0, _, _, _, _ => none
  | n + 1, S, v3, v4, v5 => bfX11_laysLeft_130_53 x k42 (lfX11_laysLeft_130_53 x k42 n) S v3 v4 v5
def bfX11_laysLeft_130_42 (x : XT) (k42 : ST → Int32 → Int32 → Option (Unit × ST)) (S : ST) (v3 : Int32) (v4 : Int32) : Option (Unit × ST) :=
  if v4 = 0 then (some ((), S)) else (lfX11_laysLeft_130_53 x k42 20000 S v3 0 0)
def lfX11_laysLeft_130_42 (x : XT)  : Nat → ST → Int32 → Int32 → Option (Unit × ST)
  | 0, _, _, _ => none
  | n + 1, S, v3, v4 => bfX11_laysLeft_130_42 x (lfX11_laysLeft_130_42 x  n) S v3 v4
def bfX11_laysLeft_130_32 (x : XT) (k3 : ST → Int32 → Int32 → Int32 → Int32 → Option (Unit × ST)) (S : ST) (v1 : Int32) (v2 : Int32) (v3 : Int32) (v4 : Int32) (t1 : Int32) (t2 : Int32) : Option (Unit × ST) :=
  bif inb t1 120 then (k3 (S.1, (u2 S.2.1 147 t1.toNatClampNeg t2), S.2.2.1, S.2.2.2) v1 v2 v3 (v4 + 1)) else none
def bfX11_laysLeft_130_3 (x : XT) (k3 : ST → Int32 → Int32 → Int32 → Int32 → Option (Unit × ST)) (S : ST) (v1 : Int32) (v2 : Int32) (v3 : Int32) (v4 : Int32) : Option (Unit × ST) :=
  if 120 ≤ v4 then (lfX11_laysLeft_130_42 x  1000000000 S v3 1) else (match gfX11_isGoal x S v4 v1 v2 with
    | none => none
    | some (r4, S5) => (if r4 = 0 then (bfX11_laysLeft_130_32 x k3 S5 v1 v2 v3 v4 v4 1000000) else (bfX11_laysLeft_130_32 x k3 S5 v1 v2 v3 v4 v4 0)))
def lfX11_laysLeft_130_3 (x : XT)  : Nat → ST → Int32 → Int32 → Int32 → Int32 → Option (Unit × ST)
  | 0, _, _, _, _, _ => none
  | n + 1, S, v1, v2, v3, v4 => bfX11_laysLeft_130_3 x (lfX11_laysLeft_130_3 x  n) S v1 v2 v3 v4
def bfX11_laysLeft_130_0 (x : XT)  (S : ST) (p1 : Int32) (p2 : Int32) (p3 : Int32) : Option (Unit × ST) :=
  lfX11_laysLeft_130_3 x  20000 S p1 p2 p3 0
def gfX11_laysLeft_130 (x : XT) (S : ST) (p1 : Int32) (p2 : Int32) (p3 : Int32) : Option (Unit × ST) := bfX11_laysLeft_130_0 x S p1 p2 p3
def bfX11_way_130_22 (x : XT)  (S : ST)  : Option (Int32 × ST) :=
  some ((-1), S)
def bfX11_way_130_92 (x : XT)  (S : ST) (t0 : Int32) : Option (Int32 × ST) :=
  some (t0, S)
def bfX11_way_130_75 (x : XT)  (S : ST) (v4 : Int32) (v5 : Int32) : Option (Int32 × ST) :=
  if ¬ v4 = (-1) then (bfX11_way_130_92 x S (-1)) else (bif inb v5 120 then (bfX11_way_130_92 x S (S.2.1 147 v5.toNatClampNeg)) else none)
def bfX11_way_130_146 (x : XT) (k99 : ST → Int32 → Int32 → Int32 → Int32 → Option (Int32 × ST)) (k109 : ST → Int32 → Int32 → Int32 → Int32 → Option (Int32 × ST)) (S : ST) (v4 : Int32) (v5 : Int32) (v6 : Int32) (v7 : Int32) : Option (Int32 × ST) :=
  k109 S v4 v5 (v6 + 1) v7
def bfX11_way_130_109 (x : XT) (k99 : ST → Int32 → Int32 → Int32 → Int32 → Option (Int32 × ST)) (k109 : ST → Int32 → Int32 → Int32 → Int32 → Option (Int32 × ST)) (S : ST) (v4 : Int32) (v5 : Int32) (v6 : Int32) (v7 : Int32) : Option (Int32 × ST) :=
  match gfX11_nextPlace_130 x S v5 v6 with
    | none => none
    | some (r3, S4) => (if r3 = (-1) then (bfX11_way_130_146 x k99 k109 S4 v4 v5 v6 v7) else (match gfX11_nextPlace_130 x S4 v5 v6 with
    | none => none
    | some (r8, S9) => (bif inb r8 120 then (bif inb v5 120 then (if (S9.2.1 147 r8.toNatClampNeg) = ((S9.2.1 147 v5.toNatClampNeg) - 1) then (match gfX11_nextPlace_130 x S9 v5 v6 with
    | none => none
    | some (r15, S16) => (k99 S16 v4 r15 v6 (v7 + 1))) else (bfX11_way_130_146 x k99 k109 S9 v4 v5 v6 v7)) else none) else none)))
def lfX11_way_130_109 (x : XT) (k99 : ST → Int32 → Int32 → Int32 → Int32 → Option (Int32 × ST)) : Nat → ST → Int32 → Int32 → Int32 → Int32 → Option (Int32 × ST)
  | 0, _, _, _, _, _ => none
  | n + 1, S, v4, v5, v6, v7 => bfX11_way_130_109 x k99 (lfX11_way_130_109 x k99 n) S v4 v5 v6 v7
def bfX11_way_130_99 (x : XT) (k99 : ST → Int32 → Int32 → Int32 → Int32 → Option (Int32 × ST)) (S : ST) (v4 : Int32) (v5 : Int32) (v6 : Int32) (v7 : Int32) : Option (Int32 × ST) :=
  if v4 < v7 then (some (v6, S)) else (lfX11_way_130_109 x k99 20000 S v4 v5 0 v7)
def lfX11_way_130_99 (x : XT)  : Nat → ST → Int32 → Int32 → Int32 → Int32 → Option (Int32 × ST)
  | 0, _, _, _, _, _ => none
  | n + 1, S, v4, v5, v6, v7 => bfX11_way_130_99 x (lfX11_way_130_99 x  n) S v4 v5 v6 v7
def bfX11_way_130_0 (x : XT)  (S : ST) (p1 : Int32) (p2 : Int32) (p3 : Int32) (p4 : Int32) : Option (Int32 × ST) :=
  match gfX11_isGoer_130 x S p1 with
    | none => none
    | some (r3, S4) => (if r3 = 0 then (bfX11_way_130_22 x S4) else (match gfX11_canBeGoal x S4 p2 p3 with
    | none => none
    | some (r8, S9) => (if r8 = 0 then (bfX11_way_130_22 x S9) else (if (-1) ≤ p4 then (match gfX11_laysOut_130 x S9 p1 with
    | none => none
    | some (r14, S15) => (match gfX11_laysLeft_130 x S15 p2 p3 0 with
    | none => none
    | some (r18, S19) => (match gfX11_placeOf_130 x S19 p1 with
    | none => none
    | some (r22, S23) => (bif inb r22 120 then (if (S23.2.1 147 r22.toNatClampNeg) < 1000000 then (if p4 = (-1) then (bfX11_way_130_75 x S23 p4 r22) else (bif inb r22 120 then (if p4 < (S23.2.1 147 r22.toNatClampNeg) then (lfX11_way_130_99 x  20000 S23 p4 r22 (-1) 0) else (bfX11_way_130_75 x S23 p4 r22)) else none)) else (some ((-1), S23))) else none)))) else (bfX11_way_130_22 x S9)))))
def gfX11_way_130 (x : XT) (S : ST) (p1 : Int32) (p2 : Int32) (p3 : Int32) (p4 : Int32) : Option (Int32 × ST) := bfX11_way_130_0 x S p1 p2 p3 p4
def bfX11_cheap_130_16 (x : XT)  (S : ST)  : Option (Int32 × ST) :=
  some ((-1), S)
def bfX11_cheap_130_59 (x : XT)  (S : ST) (t0 : Int32) : Option (Int32 × ST) :=
  some (t0, S)
def bfX11_cheap_130_0 (x : XT)  (S : ST) (p1 : Int32) (p2 : Int32) (p3 : Int32) : Option (Int32 × ST) :=
  match gfX11_isGoer_130 x S p1 with
    | none => none
    | some (r3, S4) => (if r3 = 0 then (bfX11_cheap_130_16 x S4) else (match gfX11_canBeGoal x S4 p2 p3 with
    | none => none
    | some (r8, S9) => (if ¬ r8 = 0 then (match gfX11_laysOut_130 x S9 p1 with
    | none => none
    | some (r13, S14) => (match gfX11_laysLeft_130 x S14 p2 p3 1 with
    | none => none
    | some (r17, S18) => (match gfX11_placeOf_130 x S18 p1 with
    | none => none
    | some (r21, S22) => (bif inb r21 120 then (if (S22.2.1 147 r21.toNatClampNeg) < 1000000 then (match gfX11_placeOf_130 x S22 p1 with
    | none => none
    | some (r27, S28) => (bif inb r27 120 then (bfX11_cheap_130_59 x S28 (S28.2.1 147 r27.toNatClampNeg)) else none)) else (bfX11_cheap_130_59 x S22 (-1))) else none)))) else (bfX11_cheap_130_16 x S9))))
def gfX11_cheap_130 (x : XT) (S : ST) (p1 : Int32) (p2 : Int32) (p3 : Int32) : Option (Int32 × ST) := bfX11_cheap_130_0 x S p1 p2 p3
def bfX11_compare_130_0 (x : XT)  (S : ST) (p1 : Int32) (p2 : Int32) (p3 : Int32) (p4 : Int32) : Option (Int32 × ST) :=
  match gfX11_isLaw_130 x S p1 with
    | none => none
    | some (r3, S4) => (if ¬ r3 = 0 then (match gfX11_way_130 x (S4.1, (u2 S4.2.1 132 95 p1), S4.2.2.1, S4.2.2.2) p2 p3 p4 (-1) with
    | none => none
    | some (r8, S9) => (some (r8, (S9.1, (u2 S9.2.1 132 95 (S4.2.1 132 95)), S9.2.2.1, S9.2.2.2)))) else (some ((-1), S4)))
def gfX11_compare_130 (x : XT) (S : ST) (p1 : Int32) (p2 : Int32) (p3 : Int32) (p4 : Int32) : Option (Int32 × ST) := bfX11_compare_130_0 x S p1 p2 p3 p4
def bfX11_laysGone_130_142 (x : XT) (k43 : ST → Int32 → Int32 → Int32 → Option (Unit × ST)) (k52 : ST → Int32 → Int32 → Int32 → Int32 → Option (Unit × ST)) (S : ST) (v2 : Int32) (v3 : Int32) (v4 : Int32) (v5 : Int32) : Option (Unit × ST) :=
  k52 S v2 v3 v4 (v5 + 1)
def bfX11_laysGone_130_87 (x : XT) (k43 : ST → Int32 → Int32 → Int32 → Option (Unit × ST)) (k52 : ST → Int32 → Int32 → Int32 → Int32 → Option (Unit × ST)) (S : ST) (v2 : Int32) (v3 : Int32) (v4 : Int32) (v5 : Int32) (t0 : Int32) : Option (Unit × ST) :=
  if t0 = (-1) then (bfX11_laysGone_130_142 x k43 k52 S v2 v3 v4 v5) else (bif inb t0 120 then (if 1000000 ≤ (S.2.1 148 t0.toNatClampNeg) then (bif inb v4 120 then (bif inb (S.2.1 149 v4.toNatClampNeg) 120 then (bif inb t0 120 then (bif inb v3 120 then (bfX11_laysGone_130_142 x k43 k52 (S.1, (u2 (u2 S.2.1 148 t0.toNatClampNeg ((S.2.1 148 ((S.2.1 149 v4.toNatClampNeg).toNatClampNeg)) + 1)) 149 v3.toNatClampNeg t0), S.2.2.1, S.2.2.2) v2 (v3 + 1) v4 v5) else none) else none) else none) else none) else (bfX11_laysGone_130_142 x k43 k52 S v2 v3 v4 v5)) else none)
def bfX11_laysGone_130_52 (x : XT) (k43 : ST → Int32 → Int32 → Int32 → Option (Unit × ST)) (k52 : ST → Int32 → Int32 → Int32 → Int32 → Option (Unit × ST)) (S : ST) (v2 : Int32) (v3 : Int32) (v4 : Int32) (v5 : Int32) : Option (Unit × ST) :=
  match gfX11_gateMany_130 x S with
    | none => none
    | some (r3, S4) => (if r3 ≤ v5 then (k43 S4 v2 v3 (v4 + 1)) else (match gfX11_isIn x S4 v2 v5 with
    | none => none
    | some (r8, S9) => (if r8 = 0 then (bif inb v4 120 then (match gfX11_nextPlace_130 x S9 (S9.2.1 149 v4.toNatClampNeg) v5 with
    | none => none
    | some (r14, S15) => (bfX11_laysGone_130_87 x k43 k52 S15 v2 v3 v4 v5 r14)) else none) else (bfX11_laysGone_130_87 x k43 k52 S9 v2 v3 v4 v5 (-1)))))
def lfX11_laysGone_130_52 (x : XT) (k43 : ST → Int32 → Int32 → Int32 → Option (Unit × ST)) : Nat → ST → Int32 → Int32 → Int32 → Int32 → Option (Unit × ST)
  | 0, _, _, _, _, _ => none
  | n + 1, S, v2, v3, v4, v5 => bfX11_laysGone_130_52 x k43 (lfX11_laysGone_130_52 x k43 n) S v2 v3 v4 v5
def bfX11_laysGone_130_43 (x : XT) (k43 : ST → Int32 → Int32 → Int32 → Option (Unit × ST)) (S : ST) (v2 : Int32) (v3 : Int32) (v4 : Int32) : Option (Unit × ST) :=
  if v3 ≤ v4 then (some ((), S)) else (lfX11_laysGone_130_52 x k43 20000 S v2 v3 v4 0)
def lfX11_laysGone_130_43 (x : XT)  : Nat → ST → Int32 → Int32 → Int32 → Option (Unit × ST)
  | 0, _, _, _, _ => none
  | n + 1, S, v2, v3, v4 => bfX11_laysGone_130_43 x (lfX11_laysGone_130_43 x  n) S v2 v3 v4
def bfX11_laysGone_130_24 (x : XT) (k2 : ST → Int32 → Int32 → Int32 → Option (Unit × ST)) (S : ST) (v1 : Int32) (v2 : Int32) (v3 : Int32) (t1 : Int32) (t2 : Int32) : Option (Unit × ST) :=
  bif inb t1 120 then (k2 (S.1, (u2 S.2.1 148 t1.toNatClampNeg t2), S.2.2.1, S.2.2.2) v1 v2 (v3 + 1)) else none
def bfX11_laysGone_130_2 (x : XT) (k2 : ST → Int32 → Int32 → Int32 → Option (Unit × ST)) (S : ST) (v1 : Int32) (v2 : Int32) (v3 : Int32) : Option (Unit × ST) :=
  if 120 ≤ v3 then (lfX11_laysGone_130_43 x  20000 (S.1, (u2 S.2.1 149 0 v1), S.2.2.1, S.2.2.2) v2 1 0) else (if ¬ v3 = v1 then (bfX11_laysGone_130_24 x k2 S v1 v2 v3 v3 1000000) else (bfX11_laysGone_130_24 x k2 S v1 v2 v3 v3 0))
def lfX11_laysGone_130_2 (x : XT)  : Nat → ST → Int32 → Int32 → Int32 → Option (Unit × ST)
  | 0, _, _, _, _ => none
  | n + 1, S, v1, v2, v3 => bfX11_laysGone_130_2 x (lfX11_laysGone_130_2 x  n) S v1 v2 v3
def bfX11_laysGone_130_0 (x : XT)  (S : ST) (p1 : Int32) (p2 : Int32) : Option (Unit × ST) :=
  lfX11_laysGone_130_2 x  20000 S p1 p2 0
def gfX11_laysGone_130 (x : XT) (S : ST) (p1 : Int32) (p2 : Int32) : Option (Unit × ST) := bfX11_laysGone_130_0 x S p1 p2
def bfX11_comesTo_130_35 (x : XT) (k4 : ST → Int32 → Int32 → Int32 → Option (Int32 × ST)) (S : ST) (v1 : Int32) (v3 : Int32) (t0 : Int32) : Option (Int32 × ST) :=
  k4 S v1 t0 (v3 + 1)
def bfX11_comesTo_130_30 (x : XT) (k4 : ST → Int32 → Int32 → Int32 → Option (Int32 × ST)) (S : ST) (v1 : Int32) (v3 : Int32) : Option (Int32 × ST) :=
  bfX11_comesTo_130_35 x k4 S v1 v3 1
def bfX11_comesTo_130_4 (x : XT) (k4 : ST → Int32 → Int32 → Int32 → Option (Int32 × ST)) (S : ST) (v1 : Int32) (v2 : Int32) (v3 : Int32) : Option (Int32 × ST) :=
  if 20 ≤ v3 then (bif bbz v2 then (some (v2, S)) else none) else (if ¬ v2 = 0 then (bfX11_comesTo_130_30 x k4 S v1 v3) else (bif inb ((20 * v1) + v3) 120 then (if 1000000 ≤ (S.2.1 148 (((20 * v1) + v3).toNatClampNeg)) then (bfX11_comesTo_130_35 x k4 S v1 v3 0) else (bfX11_comesTo_130_30 x k4 S v1 v3)) else none))
def lfX11_comesTo_130_4 (x : XT)  : Nat → ST → Int32 → Int32 → Int32 → Option (Int32 × ST)
  | 0, _, _, _, _ => none
  | n + 1, S, v1, v2, v3 => bfX11_comesTo_130_4 x (lfX11_comesTo_130_4 x  n) S v1 v2 v3
def bfX11_comesTo_130_0 (x : XT)  (S : ST) (p1 : Int32) : Option (Int32 × ST) :=
  lfX11_comesTo_130_4 x  20000 S p1 0 0
def gfX11_comesTo_130 (x : XT) (S : ST) (p1 : Int32) : Option (Int32 × ST) := bfX11_comesTo_130_0 x S p1
def bfX11_manys_130_15 (x : XT)  (S : ST)  : Option (Int32 × ST) :=
  some ((-1), S)
def bfX11_manys_130_70 (x : XT) (k37 : ST → Int32 → Int32 → Int32 → Option (Int32 × ST)) (S : ST) (v2 : Int32) (v4 : Int32) (t0 : Int32) (t1 : Int32) : Option (Int32 × ST) :=
  k37 S v2 (t0 ||| t1) (v4 + 1)
def bfX11_manys_130_37 (x : XT) (k37 : ST → Int32 → Int32 → Int32 → Option (Int32 × ST)) (S : ST) (v2 : Int32) (v3 : Int32) (v4 : Int32) : Option (Int32 × ST) :=
  if 20 ≤ v4 then (some (v3, S)) else (bif inb ((20 * v2) + v4) 120 then (if 1000000 ≤ (S.2.1 148 (((20 * v2) + v4).toNatClampNeg)) then (bfX11_manys_130_70 x k37 S v2 v4 v3 0) else (bfX11_manys_130_70 x k37 S v2 v4 v3 (1 <<< (v4 &&& 31)))) else none)
def lfX11_manys_130_37 (x : XT)  : Nat → ST → Int32 → Int32 → Int32 → Option (Int32 × ST)
  | 0, _, _, _, _ => none
  | n + 1, S, v2, v3, v4 => bfX11_manys_130_37 x (lfX11_manys_130_37 x  n) S v2 v3 v4
def bfX11_manys_130_0 (x : XT)  (S : ST) (p1 : Int32) (p2 : Int32) : Option (Int32 × ST) :=
  match gfX11_isGoer_130 x S p1 with
    | none => none
    | some (r3, S4) => (if r3 = 0 then (bfX11_manys_130_15 x S4) else (match gfX11_isPark x S4 p2 with
    | none => none
    | some (r8, S9) => (if ¬ r8 = 0 then (match gfX11_laysOut_130 x S9 p1 with
    | none => none
    | some (r13, S14) => (match gfX11_placeOf_130 x S14 p1 with
    | none => none
    | some (r17, S18) => (match gfX11_laysGone_130 x S18 r17 0 with
    | none => none
    | some (r21, S22) => (lfX11_manys_130_37 x  20000 S22 p2 0 0)))) else (bfX11_manys_130_15 x S9))))
def gfX11_manys_130 (x : XT) (S : ST) (p1 : Int32) (p2 : Int32) : Option (Int32 × ST) := bfX11_manys_130_0 x S p1 p2
def bfX11_reach_130_51 (x : XT) (k29 : ST → Int32 → Int32 → Option (Int32 × ST)) (S : ST) (v3 : Int32) (t0 : Int32) (t1 : Int32) : Option (Int32 × ST) :=
  k29 S (t0 ||| t1) (v3 + 1)
def bfX11_reach_130_29 (x : XT) (k29 : ST → Int32 → Int32 → Option (Int32 × ST)) (S : ST) (v2 : Int32) (v3 : Int32) : Option (Int32 × ST) :=
  if 6 ≤ v3 then (some (v2, S)) else (match gfX11_comesTo_130 x S v3 with
    | none => none
    | some (r4, S5) => (if r4 = 0 then (bfX11_reach_130_51 x k29 S5 v3 v2 0) else (bfX11_reach_130_51 x k29 S5 v3 v2 (1 <<< (v3 &&& 31)))))
def lfX11_reach_130_29 (x : XT)  : Nat → ST → Int32 → Int32 → Option (Int32 × ST)
  | 0, _, _, _ => none
  | n + 1, S, v2, v3 => bfX11_reach_130_29 x (lfX11_reach_130_29 x  n) S v2 v3
def bfX11_reach_130_0 (x : XT)  (S : ST) (p1 : Int32) : Option (Int32 × ST) :=
  match gfX11_isGoer_130 x S p1 with
    | none => none
    | some (r3, S4) => (if ¬ r3 = 0 then (match gfX11_laysOut_130 x S4 p1 with
    | none => none
    | some (r8, S9) => (match gfX11_placeOf_130 x S9 p1 with
    | none => none
    | some (r12, S13) => (match gfX11_laysGone_130 x S13 r12 0 with
    | none => none
    | some (r16, S17) => (lfX11_reach_130_29 x  20000 S17 0 0)))) else (some ((-1), S4)))
def gfX11_reach_130 (x : XT) (S : ST) (p1 : Int32) : Option (Int32 × ST) := bfX11_reach_130_0 x S p1
def bfX11_laysParts_130_36 (x : XT) (k8 : ST → Int32 → Int64 → Int32 → Option (Unit × ST)) (S : ST) (v1 : Int32) (v2 : Int64) (v4 : Int32) (t1 : Int32) (t2 : Int64) : Option (Unit × ST) :=
  bif inb t1 120 then (k8 (S.1, S.2.1, (u2 S.2.2.1 150 t1.toNatClampNeg t2), S.2.2.2) v1 v2 (v4 + 1)) else none
def bfX11_laysParts_130_8 (x : XT) (k8 : ST → Int32 → Int64 → Int32 → Option (Unit × ST)) (S : ST) (v1 : Int32) (v2 : Int64) (v4 : Int32) : Option (Unit × ST) :=
  if 120 ≤ v4 then (some ((), S)) else (match gfX11_placeOf_130 x S v1 with
    | none => none
    | some (r4, S5) => (if ¬ v4 = r4 then (bfX11_laysParts_130_36 x k8 S5 v1 v2 v4 v4 0) else (bfX11_laysParts_130_36 x k8 S5 v1 v2 v4 v4 v2)))
def lfX11_laysParts_130_8 (x : XT)  : Nat → ST → Int32 → Int64 → Int32 → Option (Unit × ST)
  | 0, _, _, _, _ => none
  | n + 1, S, v1, v2, v4 => bfX11_laysParts_130_8 x (lfX11_laysParts_130_8 x  n) S v1 v2 v4
def bfX11_laysParts_130_0 (x : XT)  (S : ST) (p1 : Int32) (p2 : Int64) : Option (Unit × ST) :=
  match gfX11_laysOut_130 x S p1 with
    | none => none
    | some (r3, S4) => (lfX11_laysParts_130_8 x  20000 S4 p1 p2 0)
def gfX11_laysParts_130 (x : XT) (S : ST) (p1 : Int32) (p2 : Int64) : Option (Unit × ST) := bfX11_laysParts_130_0 x S p1 p2
def bfX11_gatesFrom_130_28 (x : XT) (k4 : ST → Int32 → Int32 → Int32 → Option (Int32 × ST)) (S : ST) (v1 : Int32) (v3 : Int32) (t0 : Int32) (t1 : Int32) : Option (Int32 × ST) :=
  k4 S v1 (t0 + t1) (v3 + 1)
def bfX11_gatesFrom_130_4 (x : XT) (k4 : ST → Int32 → Int32 → Int32 → Option (Int32 × ST)) (S : ST) (v1 : Int32) (v2 : Int32) (v3 : Int32) : Option (Int32 × ST) :=
  match gfX11_gateMany_130 x S with
    | none => none
    | some (r3, S4) => (if r3 ≤ v3 then (some (v2, S4)) else (match gfX11_nextPlace_130 x S4 v1 v3 with
    | none => none
    | some (r8, S9) => (if ¬ r8 = (-1) then (bfX11_gatesFrom_130_28 x k4 S9 v1 v3 v2 1) else (bfX11_gatesFrom_130_28 x k4 S9 v1 v3 v2 0))))
def lfX11_gatesFrom_130_4 (x : XT)  : Nat → ST → Int32 → Int32 → Int32 → Option (Int32 × ST)
  | 0, _, _, _, _ => none
  | n + 1, S, v1, v2, v3 => bfX11_gatesFrom_130_4 x (lfX11_gatesFrom_130_4 x  n) S v1 v2 v3
def bfX11_gatesFrom_130_0 (x : XT)  (S : ST) (p1 : Int32) : Option (Int32 × ST) :=
  lfX11_gatesFrom_130_4 x  20000 S p1 0 0
def gfX11_gatesFrom_130 (x : XT) (S : ST) (p1 : Int32) : Option (Int32 × ST) := bfX11_gatesFrom_130_0 x S p1
def bfX11_steps_130_149 (x : XT) (k149 : ST → Int32 → Option (Unit × ST)) (S : ST) (v2 : Int32) : Option (Unit × ST) :=
  if 120 ≤ v2 then (some ((), S)) else (bif inb v2 120 then (bif inb v2 120 then (k149 (S.1, S.2.1, (u2 S.2.2.1 150 v2.toNatClampNeg (S.2.2.1 151 v2.toNatClampNeg)), S.2.2.2) (v2 + 1)) else none) else none)
def lfX11_steps_130_149 (x : XT)  : Nat → ST → Int32 → Option (Unit × ST)
  | 0, _, _ => none
  | n + 1, S, v2 => bfX11_steps_130_149 x (lfX11_steps_130_149 x  n) S v2
def bfX11_steps_130_141 (x : XT) (k23 : ST → Int32 → Int32 → Option (Unit × ST)) (S : ST) (v1 : Int32) (v2 : Int32) : Option (Unit × ST) :=
  k23 S v1 (v2 + 1)
def bfX11_steps_130_135 (x : XT) (k23 : ST → Int32 → Int32 → Option (Unit × ST)) (k76 : ST → Int32 → Int32 → Int32 → Int32 → Option (Unit × ST)) (S : ST) (v1 : Int32) (v2 : Int32) (v3 : Int32) (v4 : Int32) : Option (Unit × ST) :=
  k76 S v1 v2 v3 (v4 + 1)
def bfX11_steps_130_76 (x : XT) (k23 : ST → Int32 → Int32 → Option (Unit × ST)) (k76 : ST → Int32 → Int32 → Int32 → Int32 → Option (Unit × ST)) (S : ST) (v1 : Int32) (v2 : Int32) (v3 : Int32) (v4 : Int32) : Option (Unit × ST) :=
  match gfX11_gateMany_130 x S with
    | none => none
    | some (r3, S4) => (if r3 ≤ v4 then (bfX11_steps_130_141 x k23 S4 v1 v2) else (if v3 ≤ 0 then (bfX11_steps_130_141 x k23 S4 v1 v2) else (bif inb v2 120 then (if (lg_cmp (S4.2.2.1 150 v2.toNatClampNeg) 0) ≤ 0 then (bfX11_steps_130_141 x k23 S4 v1 v2) else (match gfX11_nextPlace_130 x S4 v2 v4 with
    | none => none
    | some (r11, S12) => (if r11 = (-1) then (bfX11_steps_130_135 x k23 k76 S12 v1 v2 v3 v4) else (match gfX11_nextPlace_130 x S12 v2 v4 with
    | none => none
    | some (r16, S17) => (bif inb r16 120 then (bif inb v2 120 then (bif nzl v3.toInt64 then (bif inb r16 120 then (bfX11_steps_130_135 x k23 k76 (S17.1, S17.2.1, (u2 S17.2.2.1 151 r16.toNatClampNeg ((S17.2.2.1 151 r16.toNatClampNeg) + ((S17.2.2.1 150 v2.toNatClampNeg) / v3.toInt64))), S17.2.2.2) v1 v2 v3 v4) else none) else none) else none) else none))))) else none)))
def lfX11_steps_130_76 (x : XT) (k23 : ST → Int32 → Int32 → Option (Unit × ST)) : Nat → ST → Int32 → Int32 → Int32 → Int32 → Option (Unit × ST)
  | 0, _, _, _, _, _ => none
  | n + 1, S, v1, v2, v3, v4 => bfX11_steps_130_76 x k23 (lfX11_steps_130_76 x k23 n) S v1 v2 v3 v4
def bfX11_steps_130_73 (x : XT) (k23 : ST → Int32 → Int32 → Option (Unit × ST)) (S : ST) (v1 : Int32) (v2 : Int32) (v3 : Int32) : Option (Unit × ST) :=
  lfX11_steps_130_76 x k23 20000 S v1 v2 v3 0
def bfX11_steps_130_53 (x : XT) (k23 : ST → Int32 → Int32 → Option (Unit × ST)) (S : ST) (v1 : Int32) (v2 : Int32) (t0 : Int32) : Option (Unit × ST) :=
  if ¬ t0 = 0 then (bfX11_steps_130_73 x k23 S v1 v2 t0) else (bif inb v2 120 then (bif inb v2 120 then (bif inb v2 120 then (bfX11_steps_130_73 x k23 (S.1, S.2.1, (u2 S.2.2.1 151 v2.toNatClampNeg ((S.2.2.1 151 v2.toNatClampNeg) + (S.2.2.1 150 v2.toNatClampNeg))), S.2.2.2) v1 v2 t0) else none) else none) else none)
def bfX11_steps_130_52 (x : XT) (k23 : ST → Int32 → Int32 → Option (Unit × ST)) (S : ST) (v1 : Int32) (v2 : Int32) : Option (Unit × ST) :=
  bfX11_steps_130_53 x k23 S v1 v2 1
def bfX11_steps_130_23 (x : XT) (k23 : ST → Int32 → Int32 → Option (Unit × ST)) (S : ST) (v1 : Int32) (v2 : Int32) : Option (Unit × ST) :=
  if 120 ≤ v2 then (lfX11_steps_130_149 x  20000 S 0) else (if v1 = 0 then (bfX11_steps_130_52 x k23 S v1 v2) else (bif inb v2 120 then (if (lg_cmp (S.2.2.1 150 v2.toNatClampNeg) 0) ≤ 0 then (bfX11_steps_130_52 x k23 S v1 v2) else (match gfX11_gatesFrom_130 x S v2 with
    | none => none
    | some (r7, S8) => (bfX11_steps_130_53 x k23 S8 v1 v2 r7))) else none))
def lfX11_steps_130_23 (x : XT)  : Nat → ST → Int32 → Int32 → Option (Unit × ST)
  | 0, _, _, _ => none
  | n + 1, S, v1, v2 => bfX11_steps_130_23 x (lfX11_steps_130_23 x  n) S v1 v2
def bfX11_steps_130_2 (x : XT) (k2 : ST → Int32 → Int32 → Option (Unit × ST)) (S : ST) (v1 : Int32) (v2 : Int32) : Option (Unit × ST) :=
  if 120 ≤ v2 then (lfX11_steps_130_23 x  20000 S v1 0) else (bif inb v2 120 then (k2 (S.1, S.2.1, (u2 S.2.2.1 151 v2.toNatClampNeg 0), S.2.2.2) v1 (v2 + 1)) else none)
def lfX11_steps_130_2 (x : XT)  : Nat → ST → Int32 → Int32 → Option (Unit × ST)
  | 0, _, _, _ => none
  | n + 1, S, v1, v2 => bfX11_steps_130_2 x (lfX11_steps_130_2 x  n) S v1 v2
def bfX11_steps_130_0 (x : XT)  (S : ST) (p1 : Int32) : Option (Unit × ST) :=
  lfX11_steps_130_2 x  20000 S p1 0
def gfX11_steps_130 (x : XT) (S : ST) (p1 : Int32) : Option (Unit × ST) := bfX11_steps_130_0 x S p1
def bfX11_partsAt_130_34 (x : XT) (k5 : ST → Int32 → Int32 → Int64 → Int32 → Option (Int64 × ST)) (S : ST) (v1 : Int32) (v2 : Int32) (v5 : Int32) (t0 : Int64) (t1 : Int64) : Option (Int64 × ST) :=
  k5 S v1 v2 (t0 + t1) (v5 + 1)
def bfX11_partsAt_130_5 (x : XT) (k5 : ST → Int32 → Int32 → Int64 → Int32 → Option (Int64 × ST)) (S : ST) (v1 : Int32) (v2 : Int32) (v3 : Int64) (v5 : Int32) : Option (Int64 × ST) :=
  if 120 ≤ v5 then (some (v3, S)) else (match gfX11_isGoal x S v5 v1 v2 with
    | none => none
    | some (r4, S5) => (if r4 = 0 then (bfX11_partsAt_130_34 x k5 S5 v1 v2 v5 v3 0) else (bif inb v5 120 then (bfX11_partsAt_130_34 x k5 S5 v1 v2 v5 v3 (S5.2.2.1 150 v5.toNatClampNeg)) else none)))
def lfX11_partsAt_130_5 (x : XT)  : Nat → ST → Int32 → Int32 → Int64 → Int32 → Option (Int64 × ST)
  | 0, _, _, _, _, _ => none
  | n + 1, S, v1, v2, v3, v5 => bfX11_partsAt_130_5 x (lfX11_partsAt_130_5 x  n) S v1 v2 v3 v5
def bfX11_partsAt_130_0 (x : XT)  (S : ST) (p1 : Int32) (p2 : Int32) : Option (Int64 × ST) :=
  lfX11_partsAt_130_5 x  20000 S p1 p2 0 0
def gfX11_partsAt_130 (x : XT) (S : ST) (p1 : Int32) (p2 : Int32) : Option (Int64 × ST) := bfX11_partsAt_130_0 x S p1 p2
def bfX11_ways_130_27 (x : XT)  (S : ST)  : Option (Int64 × ST) :=
  some ((-1), S)
def bfX11_ways_130_40 (x : XT) (k40 : ST → Int32 → Int32 → Int32 → Int32 → Option (Int64 × ST)) (S : ST) (v2 : Int32) (v3 : Int32) (v4 : Int32) (v5 : Int32) : Option (Int64 × ST) :=
  if v4 ≤ v5 then (match gfX11_partsAt_130 x S v2 v3 with
    | none => none
    | some (r4, S5) => (some (r4, S5))) else (match gfX11_steps_130 x S 0 with
    | none => none
    | some (r8, S9) => (k40 S9 v2 v3 v4 (v5 + 1)))
def lfX11_ways_130_40 (x : XT)  : Nat → ST → Int32 → Int32 → Int32 → Int32 → Option (Int64 × ST)
  | 0, _, _, _, _, _ => none
  | n + 1, S, v2, v3, v4, v5 => bfX11_ways_130_40 x (lfX11_ways_130_40 x  n) S v2 v3 v4 v5
def bfX11_ways_130_0 (x : XT)  (S : ST) (p1 : Int32) (p2 : Int32) (p3 : Int32) (p4 : Int32) : Option (Int64 × ST) :=
  match gfX11_isGoer_130 x S p1 with
    | none => none
    | some (r3, S4) => (if r3 = 0 then (bfX11_ways_130_27 x S4) else (match gfX11_canBeGoal x S4 p2 p3 with
    | none => none
    | some (r8, S9) => (if r8 = 0 then (bfX11_ways_130_27 x S9) else (match gfX11_lies x S9 p4 0 12 with
    | none => none
    | some (r13, S14) => (if ¬ r13 = 0 then (match gfX11_laysParts_130 x S14 p1 1 with
    | none => none
    | some (r18, S19) => (lfX11_ways_130_40 x  20000 S19 p2 p3 p4 0)) else (bfX11_ways_130_27 x S14))))))
def gfX11_ways_130 (x : XT) (S : ST) (p1 : Int32) (p2 : Int32) (p3 : Int32) (p4 : Int32) : Option (Int64 × ST) := bfX11_ways_130_0 x S p1 p2 p3 p4
def bfX11_likely_130_27 (x : XT)  (S : ST)  : Option (Int64 × ST) :=
  some ((-1), S)
def bfX11_likely_130_42 (x : XT) (k42 : ST → Int32 → Int32 → Int32 → Int32 → Option (Int64 × ST)) (S : ST) (v2 : Int32) (v3 : Int32) (v4 : Int32) (v5 : Int32) : Option (Int64 × ST) :=
  if v4 ≤ v5 then (match gfX11_partsAt_130 x S v2 v3 with
    | none => none
    | some (r4, S5) => (some (r4, S5))) else (match gfX11_steps_130 x S 1 with
    | none => none
    | some (r8, S9) => (k42 S9 v2 v3 v4 (v5 + 1)))
def lfX11_likely_130_42 (x : XT)  : Nat → ST → Int32 → Int32 → Int32 → Int32 → Option (Int64 × ST)
  | 0, _, _, _, _, _ => none
  | n + 1, S, v2, v3, v4, v5 => bfX11_likely_130_42 x (lfX11_likely_130_42 x  n) S v2 v3 v4 v5
def bfX11_likely_130_0 (x : XT)  (S : ST) (p1 : Int32) (p2 : Int32) (p3 : Int32) (p4 : Int32) : Option (Int64 × ST) :=
  match gfX11_isGoer_130 x S p1 with
    | none => none
    | some (r3, S4) => (if r3 = 0 then (bfX11_likely_130_27 x S4) else (match gfX11_canBeGoal x S4 p2 p3 with
    | none => none
    | some (r8, S9) => (if r8 = 0 then (bfX11_likely_130_27 x S9) else (match gfX11_lies x S9 p4 0 30 with
    | none => none
    | some (r13, S14) => (if ¬ r13 = 0 then (match gfX11_laysParts_130 x S14 p1 1000000000000 with
    | none => none
    | some (r18, S19) => (lfX11_likely_130_42 x  20000 S19 p2 p3 p4 0)) else (bfX11_likely_130_27 x S14))))))
def gfX11_likely_130 (x : XT) (S : ST) (p1 : Int32) (p2 : Int32) (p3 : Int32) (p4 : Int32) : Option (Int64 × ST) := bfX11_likely_130_0 x S p1 p2 p3 p4
def bfX11_again_130_25 (x : XT)  (S : ST)  : Option (Int32 × ST) :=
  some ((-1), S)
def bfX11_again_130_128 (x : XT)  (S : ST) (t0 : Int32) : Option (Int32 × ST) :=
  some (t0, S)
def bfX11_again_130_64 (x : XT) (k64 : ST → Int32 → Int32 → Int32 → Int32 → Int32 → Option (Int32 × ST)) (S : ST) (v1 : Int32) (v2 : Int32) (v3 : Int32) (v4 : Int32) (v5 : Int32) : Option (Int32 × ST) :=
  bif inb v4 20 then (if ¬ (S.2.1 152 v4.toNatClampNeg) = (-1) then (if ¬ v3 = 0 then (bif inb v4 20 then (bfX11_again_130_128 x S (v5 - (S.2.1 152 v4.toNatClampNeg))) else none) else (bif inb v4 20 then (bfX11_again_130_128 x S (S.2.1 152 v4.toNatClampNeg)) else none)) else (bif inb v4 20 then (match gfX11_setsGate_130 x (S.1, (u2 S.2.1 152 v4.toNatClampNeg v5), S.2.2.1, S.2.2.2) v1 v2 v4 with
    | none => none
    | some (r9, S10) => (match gfX11_turnsNow_130 x S10 with
    | none => none
    | some (r13, S14) => (k64 S14 v1 v2 v3 r13 (v5 + 1)))) else none)) else none
def lfX11_again_130_64 (x : XT)  : Nat → ST → Int32 → Int32 → Int32 → Int32 → Int32 → Option (Int32 × ST)
  | 0, _, _, _, _, _, _ => none
  | n + 1, S, v1, v2, v3, v4, v5 => bfX11_again_130_64 x (lfX11_again_130_64 x  n) S v1 v2 v3 v4 v5
def bfX11_again_130_30 (x : XT) (k30 : ST → Int32 → Int32 → Int32 → Int32 → Option (Int32 × ST)) (S : ST) (v1 : Int32) (v2 : Int32) (v3 : Int32) (v4 : Int32) : Option (Int32 × ST) :=
  if 20 ≤ v4 then (bif inb (5 + v1) 5703 then (lfX11_again_130_64 x  20000 S v1 v2 v3 (S.2.1 132 ((5 + v1).toNatClampNeg)) 0) else none) else (bif inb v4 20 then (k30 (S.1, (u2 S.2.1 152 v4.toNatClampNeg (-1)), S.2.2.1, S.2.2.2) v1 v2 v3 (v4 + 1)) else none)
def lfX11_again_130_30 (x : XT)  : Nat → ST → Int32 → Int32 → Int32 → Int32 → Option (Int32 × ST)
  | 0, _, _, _, _, _ => none
  | n + 1, S, v1, v2, v3, v4 => bfX11_again_130_30 x (lfX11_again_130_30 x  n) S v1 v2 v3 v4
def bfX11_again_130_0 (x : XT)  (S : ST) (p1 : Int32) (p2 : Int32) (p3 : Int32) : Option (Int32 × ST) :=
  match gfX11_isGoer_130 x S p1 with
    | none => none
    | some (r3, S4) => (if r3 = 0 then (bfX11_again_130_25 x S4) else (match gfX11_isGate_130 x S4 p2 with
    | none => none
    | some (r8, S9) => (if r8 = 0 then (bfX11_again_130_25 x S9) else (match gfX11_lies x S9 p3 0 1 with
    | none => none
    | some (r13, S14) => (if ¬ r13 = 0 then (lfX11_again_130_30 x  20000 S14 p1 p2 p3 0) else (bfX11_again_130_25 x S14))))))
def gfX11_again_130 (x : XT) (S : ST) (p1 : Int32) (p2 : Int32) (p3 : Int32) : Option (Int32 × ST) := bfX11_again_130_0 x S p1 p2 p3
def bfX11_hasWay_130_55 (x : XT) (k16 : ST → Int32 → Int32 → Int32 → Int32 → Option (Int32 × ST)) (S : ST) (v2 : Int32) (v3 : Int32) (v5 : Int32) (t0 : Int32) : Option (Int32 × ST) :=
  k16 S v2 v3 t0 (v5 + 1)
def bfX11_hasWay_130_50 (x : XT) (k16 : ST → Int32 → Int32 → Int32 → Int32 → Option (Int32 × ST)) (S : ST) (v2 : Int32) (v3 : Int32) (v5 : Int32) : Option (Int32 × ST) :=
  bfX11_hasWay_130_55 x k16 S v2 v3 v5 1
def bfX11_hasWay_130_54 (x : XT) (k16 : ST → Int32 → Int32 → Int32 → Int32 → Option (Int32 × ST)) (S : ST) (v2 : Int32) (v3 : Int32) (v5 : Int32) : Option (Int32 × ST) :=
  bfX11_hasWay_130_55 x k16 S v2 v3 v5 0
def bfX11_hasWay_130_16 (x : XT) (k16 : ST → Int32 → Int32 → Int32 → Int32 → Option (Int32 × ST)) (S : ST) (v2 : Int32) (v3 : Int32) (v4 : Int32) (v5 : Int32) : Option (Int32 × ST) :=
  if 120 ≤ v5 then (bif bbz v4 then (some (v4, S)) else none) else (if ¬ v4 = 0 then (bfX11_hasWay_130_50 x k16 S v2 v3 v5) else (bif inb v5 120 then (if 1000000 ≤ (S.2.1 148 v5.toNatClampNeg) then (bfX11_hasWay_130_54 x k16 S v2 v3 v5) else (match gfX11_isGoal x S v5 v2 v3 with
    | none => none
    | some (r8, S9) => (if r8 = 0 then (bfX11_hasWay_130_54 x k16 S9 v2 v3 v5) else (bfX11_hasWay_130_50 x k16 S9 v2 v3 v5)))) else none))
def lfX11_hasWay_130_16 (x : XT)  : Nat → ST → Int32 → Int32 → Int32 → Int32 → Option (Int32 × ST)
  | 0, _, _, _, _, _ => none
  | n + 1, S, v2, v3, v4, v5 => bfX11_hasWay_130_16 x (lfX11_hasWay_130_16 x  n) S v2 v3 v4 v5
def bfX11_hasWay_130_0 (x : XT)  (S : ST) (p1 : Int32) (p2 : Int32) (p3 : Int32) : Option (Int32 × ST) :=
  match gfX11_placeOf_130 x S p1 with
    | none => none
    | some (r3, S4) => (match gfX11_laysGone_130 x S4 r3 0 with
    | none => none
    | some (r7, S8) => (lfX11_hasWay_130_16 x  20000 S8 p2 p3 0 0))
def gfX11_hasWay_130 (x : XT) (S : ST) (p1 : Int32) (p2 : Int32) (p3 : Int32) : Option (Int32 × ST) := bfX11_hasWay_130_0 x S p1 p2 p3
def bfX11_fixedAt_130_82 (x : XT)  (S : ST) (v1 : Int32) (v2 : Int32) (v5 : Int32) (v6 : Int32) : Option (Int32 × ST) :=
  bif inb (15 + v2) 5703 then (match gfX11_laysGate_130 x (S.1, (u2 S.2.1 132 ((15 + v2).toNatClampNeg) v5), S.2.2.1, S.2.2.2) v1 v2 with
    | none => none
    | some (r4, S5) => (some (v6, S5))) else none
def bfX11_fixedAt_130_76 (x : XT) (k17 : ST → Int32 → Int32 → Int32 → Int32 → Int32 → Int32 → Int32 → Option (Int32 × ST)) (S : ST) (v1 : Int32) (v2 : Int32) (v3 : Int32) (v4 : Int32) (v5 : Int32) (v6 : Int32) (v7 : Int32) : Option (Int32 × ST) :=
  k17 S v1 v2 v3 v4 v5 v6 (v7 + 1)
def bfX11_fixedAt_130_74 (x : XT) (k17 : ST → Int32 → Int32 → Int32 → Int32 → Int32 → Int32 → Int32 → Option (Int32 × ST)) (S : ST) (v1 : Int32) (v2 : Int32) (v3 : Int32) (v4 : Int32) (v5 : Int32) (v7 : Int32) (t0 : Int32) : Option (Int32 × ST) :=
  bfX11_fixedAt_130_76 x k17 S v1 v2 v3 v4 v5 t0 v7
def bfX11_fixedAt_130_17 (x : XT) (k17 : ST → Int32 → Int32 → Int32 → Int32 → Int32 → Int32 → Int32 → Option (Int32 × ST)) (S : ST) (v1 : Int32) (v2 : Int32) (v3 : Int32) (v4 : Int32) (v5 : Int32) (v6 : Int32) (v7 : Int32) : Option (Int32 × ST) :=
  if 9 < v7 then (bfX11_fixedAt_130_82 x S v1 v2 v5 v6) else (if ¬ v6 = (-1) then (bfX11_fixedAt_130_82 x S v1 v2 v5 v6) else (if ¬ v7 = v5 then (bif inb (15 + v2) 5703 then (match gfX11_laysGate_130 x (S.1, (u2 S.2.1 132 ((15 + v2).toNatClampNeg) v7), S.2.2.1, S.2.2.2) v1 v2 with
    | none => none
    | some (r7, S8) => (match gfX11_hasWay_130 x S8 v1 v3 v4 with
    | none => none
    | some (r11, S12) => (if r11 = 0 then (bfX11_fixedAt_130_74 x k17 S12 v1 v2 v3 v4 v5 v7 (-1)) else (bfX11_fixedAt_130_74 x k17 S12 v1 v2 v3 v4 v5 v7 v7)))) else none) else (bfX11_fixedAt_130_76 x k17 S v1 v2 v3 v4 v5 v6 v7)))
def lfX11_fixedAt_130_17 (x : XT)  : Nat → ST → Int32 → Int32 → Int32 → Int32 → Int32 → Int32 → Int32 → Option (Int32 × ST)
  | 0, _, _, _, _, _, _, _, _ => none
  | n + 1, S, v1, v2, v3, v4, v5, v6, v7 => bfX11_fixedAt_130_17 x (lfX11_fixedAt_130_17 x  n) S v1 v2 v3 v4 v5 v6 v7
def bfX11_fixedAt_130_0 (x : XT)  (S : ST) (p1 : Int32) (p2 : Int32) (p3 : Int32) (p4 : Int32) : Option (Int32 × ST) :=
  bif inb (15 + p2) 5703 then (lfX11_fixedAt_130_17 x  20000 S p1 p2 p3 p4 (S.2.1 132 ((15 + p2).toNatClampNeg)) (-1) 0) else none
def gfX11_fixedAt_130 (x : XT) (S : ST) (p1 : Int32) (p2 : Int32) (p3 : Int32) (p4 : Int32) : Option (Int32 × ST) := bfX11_fixedAt_130_0 x S p1 p2 p3 p4
def bfX11_fixed_130_16 (x : XT)  (S : ST)  : Option (Int32 × ST) :=
  some ((-1), S)
def bfX11_fixed_130_39 (x : XT) (k39 : ST → Int32 → Int32 → Int32 → Int32 → Option (Int32 × ST)) (S : ST) (v1 : Int32) (v2 : Int32) (v3 : Int32) (v4 : Int32) : Option (Int32 × ST) :=
  match gfX11_gateMany_130 x S with
    | none => none
    | some (r3, S4) => (if r3 ≤ v4 then (some ((-1), S4)) else (match gfX11_fixedAt_130 x S4 v1 v4 v2 v3 with
    | none => none
    | some (r8, S9) => (if r8 = (-1) then (k39 S9 v1 v2 v3 (v4 + 1)) else (some ((10 * v4) + r8, S9)))))
def lfX11_fixed_130_39 (x : XT)  : Nat → ST → Int32 → Int32 → Int32 → Int32 → Option (Int32 × ST)
  | 0, _, _, _, _, _ => none
  | n + 1, S, v1, v2, v3, v4 => bfX11_fixed_130_39 x (lfX11_fixed_130_39 x  n) S v1 v2 v3 v4
def bfX11_fixed_130_0 (x : XT)  (S : ST) (p1 : Int32) (p2 : Int32) (p3 : Int32) : Option (Int32 × ST) :=
  match gfX11_isGoer_130 x S p1 with
    | none => none
    | some (r3, S4) => (if r3 = 0 then (bfX11_fixed_130_16 x S4) else (match gfX11_canBeGoal x S4 p2 p3 with
    | none => none
    | some (r8, S9) => (if ¬ r8 = 0 then (match gfX11_laysOut_130 x S9 p1 with
    | none => none
    | some (r13, S14) => (match gfX11_hasWay_130 x S14 p1 p2 p3 with
    | none => none
    | some (r17, S18) => (if r17 = 0 then (lfX11_fixed_130_39 x  20000 S18 p1 p2 p3 0) else (some (100, S18))))) else (bfX11_fixed_130_16 x S9))))
def gfX11_fixed_130 (x : XT) (S : ST) (p1 : Int32) (p2 : Int32) (p3 : Int32) : Option (Int32 × ST) := bfX11_fixed_130_0 x S p1 p2 p3
def bfX11_cut_130_36 (x : XT)  (S : ST)  : Option (Int32 × ST) :=
  some ((-1), S)
def bfX11_cut_130_175 (x : XT)  (S : ST) (t0 : Int32) : Option (Int32 × ST) :=
  some (t0, S)
def bfX11_cut_130_155 (x : XT) (k88 : ST → Int32 → Int32 → Int32 → Int32 → Int32 → Int32 → Option (Int32 × ST)) (S : ST) (v1 : Int32) (v2 : Int32) (v3 : Int32) (v4 : Int32) (v5 : Int32) (v6 : Int32) : Option (Int32 × ST) :=
  k88 S v1 v2 v3 v4 v5 (v6 + 1)
def bfX11_cut_130_153 (x : XT) (k88 : ST → Int32 → Int32 → Int32 → Int32 → Int32 → Int32 → Option (Int32 × ST)) (S : ST) (v1 : Int32) (v2 : Int32) (v3 : Int32) (v4 : Int32) (v6 : Int32) (t0 : Int32) : Option (Int32 × ST) :=
  bfX11_cut_130_155 x k88 S v1 v2 v3 v4 t0 v6
def bfX11_cut_130_127 (x : XT) (k88 : ST → Int32 → Int32 → Int32 → Int32 → Int32 → Int32 → Option (Int32 × ST)) (S : ST) (v1 : Int32) (v2 : Int32) (v3 : Int32) (v4 : Int32) (v5 : Int32) (v6 : Int32) : Option (Int32 × ST) :=
  match gfX11_placeOf_130 x S v1 with
    | none => none
    | some (r3, S4) => (match gfX11_laysGone_130 x S4 r3 v6 with
    | none => none
    | some (r7, S8) => (match gfX11_comesTo_130 x S8 v2 with
    | none => none
    | some (r11, S12) => (if r11 = 0 then (bfX11_cut_130_153 x k88 S12 v1 v2 v3 v4 v6 v6) else (bfX11_cut_130_153 x k88 S12 v1 v2 v3 v4 v6 v5))))
def bfX11_cut_130_88 (x : XT) (k88 : ST → Int32 → Int32 → Int32 → Int32 → Int32 → Int32 → Option (Int32 × ST)) (S : ST) (v1 : Int32) (v2 : Int32) (v3 : Int32) (v4 : Int32) (v5 : Int32) (v6 : Int32) : Option (Int32 × ST) :=
  if v4 < v6 then (if ¬ v3 = 0 then (bfX11_cut_130_175 x S v5) else (match gfX11_ones x S v5 with
    | none => none
    | some (r5, S6) => (bfX11_cut_130_175 x S6 r5))) else (if ¬ (v6 &&& (v4 ^^^ (-1))) = 0 then (bfX11_cut_130_155 x k88 S v1 v2 v3 v4 v5 v6) else (if v5 = (-1) then (bfX11_cut_130_127 x k88 S v1 v2 v3 v4 v5 v6) else (match gfX11_ones x S v6 with
    | none => none
    | some (r11, S12) => (match gfX11_ones x S12 v5 with
    | none => none
    | some (r15, S16) => (if r11 < r15 then (bfX11_cut_130_127 x k88 S16 v1 v2 v3 v4 v5 v6) else (bfX11_cut_130_155 x k88 S16 v1 v2 v3 v4 v5 v6))))))
def lfX11_cut_130_88 (x : XT)  : Nat → ST → Int32 → Int32 → Int32 → Int32 → Int32 → Int32 → Option (Int32 × ST)
  | 0, _, _, _, _, _, _, _ => none
  | n + 1, S, v1, v2, v3, v4, v5, v6 => bfX11_cut_130_88 x (lfX11_cut_130_88 x  n) S v1 v2 v3 v4 v5 v6
def bfX11_cut_130_49 (x : XT) (k49 : ST → Int32 → Int32 → Int32 → Int32 → Int32 → Option (Int32 × ST)) (S : ST) (v1 : Int32) (v2 : Int32) (v3 : Int32) (v4 : Int32) (v5 : Int32) : Option (Int32 × ST) :=
  match gfX11_gateMany_130 x S with
    | none => none
    | some (r3, S4) => (if r3 ≤ v5 then (lfX11_cut_130_88 x  20000 S4 v1 v2 v3 v4 (-1) 0) else (bif inb (25 + v5) 5703 then (k49 S4 v1 v2 v3 (v4 ||| ((S4.2.1 132 ((25 + v5).toNatClampNeg)) <<< (v5 &&& 31))) (v5 + 1)) else none))
def lfX11_cut_130_49 (x : XT)  : Nat → ST → Int32 → Int32 → Int32 → Int32 → Int32 → Option (Int32 × ST)
  | 0, _, _, _, _, _, _ => none
  | n + 1, S, v1, v2, v3, v4, v5 => bfX11_cut_130_49 x (lfX11_cut_130_49 x  n) S v1 v2 v3 v4 v5
def bfX11_cut_130_0 (x : XT)  (S : ST) (p1 : Int32) (p2 : Int32) (p3 : Int32) : Option (Int32 × ST) :=
  match gfX11_isGoer_130 x S p1 with
    | none => none
    | some (r3, S4) => (if r3 = 0 then (bfX11_cut_130_36 x S4) else (match gfX11_isPark x S4 p2 with
    | none => none
    | some (r8, S9) => (if r8 = 0 then (bfX11_cut_130_36 x S9) else (match gfX11_lies x S9 p3 0 1 with
    | none => none
    | some (r13, S14) => (if r13 = 0 then (bfX11_cut_130_36 x S14) else (bif inb (0 + p1) 5703 then (if ¬ (S14.2.1 132 ((0 + p1).toNatClampNeg)) = p2 then (match gfX11_laysOut_130 x S14 p1 with
    | none => none
    | some (r20, S21) => (lfX11_cut_130_49 x  20000 S21 p1 p2 p3 0 0)) else (bfX11_cut_130_36 x S14)) else none))))))
def gfX11_cut_130 (x : XT) (S : ST) (p1 : Int32) (p2 : Int32) (p3 : Int32) : Option (Int32 × ST) := bfX11_cut_130_0 x S p1 p2 p3
def bfX11_meet_130_30 (x : XT)  (S : ST)  : Option (Int32 × ST) :=
  some ((-1), S)
def bfX11_meet_130_169 (x : XT)  (S : ST) (t0 : Int32) : Option (Int32 × ST) :=
  some (t0, S)
def bfX11_meet_130_162 (x : XT)  (S : ST) (v4 : Int32) : Option (Int32 × ST) :=
  bfX11_meet_130_169 x S v4
def bfX11_meet_130_146 (x : XT) (k102 : ST → Int32 → Int32 → Int32 → Int32 → Option (Int32 × ST)) (S : ST) (v3 : Int32) (v4 : Int32) (v5 : Int32) (v6 : Int32) : Option (Int32 × ST) :=
  k102 S v3 v4 v5 (v6 + 1)
def bfX11_meet_130_102 (x : XT) (k102 : ST → Int32 → Int32 → Int32 → Int32 → Option (Int32 × ST)) (S : ST) (v3 : Int32) (v4 : Int32) (v5 : Int32) (v6 : Int32) : Option (Int32 × ST) :=
  if 120 ≤ v6 then (if v4 = (-1) then (bfX11_meet_130_162 x S v4) else (if ¬ v3 = 0 then (bfX11_meet_130_169 x S v5) else (bfX11_meet_130_162 x S v4))) else (bif inb v6 120 then (bif inb v6 120 then (match gfX11_greater x S (S.2.1 153 v6.toNatClampNeg) (S.2.1 148 v6.toNatClampNeg) with
    | none => none
    | some (r8, S9) => (if r8 < v5 then (bfX11_meet_130_146 x k102 S9 v3 v6 r8 v6) else (bfX11_meet_130_146 x k102 S9 v3 v4 v5 v6))) else none) else none)
def lfX11_meet_130_102 (x : XT)  : Nat → ST → Int32 → Int32 → Int32 → Int32 → Option (Int32 × ST)
  | 0, _, _, _, _, _ => none
  | n + 1, S, v3, v4, v5, v6 => bfX11_meet_130_102 x (lfX11_meet_130_102 x  n) S v3 v4 v5 v6
def bfX11_meet_130_50 (x : XT) (k50 : ST → Int32 → Int32 → Int32 → Option (Int32 × ST)) (S : ST) (v2 : Int32) (v3 : Int32) (v4 : Int32) : Option (Int32 × ST) :=
  if 120 ≤ v4 then (match gfX11_laysOut_130 x S v2 with
    | none => none
    | some (r4, S5) => (match gfX11_placeOf_130 x S5 v2 with
    | none => none
    | some (r8, S9) => (match gfX11_laysGone_130 x S9 r8 0 with
    | none => none
    | some (r12, S13) => (lfX11_meet_130_102 x  20000 S13 v3 (-1) 1000000 0)))) else (bif inb v4 120 then (bif inb v4 120 then (k50 (S.1, (u2 S.2.1 153 v4.toNatClampNeg (S.2.1 148 v4.toNatClampNeg)), S.2.2.1, S.2.2.2) v2 v3 (v4 + 1)) else none) else none)
def lfX11_meet_130_50 (x : XT)  : Nat → ST → Int32 → Int32 → Int32 → Option (Int32 × ST)
  | 0, _, _, _, _ => none
  | n + 1, S, v2, v3, v4 => bfX11_meet_130_50 x (lfX11_meet_130_50 x  n) S v2 v3 v4
def bfX11_meet_130_0 (x : XT)  (S : ST) (p1 : Int32) (p2 : Int32) (p3 : Int32) : Option (Int32 × ST) :=
  match gfX11_isGoer_130 x S p1 with
    | none => none
    | some (r3, S4) => (if r3 = 0 then (bfX11_meet_130_30 x S4) else (match gfX11_isGoer_130 x S4 p2 with
    | none => none
    | some (r8, S9) => (if r8 = 0 then (bfX11_meet_130_30 x S9) else (if p1 = p2 then (bfX11_meet_130_30 x S9) else (match gfX11_lies x S9 p3 0 1 with
    | none => none
    | some (r14, S15) => (if ¬ r14 = 0 then (match gfX11_laysOut_130 x S15 p1 with
    | none => none
    | some (r19, S20) => (match gfX11_placeOf_130 x S20 p1 with
    | none => none
    | some (r23, S24) => (match gfX11_laysGone_130 x S24 r23 0 with
    | none => none
    | some (r27, S28) => (lfX11_meet_130_50 x  20000 S28 p2 p3 0)))) else (bfX11_meet_130_30 x S15)))))))
def gfX11_meet_130 (x : XT) (S : ST) (p1 : Int32) (p2 : Int32) (p3 : Int32) : Option (Int32 × ST) := bfX11_meet_130_0 x S p1 p2 p3
def bfX11_seen_130_21 (x : XT)  (S : ST)  : Option (Int32 × ST) :=
  match gfX11_refuses_130 x S (-1) with
    | none => none
    | some (r3, S4) => (some (r3, S4))
def bfX11_seen_130_0 (x : XT)  (S : ST) (p1 : Int32) (p2 : Int32) (p3 : Int32) : Option (Int32 × ST) :=
  match gfX11_isArm x S p1 with
    | none => none
    | some (r3, S4) => (if r3 = 0 then (bfX11_seen_130_21 x S4) else (match gfX11_isMany x S4 p2 with
    | none => none
    | some (r8, S9) => (if r8 = 0 then (bfX11_seen_130_21 x S9) else (match gfX11_isMany x S9 p3 with
    | none => none
    | some (r13, S14) => (if ¬ r13 = 0 then (if ¬ (S14.2.1 132 93) = 6 then (bif inb (71 + (3 * (S14.2.1 132 93))) 5703 then (bif inb ((71 + (3 * (S14.2.1 132 93))) + 1) 5703 then (bif inb ((71 + (3 * (S14.2.1 132 93))) + 2) 5703 then (match gfX11_good_130 x (S14.1, (u2 (u2 (u2 (u2 S14.2.1 132 ((71 + (3 * (S14.2.1 132 93))).toNatClampNeg) p1) 132 (((71 + (3 * (S14.2.1 132 93))) + 1).toNatClampNeg) p2) 132 (((71 + (3 * (S14.2.1 132 93))) + 2).toNatClampNeg) p3) 132 93 (((u2 (u2 (u2 S14.2.1 132 ((71 + (3 * (S14.2.1 132 93))).toNatClampNeg) p1) 132 (((71 + (3 * (S14.2.1 132 93))) + 1).toNatClampNeg) p2) 132 (((71 + (3 * (S14.2.1 132 93))) + 2).toNatClampNeg) p3) 132 93) + 1)), S14.2.2.1, S14.2.2.2) (((u2 (u2 (u2 S14.2.1 132 ((71 + (3 * (S14.2.1 132 93))).toNatClampNeg) p1) 132 (((71 + (3 * (S14.2.1 132 93))) + 1).toNatClampNeg) p2) 132 (((71 + (3 * (S14.2.1 132 93))) + 2).toNatClampNeg) p3) 132 93) + 1) with
    | none => none
    | some (r22, S23) => (some (r22, S23))) else none) else none) else none) else (match gfX11_refuses_130 x S14 (-5) with
    | none => none
    | some (r26, S27) => (some (r26, S27)))) else (bfX11_seen_130_21 x S14))))))
def gfX11_seen_130 (x : XT) (S : ST) (p1 : Int32) (p2 : Int32) (p3 : Int32) : Option (Int32 × ST) := bfX11_seen_130_0 x S p1 p2 p3
def bfX11_forget_130_0 (x : XT)  (S : ST)  : Option (Int32 × ST) :=
  some ((S.2.1 132 93), (S.1, (u2 S.2.1 132 93 0), S.2.2.1, S.2.2.2))
def gfX11_forget_130 (x : XT) (S : ST)  : Option (Int32 × ST) := bfX11_forget_130_0 x S 
def bfX11_outOf_130_25 (x : XT)  (S : ST) (t0 : Int32) : Option (Int32 × ST) :=
  some (t0, S)
def bfX11_outOf_130_0 (x : XT)  (S : ST) (p1 : Int32) (p2 : Int32) (p3 : Int32) : Option (Int32 × ST) :=
  match gfX11_setsAsked_130 x S p1 p2 p3 0 (-1) (-1) with
    | none => none
    | some (r3, S4) => (match gfX11_isBarredNow_130 x S4 with
    | none => none
    | some (r7, S8) => (if r7 = 0 then (match gfX11_turnsNow_130 x S8 with
    | none => none
    | some (r12, S13) => (bfX11_outOf_130_25 x S13 r12)) else (bfX11_outOf_130_25 x S8 (-1))))
def gfX11_outOf_130 (x : XT) (S : ST) (p1 : Int32) (p2 : Int32) (p3 : Int32) : Option (Int32 × ST) := bfX11_outOf_130_0 x S p1 p2 p3
def bfX11_canBeKind_130_76 (x : XT)  (S : ST) (v2 : Int32) : Option (Int32 × ST) :=
  bif bbz v2 then (some (v2, S)) else none
def bfX11_canBeKind_130_69 (x : XT) (k4 : ST → Int32 → Int32 → Int32 → Option (Int32 × ST)) (S : ST) (v1 : Int32) (v3 : Int32) (t0 : Int32) : Option (Int32 × ST) :=
  k4 S v1 t0 (v3 + 1)
def bfX11_canBeKind_130_4 (x : XT) (k4 : ST → Int32 → Int32 → Int32 → Option (Int32 × ST)) (S : ST) (v1 : Int32) (v2 : Int32) (v3 : Int32) : Option (Int32 × ST) :=
  if (S.2.1 132 93) ≤ v3 then (bfX11_canBeKind_130_76 x S v2) else (if v2 = 0 then (bfX11_canBeKind_130_76 x S v2) else (bif inb (71 + (3 * v3)) 5703 then (bif inb ((71 + (3 * v3)) + 1) 5703 then (match gfX11_outOf_130 x S v1 (S.2.1 132 ((71 + (3 * v3)).toNatClampNeg)) (S.2.1 132 (((71 + (3 * v3)) + 1).toNatClampNeg)) with
    | none => none
    | some (r7, S8) => (bif inb ((71 + (3 * v3)) + 2) 5703 then (if ¬ r7 = (S8.2.1 132 (((71 + (3 * v3)) + 2).toNatClampNeg)) then (bfX11_canBeKind_130_69 x k4 S8 v1 v3 0) else (bfX11_canBeKind_130_69 x k4 S8 v1 v3 1)) else none)) else none) else none))
def lfX11_canBeKind_130_4 (x : XT)  : Nat → ST → Int32 → Int32 → Int32 → Option (Int32 × ST)
  | 0, _, _, _, _ => none
  | n + 1, S, v1, v2, v3 => bfX11_canBeKind_130_4 x (lfX11_canBeKind_130_4 x  n) S v1 v2 v3
def bfX11_canBeKind_130_0 (x : XT)  (S : ST) (p1 : Int32) : Option (Int32 × ST) :=
  lfX11_canBeKind_130_4 x  20000 S p1 1 0
def gfX11_canBeKind_130 (x : XT) (S : ST) (p1 : Int32) : Option (Int32 × ST) := bfX11_canBeKind_130_0 x S p1
def bfX11_kinds_130_26 (x : XT) (k4 : ST → Int32 → Int32 → Option (Int32 × ST)) (S : ST) (v2 : Int32) (t0 : Int32) (t1 : Int32) : Option (Int32 × ST) :=
  k4 S (t0 ||| t1) (v2 + 1)
def bfX11_kinds_130_4 (x : XT) (k4 : ST → Int32 → Int32 → Option (Int32 × ST)) (S : ST) (v1 : Int32) (v2 : Int32) : Option (Int32 × ST) :=
  if 8 ≤ v2 then (some (v1, S)) else (match gfX11_canBeKind_130 x S v2 with
    | none => none
    | some (r4, S5) => (if r4 = 0 then (bfX11_kinds_130_26 x k4 S5 v2 v1 0) else (bfX11_kinds_130_26 x k4 S5 v2 v1 (1 <<< (v2 &&& 31)))))
def lfX11_kinds_130_4 (x : XT)  : Nat → ST → Int32 → Int32 → Option (Int32 × ST)
  | 0, _, _, _ => none
  | n + 1, S, v1, v2 => bfX11_kinds_130_4 x (lfX11_kinds_130_4 x  n) S v1 v2
def bfX11_kinds_130_0 (x : XT)  (S : ST)  : Option (Int32 × ST) :=
  lfX11_kinds_130_4 x  20000 S 0 0
def gfX11_kinds_130 (x : XT) (S : ST)  : Option (Int32 × ST) := bfX11_kinds_130_0 x S 
def bfX11_mostAlike_130_86 (x : XT) (k30 : ST → Int32 → Int32 → Int32 → Int32 → Int32 → Option (Int32 × ST)) (S : ST) (v1 : Int32) (v2 : Int32) (v3 : Int32) (v4 : Int32) (v5 : Int32) : Option (Int32 × ST) :=
  k30 S v1 v2 v3 v4 (v5 + 1)
def bfX11_mostAlike_130_30 (x : XT) (k30 : ST → Int32 → Int32 → Int32 → Int32 → Int32 → Option (Int32 × ST)) (S : ST) (v1 : Int32) (v2 : Int32) (v3 : Int32) (v4 : Int32) (v5 : Int32) : Option (Int32 × ST) :=
  if 8 ≤ v5 then (some (v4, S)) else (match gfX11_isIn x S v1 v5 with
    | none => none
    | some (r4, S5) => (if ¬ r4 = 0 then (match gfX11_outOf_130 x S5 v5 v2 v3 with
    | none => none
    | some (r9, S10) => (bif inb (r9 + 1) 21 then (bif inb (r9 + 1) 21 then (bif inb (r9 + 1) 21 then (match gfX11_greater x (S10.1, (u2 S10.2.1 154 ((r9 + 1).toNatClampNeg) ((S10.2.1 154 ((r9 + 1).toNatClampNeg)) + 1)), S10.2.2.1, S10.2.2.2) v4 ((u2 S10.2.1 154 ((r9 + 1).toNatClampNeg) ((S10.2.1 154 ((r9 + 1).toNatClampNeg)) + 1)) 154 ((r9 + 1).toNatClampNeg)) with
    | none => none
    | some (r16, S17) => (bfX11_mostAlike_130_86 x k30 S17 v1 v2 v3 r16 v5)) else none) else none) else none)) else (bfX11_mostAlike_130_86 x k30 S5 v1 v2 v3 v4 v5)))
def lfX11_mostAlike_130_30 (x : XT)  : Nat → ST → Int32 → Int32 → Int32 → Int32 → Int32 → Option (Int32 × ST)
  | 0, _, _, _, _, _, _ => none
  | n + 1, S, v1, v2, v3, v4, v5 => bfX11_mostAlike_130_30 x (lfX11_mostAlike_130_30 x  n) S v1 v2 v3 v4 v5
def bfX11_mostAlike_130_3 (x : XT) (k3 : ST → Int32 → Int32 → Int32 → Int32 → Option (Int32 × ST)) (S : ST) (v1 : Int32) (v2 : Int32) (v3 : Int32) (v4 : Int32) : Option (Int32 × ST) :=
  if 20 < v4 then (lfX11_mostAlike_130_30 x  20000 S v1 v2 v3 0 0) else (bif inb v4 21 then (k3 (S.1, (u2 S.2.1 154 v4.toNatClampNeg 0), S.2.2.1, S.2.2.2) v1 v2 v3 (v4 + 1)) else none)
def lfX11_mostAlike_130_3 (x : XT)  : Nat → ST → Int32 → Int32 → Int32 → Int32 → Option (Int32 × ST)
  | 0, _, _, _, _, _ => none
  | n + 1, S, v1, v2, v3, v4 => bfX11_mostAlike_130_3 x (lfX11_mostAlike_130_3 x  n) S v1 v2 v3 v4
def bfX11_mostAlike_130_0 (x : XT)  (S : ST) (p1 : Int32) (p2 : Int32) (p3 : Int32) : Option (Int32 × ST) :=
  lfX11_mostAlike_130_3 x  20000 S p1 p2 p3 0
def gfX11_mostAlike_130 (x : XT) (S : ST) (p1 : Int32) (p2 : Int32) (p3 : Int32) : Option (Int32 × ST) := bfX11_mostAlike_130_0 x S p1 p2 p3
def bfX11_ask_130_16 (x : XT)  (S : ST)  : Option (Int32 × ST) :=
  some ((-1), S)
def bfX11_ask_130_95 (x : XT)  (S : ST) (t0 : Int32) : Option (Int32 × ST) :=
  some (t0, S)
def bfX11_ask_130_88 (x : XT)  (S : ST) (v4 : Int32) : Option (Int32 × ST) :=
  bfX11_ask_130_95 x S v4
def bfX11_ask_130_78 (x : XT)  (S : ST) (v2 : Int32) (v4 : Int32) (v5 : Int32) : Option (Int32 × ST) :=
  if v4 = (-1) then (bfX11_ask_130_88 x S v4) else (if ¬ v2 = 0 then (bfX11_ask_130_95 x S v5) else (bfX11_ask_130_88 x S v4))
def bfX11_ask_130_72 (x : XT) (k33 : ST → Int32 → Int32 → Int32 → Int32 → Int32 → Int32 → Option (Int32 × ST)) (S : ST) (v1 : Int32) (v2 : Int32) (v3 : Int32) (v4 : Int32) (v5 : Int32) (v6 : Int32) : Option (Int32 × ST) :=
  k33 S v1 v2 v3 v4 v5 (v6 + 1)
def bfX11_ask_130_33 (x : XT) (k33 : ST → Int32 → Int32 → Int32 → Int32 → Int32 → Int32 → Option (Int32 × ST)) (S : ST) (v1 : Int32) (v2 : Int32) (v3 : Int32) (v4 : Int32) (v5 : Int32) (v6 : Int32) : Option (Int32 × ST) :=
  if 20 ≤ v6 then (bfX11_ask_130_78 x S v2 v4 v5) else (if v3 = 0 then (bfX11_ask_130_78 x S v2 v4 v5) else (match gfX11_mostAlike_130 x S v3 v1 v6 with
    | none => none
    | some (r5, S6) => (if r5 < v5 then (bfX11_ask_130_72 x k33 S6 v1 v2 v3 v6 r5 v6) else (bfX11_ask_130_72 x k33 S6 v1 v2 v3 v4 v5 v6))))
def lfX11_ask_130_33 (x : XT)  : Nat → ST → Int32 → Int32 → Int32 → Int32 → Int32 → Int32 → Option (Int32 × ST)
  | 0, _, _, _, _, _, _, _ => none
  | n + 1, S, v1, v2, v3, v4, v5, v6 => bfX11_ask_130_33 x (lfX11_ask_130_33 x  n) S v1 v2 v3 v4 v5 v6
def bfX11_ask_130_0 (x : XT)  (S : ST) (p1 : Int32) (p2 : Int32) : Option (Int32 × ST) :=
  match gfX11_isArm x S p1 with
    | none => none
    | some (r3, S4) => (if r3 = 0 then (bfX11_ask_130_16 x S4) else (match gfX11_lies x S4 p2 0 1 with
    | none => none
    | some (r8, S9) => (if ¬ r8 = 0 then (match gfX11_kinds_130 x S9 with
    | none => none
    | some (r13, S14) => (lfX11_ask_130_33 x  20000 S14 p1 p2 r13 (-1) 1000000 0)) else (bfX11_ask_130_16 x S9))))
def gfX11_ask_130 (x : XT) (S : ST) (p1 : Int32) (p2 : Int32) : Option (Int32 × ST) := bfX11_ask_130_0 x S p1 p2
def bfX11_few_130_20 (x : XT)  (S : ST)  : Option (Int64 × ST) :=
  some ((-1), S)
def bfX11_few_130_151 (x : XT) (k151 : ST → Int32 → Int64 → Int32 → Option (Int64 × ST)) (S : ST) (v1 : Int32) (v3 : Int64) (v5 : Int32) : Option (Int64 × ST) :=
  if v1 ≤ v5 then (some (v3, S)) else (bif inb v5 21 then (k151 S v1 (v3 + (S.2.2.1 155 v5.toNatClampNeg)) (v5 + 1)) else none)
def lfX11_few_130_151 (x : XT)  : Nat → ST → Int32 → Int64 → Int32 → Option (Int64 × ST)
  | 0, _, _, _, _ => none
  | n + 1, S, v1, v3, v5 => bfX11_few_130_151 x (lfX11_few_130_151 x  n) S v1 v3 v5
def bfX11_few_130_67 (x : XT) (k57 : ST → Int32 → Int32 → Int32 → Option (Int64 × ST)) (k67 : ST → Int32 → Int32 → Int32 → Int32 → Option (Int64 × ST)) (S : ST) (v1 : Int32) (v2 : Int32) (v3 : Int32) (v4 : Int32) : Option (Int64 × ST) :=
  if v4 < 0 then (k57 S v1 v2 (v3 + 1)) else (bif inb (v4 + 1) 21 then (bif inb v4 21 then (bif inb (v4 + 1) 21 then (bif inb v4 21 then (bif inb v4 21 then (k67 (S.1, S.2.1, (u2 (u2 S.2.2.1 155 ((v4 + 1).toNatClampNeg) ((S.2.2.1 155 ((v4 + 1).toNatClampNeg)) + (((S.2.2.1 155 v4.toNatClampNeg) * ((S.2.1 132 89).toInt64)) / 10))) 155 v4.toNatClampNeg ((((u2 S.2.2.1 155 ((v4 + 1).toNatClampNeg) ((S.2.2.1 155 ((v4 + 1).toNatClampNeg)) + (((S.2.2.1 155 v4.toNatClampNeg) * ((S.2.1 132 89).toInt64)) / 10))) 155 v4.toNatClampNeg) * ((10 - (S.2.1 132 89)).toInt64)) / 10)), S.2.2.2) v1 v2 v3 (v4 + (-1))) else none) else none) else none) else none) else none)
def lfX11_few_130_67 (x : XT) (k57 : ST → Int32 → Int32 → Int32 → Option (Int64 × ST)) : Nat → ST → Int32 → Int32 → Int32 → Int32 → Option (Int64 × ST)
  | 0, _, _, _, _, _ => none
  | n + 1, S, v1, v2, v3, v4 => bfX11_few_130_67 x k57 (lfX11_few_130_67 x k57 n) S v1 v2 v3 v4
def bfX11_few_130_57 (x : XT) (k57 : ST → Int32 → Int32 → Int32 → Option (Int64 × ST)) (S : ST) (v1 : Int32) (v2 : Int32) (v3 : Int32) : Option (Int64 × ST) :=
  if v2 ≤ v3 then (lfX11_few_130_151 x  20000 S v1 0 0) else (lfX11_few_130_67 x k57 20000 S v1 v2 v3 (v1 - 1))
def lfX11_few_130_57 (x : XT)  : Nat → ST → Int32 → Int32 → Int32 → Option (Int64 × ST)
  | 0, _, _, _, _ => none
  | n + 1, S, v1, v2, v3 => bfX11_few_130_57 x (lfX11_few_130_57 x  n) S v1 v2 v3
def bfX11_few_130_48 (x : XT) (k26 : ST → Int32 → Int32 → Int32 → Option (Int64 × ST)) (S : ST) (v1 : Int32) (v2 : Int32) (v3 : Int32) (t1 : Int32) (t2 : Int64) : Option (Int64 × ST) :=
  bif inb t1 21 then (k26 (S.1, S.2.1, (u2 S.2.2.1 155 t1.toNatClampNeg t2), S.2.2.2) v1 v2 (v3 + 1)) else none
def bfX11_few_130_26 (x : XT) (k26 : ST → Int32 → Int32 → Int32 → Option (Int64 × ST)) (S : ST) (v1 : Int32) (v2 : Int32) (v3 : Int32) : Option (Int64 × ST) :=
  if 20 < v3 then (lfX11_few_130_57 x  20000 S v1 v2 0) else (if ¬ v3 = 0 then (bfX11_few_130_48 x k26 S v1 v2 v3 v3 0) else (bfX11_few_130_48 x k26 S v1 v2 v3 v3 1000000000000))
def lfX11_few_130_26 (x : XT)  : Nat → ST → Int32 → Int32 → Int32 → Option (Int64 × ST)
  | 0, _, _, _, _ => none
  | n + 1, S, v1, v2, v3 => bfX11_few_130_26 x (lfX11_few_130_26 x  n) S v1 v2 v3
def bfX11_few_130_0 (x : XT)  (S : ST) (p1 : Int32) (p2 : Int32) : Option (Int64 × ST) :=
  match gfX11_lies x S p1 1 20 with
    | none => none
    | some (r3, S4) => (if r3 = 0 then (bfX11_few_130_20 x S4) else (match gfX11_lies x S4 p2 0 99 with
    | none => none
    | some (r8, S9) => (if ¬ r8 = 0 then (lfX11_few_130_26 x  20000 S9 p1 p2 0) else (bfX11_few_130_20 x S9))))
def gfX11_few_130 (x : XT) (S : ST) (p1 : Int32) (p2 : Int32) : Option (Int64 × ST) := bfX11_few_130_0 x S p1 p2
def bfX11_stopped_130_0 (x : XT)  (S : ST)  : Option (Int32 × ST) :=
  some ((S.1 130 43), S)
def gfX11_stopped_130 (x : XT) (S : ST)  : Option (Int32 × ST) := bfX11_stopped_130_0 x S 
def bfX11_goesAlong_130_234 (x : XT)  (S : ST) (t1 : Int32) : Option (Unit × ST) :=
  bif bbz t1 then (some ((), ((u2 (u2 S.1 130 48 t1) 130 22 ((S.1 130 22) + 1)), S.2.1, S.2.2.1, S.2.2.2))) else none
def bfX11_goesAlong_130_233 (x : XT)  (S : ST)  : Option (Unit × ST) :=
  bfX11_goesAlong_130_234 x S 0
def bfX11_goesAlong_130_211 (x : XT)  (S : ST) (t1 : Int32) : Option (Unit × ST) :=
  bif bbz t1 then (if t1 = 0 then (bfX11_goesAlong_130_233 x ((u2 S.1 130 48 t1), S.2.1, S.2.2.1, S.2.2.2)) else (if ¬ (S.1 130 24) = 0 then (bfX11_goesAlong_130_233 x ((u2 S.1 130 48 t1), S.2.1, S.2.2.1, S.2.2.2)) else (bfX11_goesAlong_130_234 x ((u2 S.1 130 48 t1), S.2.1, S.2.2.1, S.2.2.2) 1))) else none
def bfX11_goesAlong_130_206 (x : XT)  (S : ST)  : Option (Unit × ST) :=
  bfX11_goesAlong_130_211 x S 1
def bfX11_goesAlong_130_184 (x : XT)  (S : ST) (v2 : Int32) : Option (Unit × ST) :=
  match gfX11_passes0_130 x ((u2 S.1 130 24 0), S.2.1, S.2.2.1, S.2.2.2) 4 with
    | none => none
    | some (r3, S4) => (if r3 = 0 then (bfX11_goesAlong_130_206 x S4) else (match gfX11_testOf_130 x S4 v2 with
    | none => none
    | some (r8, S9) => (if r8 = 0 then (bfX11_goesAlong_130_211 x S9 0) else (bfX11_goesAlong_130_206 x S9))))
def bfX11_goesAlong_130_134 (x : XT) (k76 : ST → Int32 → Int32 → Int32 → Option (Unit × ST)) (S : ST) (v2 : Int32) (v3 : Int32) (v4 : Int32) (t1 : Int32) : Option (Unit × ST) :=
  bif bbz t1 then (k76 ((u2 S.1 130 47 t1), S.2.1, S.2.2.1, S.2.2.2) v2 v3 (v4 + 1)) else none
def bfX11_goesAlong_130_133 (x : XT) (k76 : ST → Int32 → Int32 → Int32 → Option (Unit × ST)) (S : ST) (v2 : Int32) (v3 : Int32) (v4 : Int32) : Option (Unit × ST) :=
  bfX11_goesAlong_130_134 x k76 S v2 v3 v4 0
def bfX11_goesAlong_130_97 (x : XT) (k76 : ST → Int32 → Int32 → Int32 → Option (Unit × ST)) (S : ST) (v2 : Int32) (v3 : Int32) (v4 : Int32) : Option (Unit × ST) :=
  match gfX11_sumOf_130 x ((u2 S.1 130 24 0), S.2.1, S.2.2.1, S.2.2.2) v2 with
    | none => none
    | some (r3, S4) => (bif inb v4 2 then (if (S4.1 130 47) = 0 then (bfX11_goesAlong_130_133 x k76 (S4.1, S4.2.1, (u2 S4.2.2.1 156 v4.toNatClampNeg r3), S4.2.2.2) v2 v3 v4) else (if ¬ (S4.1 130 24) = 0 then (bfX11_goesAlong_130_133 x k76 (S4.1, S4.2.1, (u2 S4.2.2.1 156 v4.toNatClampNeg r3), S4.2.2.2) v2 v3 v4) else (bfX11_goesAlong_130_134 x k76 (S4.1, S4.2.1, (u2 S4.2.2.1 156 v4.toNatClampNeg r3), S4.2.2.2) v2 v3 v4 1))) else none)
def bfX11_goesAlong_130_76 (x : XT) (k76 : ST → Int32 → Int32 → Int32 → Option (Unit × ST)) (S : ST) (v2 : Int32) (v3 : Int32) (v4 : Int32) : Option (Unit × ST) :=
  if v3 ≤ v4 then (match gfX11_passes0_130 x ((u2 S.1 130 45 1), S.2.1, S.2.2.1, S.2.2.2) 26 with
    | none => none
    | some (r4, S5) => (if r4 = 0 then (bfX11_goesAlong_130_184 x S5 v2) else (bif inb (2903 + (S5.1 130 22)) 5703 then (bfX11_goesAlong_130_184 x ((u2 (u2 S5.1 130 45 (S5.2.1 132 ((2903 + (S5.1 130 22)).toNatClampNeg))) 130 22 ((S5.1 130 22) + 1)), S5.2.1, S5.2.2.1, S5.2.2.2) v2) else none))) else (if v4 ≤ 0 then (bfX11_goesAlong_130_97 x k76 S v2 v3 v4) else (bfX11_goesAlong_130_97 x k76 ((u2 S.1 130 22 ((S.1 130 22) + 1)), S.2.1, S.2.2.1, S.2.2.2) v2 v3 v4))
def lfX11_goesAlong_130_76 (x : XT)  : Nat → ST → Int32 → Int32 → Int32 → Option (Unit × ST)
  | 0, _, _, _, _ => none
  | n + 1, S, v2, v3, v4 => bfX11_goesAlong_130_76 x (lfX11_goesAlong_130_76 x  n) S v2 v3 v4
def bfX11_goesAlong_130_72 (x : XT)  (S : ST) (v2 : Int32) (t0 : Int32) : Option (Unit × ST) :=
  lfX11_goesAlong_130_76 x  20000 S v2 t0 0
def bfX11_goesAlong_130_0 (x : XT)  (S : ST) (p1 : Int32) (p2 : Int32) : Option (Unit × ST) :=
  match gfX11_codeAt_130 x ((u2 (u2 (u2 S.1 130 25 1) 130 23 p1) 130 22 (S.1 130 44)), S.2.1, S.2.2.1, S.2.2.2) (S.1 130 44) with
    | none => none
    | some (r3, S4) => (if ¬ r3 = 25 then (if ¬ r3 = 22 then (bfX11_goesAlong_130_72 x ((u2 (u2 (u2 S4.1 130 46 r3) 130 22 ((S4.1 130 22) + 1)) 130 47 1), S4.2.1, S4.2.2.1, S4.2.2.2) p2 2) else (bfX11_goesAlong_130_72 x ((u2 (u2 (u2 S4.1 130 46 r3) 130 22 ((S4.1 130 22) + 1)) 130 47 1), S4.2.1, S4.2.2.1, S4.2.2.2) p2 1)) else (bfX11_goesAlong_130_72 x ((u2 (u2 (u2 S4.1 130 46 r3) 130 22 ((S4.1 130 22) + 1)) 130 47 1), S4.2.1, S4.2.2.1, S4.2.2.2) p2 0))
end DEFS
