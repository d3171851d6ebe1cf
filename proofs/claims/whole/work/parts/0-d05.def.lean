section DEFS
def bfX11_feed_130_0 (x : XT)  (S : ST) (p1 : Int32) (p2 : Int32) (p3 : Int32) (p4 : Int32) (p5 : Int32) : Option (Int32 × ST) :=
  if ((S.1 130 13) + 20) ≤ 400 then (lfX11_feed_130_55 x  20000 (S.1, (u2 (u2 (u2 (u2 (u2 S.2.1 138 0 p1) 138 1 p2) 138 2 p3) 138 3 p4) 138 4 p5), S.2.2.1, S.2.2.2) 0) else (some ((-1), S))
def gfX11_feed_130 (x : XT) (S : ST) (p1 : Int32) (p2 : Int32) (p3 : Int32) (p4 : Int32) (p5 : Int32) : Option (Int32 × ST) := bfX11_feed_130_0 x S p1 p2 p3 p4 p5
def bfX11_end_130_0 (x : XT)  (S : ST) (p1 : Int32) : Option (Int32 × ST) :=
  match gfX11_lies x S p1 0 (S.1 130 13) with
    | none => none
    | some (r3, S4) => (if ¬ r3 = 0 then (some (p1, ((u2 S4.1 130 13 p1), S4.2.1, S4.2.2.1, S4.2.2.2))) else (some ((-1), S4)))
def gfX11_end_130 (x : XT) (S : ST) (p1 : Int32) : Option (Int32 × ST) := bfX11_end_130_0 x S p1
def bfX11_isSmall_17 (x : XT)  (S : ST) (t0 : Int32) : Option (Int32 × ST) :=
  bif bbz t0 then (some (t0, S)) else none
def bfX11_isSmall_16 (x : XT)  (S : ST)  : Option (Int32 × ST) :=
  bfX11_isSmall_17 x S 0
def bfX11_isSmall_0 (x : XT)  (S : ST) (p0 : Int32) : Option (Int32 × ST) :=
  if p0 < 97 then (bfX11_isSmall_16 x S) else (if 122 < p0 then (bfX11_isSmall_16 x S) else (bfX11_isSmall_17 x S 1))
def gfX11_isSmall (x : XT) (S : ST) (p0 : Int32) : Option (Int32 × ST) := bfX11_isSmall_0 x S p0
def bfX11_isDigit_17 (x : XT)  (S : ST) (t0 : Int32) : Option (Int32 × ST) :=
  bif bbz t0 then (some (t0, S)) else none
def bfX11_isDigit_16 (x : XT)  (S : ST)  : Option (Int32 × ST) :=
  bfX11_isDigit_17 x S 0
def bfX11_isDigit_0 (x : XT)  (S : ST) (p0 : Int32) : Option (Int32 × ST) :=
  if p0 < 48 then (bfX11_isDigit_16 x S) else (if 57 < p0 then (bfX11_isDigit_16 x S) else (bfX11_isDigit_17 x S 1))
def gfX11_isDigit (x : XT) (S : ST) (p0 : Int32) : Option (Int32 × ST) := bfX11_isDigit_0 x S p0
def bfX11_wordOf_130_104 (x : XT) (k5 : ST → Int32 → Int32 → Int32 → Int32 → Option (Int32 × ST)) (S : ST) (v1 : Int32) (v2 : Int32) (v3 : Int32) (v4 : Int32) (v5 : Int32) (v6 : Int32) : Option (Int32 × ST) :=
  if v6 = 0 then (k5 S v1 v2 (v3 + 1) (v4 + (v5 + 1))) else (some (v3, S))
def bfX11_wordOf_130_96 (x : XT) (k5 : ST → Int32 → Int32 → Int32 → Int32 → Option (Int32 × ST)) (k57 : ST → Int32 → Int32 → Int32 → Int32 → Int32 → Int32 → Int32 → Option (Int32 × ST)) (S : ST) (v1 : Int32) (v2 : Int32) (v3 : Int32) (v4 : Int32) (v5 : Int32) (v7 : Int32) (t0 : Int32) : Option (Int32 × ST) :=
  k57 S v1 v2 v3 v4 v5 t0 (v7 + 1)
def bfX11_wordOf_130_57 (x : XT) (k5 : ST → Int32 → Int32 → Int32 → Int32 → Option (Int32 × ST)) (k57 : ST → Int32 → Int32 → Int32 → Int32 → Int32 → Int32 → Int32 → Option (Int32 × ST)) (S : ST) (v1 : Int32) (v2 : Int32) (v3 : Int32) (v4 : Int32) (v5 : Int32) (v6 : Int32) (v7 : Int32) : Option (Int32 × ST) :=
  if v5 ≤ v7 then (bfX11_wordOf_130_104 x k5 S v1 v2 v3 v4 v5 v6) else (if v6 = 0 then (bfX11_wordOf_130_104 x k5 S v1 v2 v3 v4 v5 v6) else (bif inb (v4 + v7) 122 then (bif inb (v1 + v7) 400 then (if ¬ (S.2.1 136 ((v4 + v7).toNatClampNeg)) = (S.2.1 137 ((v1 + v7).toNatClampNeg)) then (bfX11_wordOf_130_96 x k5 k57 S v1 v2 v3 v4 v5 v7 0) else (bfX11_wordOf_130_96 x k5 k57 S v1 v2 v3 v4 v5 v7 1)) else none) else none))
def lfX11_wordOf_130_57 (x : XT) (k5 : ST → Int32 → Int32 → Int32 → Int32 → Option (Int32 × ST)) : Nat → ST → Int32 → Int32 → Int32 → Int32 → Int32 → Int32 → Int32 → Option (Int32 × ST)
  | 0, _, _, _, _, _, _, _, _ => none
  | n + 1, S, v1, v2, v3, v4, v5, v6, v7 => bfX11_wordOf_130_57 x k5 (lfX11_wordOf_130_57 x k5 n) S v1 v2 v3 v4 v5 v6 v7
def bfX11_wordOf_130_52 (x : XT) (k5 : ST → Int32 → Int32 → Int32 → Int32 → Option (Int32 × ST)) (S : ST) (v1 : Int32) (v2 : Int32) (v3 : Int32) (v4 : Int32) (v5 : Int32) (t0 : Int32) : Option (Int32 × ST) :=
  lfX11_wordOf_130_57 x k5 20000 S v1 v2 v3 v4 v5 t0 0
def bfX11_wordOf_130_18 (x : XT) (k5 : ST → Int32 → Int32 → Int32 → Int32 → Option (Int32 × ST)) (k18 : ST → Int32 → Int32 → Int32 → Int32 → Int32 → Option (Int32 × ST)) (S : ST) (v1 : Int32) (v2 : Int32) (v3 : Int32) (v4 : Int32) (v5 : Int32) : Option (Int32 × ST) :=
  bif inb (v4 + v5) 122 then (if (S.2.1 136 ((v4 + v5).toNatClampNeg)) = 32 then (if ¬ v5 = (v2 - v1) then (bfX11_wordOf_130_52 x k5 S v1 v2 v3 v4 v5 0) else (bfX11_wordOf_130_52 x k5 S v1 v2 v3 v4 v5 1)) else (k18 S v1 v2 v3 v4 (v5 + 1))) else none
def lfX11_wordOf_130_18 (x : XT) (k5 : ST → Int32 → Int32 → Int32 → Int32 → Option (Int32 × ST)) : Nat → ST → Int32 → Int32 → Int32 → Int32 → Int32 → Option (Int32 × ST)
  | 0, _, _, _, _, _, _ => none
  | n + 1, S, v1, v2, v3, v4, v5 => bfX11_wordOf_130_18 x k5 (lfX11_wordOf_130_18 x k5 n) S v1 v2 v3 v4 v5
def bfX11_wordOf_130_5 (x : XT) (k5 : ST → Int32 → Int32 → Int32 → Int32 → Option (Int32 × ST)) (S : ST) (v1 : Int32) (v2 : Int32) (v3 : Int32) (v4 : Int32) : Option (Int32 × ST) :=
  if 122 ≤ v4 then (some (0, S)) else (lfX11_wordOf_130_18 x k5 20000 S v1 v2 v3 v4 0)
def lfX11_wordOf_130_5 (x : XT)  : Nat → ST → Int32 → Int32 → Int32 → Int32 → Option (Int32 × ST)
  | 0, _, _, _, _, _ => none
  | n + 1, S, v1, v2, v3, v4 => bfX11_wordOf_130_5 x (lfX11_wordOf_130_5 x  n) S v1 v2 v3 v4
def bfX11_wordOf_130_0 (x : XT)  (S : ST) (p1 : Int32) (p2 : Int32) : Option (Int32 × ST) :=
  lfX11_wordOf_130_5 x  20000 S p1 p2 1 0
def gfX11_wordOf_130 (x : XT) (S : ST) (p1 : Int32) (p2 : Int32) : Option (Int32 × ST) := bfX11_wordOf_130_0 x S p1 p2
def bfX11_splits_130_247 (x : XT) (k7 : ST → Int32 → Int32 → Option (Unit × ST)) (S : ST) (v1 : Int32) (v4 : Int32) : Option (Unit × ST) :=
  k7 ((u2 S.1 130 18 ((S.1 130 18) + 1)), S.2.1, S.2.2.1, S.2.2.2) v1 v4
def bfX11_splits_130_240 (x : XT) (k7 : ST → Int32 → Int32 → Option (Unit × ST)) (k169 : ST → Int32 → Int32 → Int32 → Int32 → Option (Unit × ST)) (S : ST) (v1 : Int32) (v3 : Int32) (v4 : Int32) (v5 : Int32) (t1 : Int32) (t2 : Int32) : Option (Unit × ST) :=
  bif inb t1 401 then (k169 (S.1, (u2 S.2.1 140 t1.toNatClampNeg t2), S.2.2.1, S.2.2.2) v1 v3 v4 (v5 + 1)) else none
def bfX11_splits_130_169 (x : XT) (k7 : ST → Int32 → Int32 → Option (Unit × ST)) (k169 : ST → Int32 → Int32 → Int32 → Int32 → Option (Unit × ST)) (S : ST) (v1 : Int32) (v3 : Int32) (v4 : Int32) (v5 : Int32) : Option (Unit × ST) :=
  if v4 ≤ v5 then (bfX11_splits_130_247 x k7 S v1 v4) else (match gfX11_isDigit x S v3 with
    | none => none
    | some (r4, S5) => (if r4 = 0 then (bfX11_splits_130_247 x k7 S5 v1 v4) else (bif inb (S5.1 130 18) 401 then (if (S5.2.1 140 ((S5.1 130 18).toNatClampNeg)) ≤ 1000000 then (bif inb (S5.1 130 18) 401 then (bif inb v5 400 then (bfX11_splits_130_240 x k7 k169 S5 v1 v3 v4 v5 (S5.1 130 18) (((10 * (S5.2.1 140 ((S5.1 130 18).toNatClampNeg))) + (S5.2.1 137 v5.toNatClampNeg)) - 48)) else none) else none) else (bif inb (S5.1 130 18) 401 then (bfX11_splits_130_240 x k7 k169 S5 v1 v3 v4 v5 (S5.1 130 18) (S5.2.1 140 ((S5.1 130 18).toNatClampNeg))) else none)) else none)))
def lfX11_splits_130_169 (x : XT) (k7 : ST → Int32 → Int32 → Option (Unit × ST)) : Nat → ST → Int32 → Int32 → Int32 → Int32 → Option (Unit × ST)
  | 0, _, _, _, _, _ => none
  | n + 1, S, v1, v3, v4, v5 => bfX11_splits_130_169 x k7 (lfX11_splits_130_169 x k7 n) S v1 v3 v4 v5
def bfX11_splits_130_165 (x : XT) (k7 : ST → Int32 → Int32 → Option (Unit × ST)) (S : ST) (v1 : Int32) (v2 : Int32) (v3 : Int32) (v4 : Int32) (t1 : Int32) (t2 : Int32) : Option (Unit × ST) :=
  bif inb t1 401 then (lfX11_splits_130_169 x k7 20000 (S.1, (u2 S.2.1 139 t1.toNatClampNeg t2), S.2.2.1, S.2.2.2) v1 v3 v4 v2) else none
def bfX11_splits_130_100 (x : XT) (k7 : ST → Int32 → Int32 → Option (Unit × ST)) (S : ST) (v1 : Int32) (v2 : Int32) (v3 : Int32) (v4 : Int32) : Option (Unit × ST) :=
  bif inb (S.1 130 18) 401 then (bif inb (S.1 130 18) 401 then (match gfX11_isSmall x (S.1, (u2 (u2 S.2.1 141 ((S.1 130 18).toNatClampNeg) v2) 140 ((S.1 130 18).toNatClampNeg) 0), S.2.2.1, S.2.2.2) v3 with
    | none => none
    | some (r5, S6) => (if r5 = 0 then (match gfX11_isDigit x S6 v3 with
    | none => none
    | some (r10, S11) => (if r10 = 0 then (bfX11_splits_130_165 x k7 S11 v1 v2 v3 v4 (S.1 130 18) (100 + (v3 &&& 255))) else (bfX11_splits_130_165 x k7 S11 v1 v2 v3 v4 (S.1 130 18) 50))) else (match gfX11_wordOf_130 x S6 v2 v4 with
    | none => none
    | some (r15, S16) => (bfX11_splits_130_165 x k7 S16 v1 v2 v3 v4 (S.1 130 18) r15)))) else none) else none
def bfX11_splits_130_75 (x : XT) (k7 : ST → Int32 → Int32 → Option (Unit × ST)) (k75 : ST → Int32 → Int32 → Int32 → Int32 → Option (Unit × ST)) (S : ST) (v1 : Int32) (v2 : Int32) (v3 : Int32) (v4 : Int32) : Option (Unit × ST) :=
  if v1 ≤ v4 then (bfX11_splits_130_100 x k7 S v1 v2 v3 v4) else (bif inb v4 400 then (match gfX11_isDigit x S (S.2.1 137 v4.toNatClampNeg) with
    | none => none
    | some (r5, S6) => (if r5 = 0 then (bfX11_splits_130_100 x k7 S6 v1 v2 v3 v4) else (k75 S6 v1 v2 v3 (v4 + 1)))) else none)
def lfX11_splits_130_75 (x : XT) (k7 : ST → Int32 → Int32 → Option (Unit × ST)) : Nat → ST → Int32 → Int32 → Int32 → Int32 → Option (Unit × ST)
  | 0, _, _, _, _, _ => none
  | n + 1, S, v1, v2, v3, v4 => bfX11_splits_130_75 x k7 (lfX11_splits_130_75 x k7 n) S v1 v2 v3 v4
def bfX11_splits_130_68 (x : XT) (k7 : ST → Int32 → Int32 → Option (Unit × ST)) (S : ST) (v1 : Int32) (v2 : Int32) (v3 : Int32) (v4 : Int32) : Option (Unit × ST) :=
  match gfX11_isDigit x S v3 with
    | none => none
    | some (r3, S4) => (if r3 = 0 then (bfX11_splits_130_100 x k7 S4 v1 v2 v3 v4) else (lfX11_splits_130_75 x k7 20000 S4 v1 v2 v3 v4))
def bfX11_splits_130_43 (x : XT) (k7 : ST → Int32 → Int32 → Option (Unit × ST)) (k43 : ST → Int32 → Int32 → Int32 → Int32 → Option (Unit × ST)) (S : ST) (v1 : Int32) (v2 : Int32) (v3 : Int32) (v4 : Int32) : Option (Unit × ST) :=
  if v1 ≤ v4 then (bfX11_splits_130_68 x k7 S v1 v2 v3 v4) else (bif inb v4 400 then (match gfX11_isSmall x S (S.2.1 137 v4.toNatClampNeg) with
    | none => none
    | some (r5, S6) => (if r5 = 0 then (bfX11_splits_130_68 x k7 S6 v1 v2 v3 v4) else (k43 S6 v1 v2 v3 (v4 + 1)))) else none)
def lfX11_splits_130_43 (x : XT) (k7 : ST → Int32 → Int32 → Option (Unit × ST)) : Nat → ST → Int32 → Int32 → Int32 → Int32 → Option (Unit × ST)
  | 0, _, _, _, _, _ => none
  | n + 1, S, v1, v2, v3, v4 => bfX11_splits_130_43 x k7 (lfX11_splits_130_43 x k7 n) S v1 v2 v3 v4
def bfX11_splits_130_7 (x : XT) (k7 : ST → Int32 → Int32 → Option (Unit × ST)) (S : ST) (v1 : Int32) (v2 : Int32) : Option (Unit × ST) :=
  if v1 ≤ v2 then (bif inb (S.1 130 18) 401 then (bif inb (S.1 130 18) 401 then (bif inb (S.1 130 18) 401 then (some ((), (S.1, (u2 (u2 (u2 S.2.1 141 ((S.1 130 18).toNatClampNeg) v1) 139 ((S.1 130 18).toNatClampNeg) 0) 140 ((S.1 130 18).toNatClampNeg) 0), S.2.2.1, S.2.2.2))) else none) else none) else none) else (bif inb v2 400 then (if ¬ (S.2.1 137 v2.toNatClampNeg) = 32 then (match gfX11_isSmall x S (S.2.1 137 v2.toNatClampNeg) with
    | none => none
    | some (r9, S10) => (if r9 = 0 then (bfX11_splits_130_68 x k7 S10 v1 v2 (S.2.1 137 v2.toNatClampNeg) (v2 + 1)) else (lfX11_splits_130_43 x k7 20000 S10 v1 v2 (S.2.1 137 v2.toNatClampNeg) (v2 + 1)))) else (k7 S v1 (v2 + 1))) else none)
def lfX11_splits_130_7 (x : XT)  : Nat → ST → Int32 → Int32 → Option (Unit × ST)
  | 0, _, _, _ => none
  | n + 1, S, v1, v2 => bfX11_splits_130_7 x (lfX11_splits_130_7 x  n) S v1 v2
def bfX11_splits_130_0 (x : XT)  (S : ST) (p1 : Int32) : Option (Unit × ST) :=
  lfX11_splits_130_7 x  20000 ((u2 S.1 130 18 0), S.2.1, S.2.2.1, S.2.2.2) p1 0
def gfX11_splits_130 (x : XT) (S : ST) (p1 : Int32) : Option (Unit × ST) := bfX11_splits_130_0 x S p1
def bfX11_fine_130_13 (x : XT)  (S : ST) (t0 : Int32) : Option (Int32 × ST) :=
  bif bbz t0 then (some (t0, S)) else none
def bfX11_fine_130_0 (x : XT)  (S : ST)  : Option (Int32 × ST) :=
  if ¬ (S.1 130 21) = (-1) then (bfX11_fine_130_13 x S 0) else (bfX11_fine_130_13 x S 1)
def gfX11_fine_130 (x : XT) (S : ST)  : Option (Int32 × ST) := bfX11_fine_130_0 x S 
def bfX11_faults_130_20 (x : XT)  (S : ST)  : Option (Unit × ST) :=
  some ((), S)
def bfX11_faults_130_0 (x : XT)  (S : ST)  : Option (Unit × ST) :=
  match gfX11_fine_130 x S with
    | none => none
    | some (r3, S4) => (if r3 = 0 then (bfX11_faults_130_20 x S4) else (bif inb (S4.1 130 19) 401 then (bfX11_faults_130_20 x ((u2 S4.1 130 21 (S4.2.1 141 ((S4.1 130 19).toNatClampNeg))), S4.2.1, S4.2.2.1, S4.2.2.2)) else none))
def gfX11_faults_130 (x : XT) (S : ST)  : Option (Unit × ST) := bfX11_faults_130_0 x S 
def bfX11_takes0_130_40 (x : XT)  (S : ST) (v2 : Int32) : Option (Int32 × ST) :=
  bif bbz v2 then (some (v2, S)) else none
def bfX11_takes0_130_25 (x : XT)  (S : ST) (t0 : Int32) : Option (Int32 × ST) :=
  if t0 = 0 then (bfX11_takes0_130_40 x S t0) else (bfX11_takes0_130_40 x ((u2 S.1 130 19 ((S.1 130 19) + 1)), S.2.1, S.2.2.1, S.2.2.2) t0)
def bfX11_takes0_130_24 (x : XT)  (S : ST)  : Option (Int32 × ST) :=
  bfX11_takes0_130_25 x S 0
def bfX11_takes0_130_0 (x : XT)  (S : ST) (p1 : Int32) : Option (Int32 × ST) :=
  match gfX11_fine_130 x S with
    | none => none
    | some (r3, S4) => (if r3 = 0 then (bfX11_takes0_130_24 x S4) else (bif inb (S4.1 130 19) 401 then (if ¬ (S4.2.1 139 ((S4.1 130 19).toNatClampNeg)) = p1 then (bfX11_takes0_130_24 x S4) else (bfX11_takes0_130_25 x S4 1)) else none))
def gfX11_takes0_130 (x : XT) (S : ST) (p1 : Int32) : Option (Int32 × ST) := bfX11_takes0_130_0 x S p1
def bfX11_must_130_12 (x : XT)  (S : ST)  : Option (Unit × ST) :=
  some ((), S)
def bfX11_must_130_0 (x : XT)  (S : ST) (p1 : Int32) : Option (Unit × ST) :=
  match gfX11_takes0_130 x S p1 with
    | none => none
    | some (r3, S4) => (if ¬ r3 = 0 then (bfX11_must_130_12 x S4) else (match gfX11_faults_130 x S4 with
    | none => none
    | some (r8, S9) => (bfX11_must_130_12 x S9)))
def gfX11_must_130 (x : XT) (S : ST) (p1 : Int32) : Option (Unit × ST) := bfX11_must_130_0 x S p1
def bfX11_leaf_130_40 (x : XT)  (S : ST)  : Option (Unit × ST) :=
  some ((), S)
def bfX11_leaf_130_13 (x : XT)  (S : ST)  : Option (Unit × ST) :=
  match gfX11_fine_130 x ((u2 S.1 130 20 ((S.1 130 20) + 1)), S.2.1, S.2.2.1, S.2.2.2) with
    | none => none
    | some (r3, S4) => (if r3 = 0 then (bfX11_leaf_130_40 x S4) else (bfX11_leaf_130_40 x ((u2 S4.1 130 19 ((S4.1 130 19) + 1)), S4.2.1, S4.2.2.1, S4.2.2.2)))
def bfX11_leaf_130_0 (x : XT)  (S : ST)  : Option (Unit × ST) :=
  if ¬ (S.1 130 20) = 50 then (bfX11_leaf_130_13 x S) else (match gfX11_faults_130 x S with
    | none => none
    | some (r4, S5) => (bfX11_leaf_130_13 x S5))
def gfX11_leaf_130 (x : XT) (S : ST)  : Option (Unit × ST) := bfX11_leaf_130_0 x S 
def bfX11_mustNumber_130_59 (x : XT)  (S : ST)  : Option (Unit × ST) :=
  some ((), S)
def bfX11_mustNumber_130_42 (x : XT)  (S : ST)  : Option (Unit × ST) :=
  match gfX11_fine_130 x S with
    | none => none
    | some (r3, S4) => (if r3 = 0 then (bfX11_mustNumber_130_59 x S4) else (bfX11_mustNumber_130_59 x ((u2 S4.1 130 19 ((S4.1 130 19) + 1)), S4.2.1, S4.2.2.1, S4.2.2.2)))
def bfX11_mustNumber_130_38 (x : XT)  (S : ST)  : Option (Unit × ST) :=
  match gfX11_faults_130 x S with
    | none => none
    | some (r3, S4) => (bfX11_mustNumber_130_42 x S4)
def bfX11_mustNumber_130_0 (x : XT)  (S : ST) (p1 : Int32) (p2 : Int32) : Option (Unit × ST) :=
  match gfX11_fine_130 x S with
    | none => none
    | some (r3, S4) => (if r3 = 0 then (bfX11_mustNumber_130_42 x S4) else (bif inb (S4.1 130 19) 401 then (if ¬ (S4.2.1 139 ((S4.1 130 19).toNatClampNeg)) = 50 then (bfX11_mustNumber_130_38 x S4) else (bif inb (S4.1 130 19) 401 then (match gfX11_lies x S4 (S4.2.1 140 ((S4.1 130 19).toNatClampNeg)) p1 p2 with
    | none => none
    | some (r11, S12) => (if ¬ r11 = 0 then (bfX11_mustNumber_130_42 x S12) else (bfX11_mustNumber_130_38 x S12))) else none)) else none))
def gfX11_mustNumber_130 (x : XT) (S : ST) (p1 : Int32) (p2 : Int32) : Option (Unit × ST) := bfX11_mustNumber_130_0 x S p1 p2
def bfX11_readSum_130_29 (x : XT) (rec_X11_readSum : ST → Int32 → Option (Unit × ST)) (rec_X11_readTerm : ST → Int32 → Option (Unit × ST)) (rec_X11_readPart : ST → Int32 → Option (Unit × ST)) (k5 : ST → Int32 → Option (Unit × ST)) (S : ST) (v1 : Int32) : Option (Unit × ST) :=
  match rec_X11_readTerm S v1 with
    | none => none
    | some (r3, S4) => (k5 S4 v1)
def bfX11_readSum_130_5 (x : XT) (rec_X11_readSum : ST → Int32 → Option (Unit × ST)) (rec_X11_readTerm : ST → Int32 → Option (Unit × ST)) (rec_X11_readPart : ST → Int32 → Option (Unit × ST)) (k5 : ST → Int32 → Option (Unit × ST)) (S : ST) (v1 : Int32) : Option (Unit × ST) :=
  match gfX11_sign x S 43 with
    | none => none
    | some (r3, S4) => (match gfX11_takes0_130 x S4 r3 with
    | none => none
    | some (r7, S8) => (if ¬ r7 = 0 then (bfX11_readSum_130_29 x rec_X11_readSum rec_X11_readTerm rec_X11_readPart k5 S8 v1) else (match gfX11_sign x S8 45 with
    | none => none
    | some (r12, S13) => (match gfX11_takes0_130 x S13 r12 with
    | none => none
    | some (r16, S17) => (if r16 = 0 then (some ((), S17)) else (bfX11_readSum_130_29 x rec_X11_readSum rec_X11_readTerm rec_X11_readPart k5 S17 v1))))))
def lfX11_readSum_130_5 (x : XT) (rec_X11_readSum : ST → Int32 → Option (Unit × ST)) (rec_X11_readTerm : ST → Int32 → Option (Unit × ST)) (rec_X11_readPart : ST → Int32 → Option (Unit × ST))  : Nat → ST → Int32 → Option (Unit × ST)
  | 0, _, _ => none
  | n + 1, S, v1 => bfX11_readSum_130_5 x rec_X11_readSum rec_X11_readTerm rec_X11_readPart (lfX11_readSum_130_5 x rec_X11_readSum rec_X11_readTerm rec_X11_readPart  n) S v1
def bfX11_readSum_130_0 (x : XT) (rec_X11_readSum : ST → Int32 → Option (Unit × ST)) (rec_X11_readTerm : ST → Int32 → Option (Unit × ST)) (rec_X11_readPart : ST → Int32 → Option (Unit × ST))  (S : ST) (p1 : Int32) : Option (Unit × ST) :=
  match rec_X11_readTerm S p1 with
    | none => none
    | some (r3, S4) => (lfX11_readSum_130_5 x rec_X11_readSum rec_X11_readTerm rec_X11_readPart  20000 S4 p1)
def grfX11_readSum_130 (x : XT) (rec_X11_readSum : ST → Int32 → Option (Unit × ST)) (rec_X11_readTerm : ST → Int32 → Option (Unit × ST)) (rec_X11_readPart : ST → Int32 → Option (Unit × ST)) (S : ST) (p1 : Int32) : Option (Unit × ST) := bfX11_readSum_130_0 x rec_X11_readSum rec_X11_readTerm rec_X11_readPart S p1
def bfX11_readTerm_130_41 (x : XT) (rec_X11_readSum : ST → Int32 → Option (Unit × ST)) (rec_X11_readTerm : ST → Int32 → Option (Unit × ST)) (rec_X11_readPart : ST → Int32 → Option (Unit × ST)) (k5 : ST → Int32 → Option (Unit × ST)) (S : ST) (v1 : Int32) : Option (Unit × ST) :=
  match rec_X11_readPart S v1 with
    | none => none
    | some (r3, S4) => (k5 S4 v1)
def bfX11_readTerm_130_5 (x : XT) (rec_X11_readSum : ST → Int32 → Option (Unit × ST)) (rec_X11_readTerm : ST → Int32 → Option (Unit × ST)) (rec_X11_readPart : ST → Int32 → Option (Unit × ST)) (k5 : ST → Int32 → Option (Unit × ST)) (S : ST) (v1 : Int32) : Option (Unit × ST) :=
  match gfX11_sign x S 42 with
    | none => none
    | some (r3, S4) => (match gfX11_takes0_130 x S4 r3 with
    | none => none
    | some (r7, S8) => (if ¬ r7 = 0 then (bfX11_readTerm_130_41 x rec_X11_readSum rec_X11_readTerm rec_X11_readPart k5 S8 v1) else (match gfX11_sign x S8 47 with
    | none => none
    | some (r12, S13) => (match gfX11_takes0_130 x S13 r12 with
    | none => none
    | some (r16, S17) => (if ¬ r16 = 0 then (bfX11_readTerm_130_41 x rec_X11_readSum rec_X11_readTerm rec_X11_readPart k5 S17 v1) else (match gfX11_sign x S17 37 with
    | none => none
    | some (r21, S22) => (match gfX11_takes0_130 x S22 r21 with
    | none => none
    | some (r25, S26) => (if r25 = 0 then (some ((), S26)) else (bfX11_readTerm_130_41 x rec_X11_readSum rec_X11_readTerm rec_X11_readPart k5 S26 v1)))))))))
def lfX11_readTerm_130_5 (x : XT) (rec_X11_readSum : ST → Int32 → Option (Unit × ST)) (rec_X11_readTerm : ST → Int32 → Option (Unit × ST)) (rec_X11_readPart : ST → Int32 → Option (Unit × ST))  : Nat → ST → Int32 → Option (Unit × ST)
  | 0, _, _ => none
  | n + 1, S, v1 => bfX11_readTerm_130_5 x rec_X11_readSum rec_X11_readTerm rec_X11_readPart (lfX11_readTerm_130_5 x rec_X11_readSum rec_X11_readTerm rec_X11_readPart  n) S v1
def bfX11_readTerm_130_0 (x : XT) (rec_X11_readSum : ST → Int32 → Option (Unit × ST)) (rec_X11_readTerm : ST → Int32 → Option (Unit × ST)) (rec_X11_readPart : ST → Int32 → Option (Unit × ST))  (S : ST) (p1 : Int32) : Option (Unit × ST) :=
  match rec_X11_readPart S p1 with
    | none => none
    | some (r3, S4) => (lfX11_readTerm_130_5 x rec_X11_readSum rec_X11_readTerm rec_X11_readPart  20000 S4 p1)
def grfX11_readTerm_130 (x : XT) (rec_X11_readSum : ST → Int32 → Option (Unit × ST)) (rec_X11_readTerm : ST → Int32 → Option (Unit × ST)) (rec_X11_readPart : ST → Int32 → Option (Unit × ST)) (S : ST) (p1 : Int32) : Option (Unit × ST) := bfX11_readTerm_130_0 x rec_X11_readSum rec_X11_readTerm rec_X11_readPart S p1
def bfX11_readPart_130_167 (x : XT) (rec_X11_readSum : ST → Int32 → Option (Unit × ST)) (rec_X11_readTerm : ST → Int32 → Option (Unit × ST)) (rec_X11_readPart : ST → Int32 → Option (Unit × ST))  (S : ST)  : Option (Unit × ST) :=
  some ((), S)
def bfX11_readPart_130_163 (x : XT) (rec_X11_readSum : ST → Int32 → Option (Unit × ST)) (rec_X11_readTerm : ST → Int32 → Option (Unit × ST)) (rec_X11_readPart : ST → Int32 → Option (Unit × ST))  (S : ST)  : Option (Unit × ST) :=
  match gfX11_faults_130 x S with
    | none => none
    | some (r3, S4) => (bfX11_readPart_130_167 x rec_X11_readSum rec_X11_readTerm rec_X11_readPart S4)
def bfX11_readPart_130_154 (x : XT) (rec_X11_readSum : ST → Int32 → Option (Unit × ST)) (rec_X11_readTerm : ST → Int32 → Option (Unit × ST)) (rec_X11_readPart : ST → Int32 → Option (Unit × ST))  (S : ST)  : Option (Unit × ST) :=
  match gfX11_mustNumber_130 x S 0 4 with
    | none => none
    | some (r3, S4) => (bfX11_readPart_130_167 x rec_X11_readSum rec_X11_readTerm rec_X11_readPart S4)
def bfX11_readPart_130_135 (x : XT) (rec_X11_readSum : ST → Int32 → Option (Unit × ST)) (rec_X11_readTerm : ST → Int32 → Option (Unit × ST)) (rec_X11_readPart : ST → Int32 → Option (Unit × ST))  (S : ST) (v2 : Int32) : Option (Unit × ST) :=
  if (S.1 130 10) = 0 then (bfX11_readPart_130_167 x rec_X11_readSum rec_X11_readTerm rec_X11_readPart S) else (if v2 = 14 then (bfX11_readPart_130_154 x rec_X11_readSum rec_X11_readTerm rec_X11_readPart S) else (if ¬ v2 = 19 then (bfX11_readPart_130_167 x rec_X11_readSum rec_X11_readTerm rec_X11_readPart S) else (bfX11_readPart_130_154 x rec_X11_readSum rec_X11_readTerm rec_X11_readPart S)))
def bfX11_readPart_130_111 (x : XT) (rec_X11_readSum : ST → Int32 → Option (Unit × ST)) (rec_X11_readTerm : ST → Int32 → Option (Unit × ST)) (rec_X11_readPart : ST → Int32 → Option (Unit × ST))  (S : ST) (v2 : Int32) : Option (Unit × ST) :=
  match gfX11_leaf_130 x S with
    | none => none
    | some (r3, S4) => (if (S4.1 130 10) = 0 then (bfX11_readPart_130_135 x rec_X11_readSum rec_X11_readTerm rec_X11_readPart S4 v2) else (if ¬ v2 = 13 then (bfX11_readPart_130_135 x rec_X11_readSum rec_X11_readTerm rec_X11_readPart S4 v2) else (match gfX11_mustNumber_130 x S4 0 9 with
    | none => none
    | some (r9, S10) => (bfX11_readPart_130_135 x rec_X11_readSum rec_X11_readTerm rec_X11_readPart S10 v2))))
def bfX11_readPart_130_95 (x : XT) (rec_X11_readSum : ST → Int32 → Option (Unit × ST)) (rec_X11_readTerm : ST → Int32 → Option (Unit × ST)) (rec_X11_readPart : ST → Int32 → Option (Unit × ST))  (S : ST) (v2 : Int32) : Option (Unit × ST) :=
  if v2 < (S.1 130 8) then (bfX11_readPart_130_163 x rec_X11_readSum rec_X11_readTerm rec_X11_readPart S) else (if (S.1 130 9) < v2 then (bfX11_readPart_130_163 x rec_X11_readSum rec_X11_readTerm rec_X11_readPart S) else (bfX11_readPart_130_111 x rec_X11_readSum rec_X11_readTerm rec_X11_readPart S v2))
def bfX11_readPart_130_37 (x : XT) (rec_X11_readSum : ST → Int32 → Option (Unit × ST)) (rec_X11_readTerm : ST → Int32 → Option (Unit × ST)) (rec_X11_readPart : ST → Int32 → Option (Unit × ST))  (S : ST) (v1 : Int32) : Option (Unit × ST) :=
  match gfX11_fine_130 x S with
    | none => none
    | some (r3, S4) => (if ¬ r3 = 0 then (match rec_X11_readSum ((u2 S4.1 130 19 ((S4.1 130 19) + 1)), S4.2.1, S4.2.2.1, S4.2.2.2) (v1 + 1) with
    | none => none
    | some (r8, S9) => (match gfX11_sign x S9 93 with
    | none => none
    | some (r12, S13) => (match gfX11_must_130 x S13 r12 with
    | none => none
    | some (r16, S17) => (bfX11_readPart_130_167 x rec_X11_readSum rec_X11_readTerm rec_X11_readPart S17)))) else (some ((), S4)))
def bfX11_readPart_130_0 (x : XT) (rec_X11_readSum : ST → Int32 → Option (Unit × ST)) (rec_X11_readTerm : ST → Int32 → Option (Unit × ST)) (rec_X11_readPart : ST → Int32 → Option (Unit × ST))  (S : ST) (p1 : Int32) : Option (Unit × ST) :=
  match gfX11_fine_130 x S with
    | none => none
    | some (r3, S4) => (if ¬ r3 = 0 then (bif inb (S4.1 130 19) 401 then (match gfX11_sign x S4 91 with
    | none => none
    | some (r9, S10) => (if ¬ (S4.2.1 139 ((S4.1 130 19).toNatClampNeg)) = r9 then (if ¬ (S4.2.1 139 ((S4.1 130 19).toNatClampNeg)) = 50 then (bfX11_readPart_130_95 x rec_X11_readSum rec_X11_readTerm rec_X11_readPart S10 (S4.2.1 139 ((S4.1 130 19).toNatClampNeg))) else (bif inb (S10.1 130 19) 401 then (if (S10.2.1 140 ((S10.1 130 19).toNatClampNeg)) ≤ 1000 then (bfX11_readPart_130_111 x rec_X11_readSum rec_X11_readTerm rec_X11_readPart S10 (S4.2.1 139 ((S4.1 130 19).toNatClampNeg))) else (bfX11_readPart_130_95 x rec_X11_readSum rec_X11_readTerm rec_X11_readPart S10 (S4.2.1 139 ((S4.1 130 19).toNatClampNeg)))) else none)) else (if ¬ p1 = 8 then (bfX11_readPart_130_37 x rec_X11_readSum rec_X11_readTerm rec_X11_readPart S10 p1) else (match gfX11_faults_130 x S10 with
    | none => none
    | some (r18, S19) => (bfX11_readPart_130_37 x rec_X11_readSum rec_X11_readTerm rec_X11_readPart S19 p1))))) else none) else (some ((), S4)))
def grfX11_readPart_130 (x : XT) (rec_X11_readSum : ST → Int32 → Option (Unit × ST)) (rec_X11_readTerm : ST → Int32 → Option (Unit × ST)) (rec_X11_readPart : ST → Int32 → Option (Unit × ST)) (S : ST) (p1 : Int32) : Option (Unit × ST) := bfX11_readPart_130_0 x rec_X11_readSum rec_X11_readTerm rec_X11_readPart S p1
def gqX11_readSum_130 (x : XT) : Nat → Nat → ST → Int32 → Int32 → Option (Unit × ST)
  | 0, _, _, _, _ => none
  | n + 1, tag, S, a, b => bif Nat.beq tag 0 then grfX11_readSum_130 x (fun S z0 => gqX11_readSum_130 x n 0 S z0 0) (fun S z0 => gqX11_readSum_130 x n 1 S z0 0) (fun S z0 => gqX11_readSum_130 x n 2 S z0 0) S a else (bif Nat.beq tag 1 then grfX11_readTerm_130 x (fun S z0 => gqX11_readSum_130 x n 0 S z0 0) (fun S z0 => gqX11_readSum_130 x n 1 S z0 0) (fun S z0 => gqX11_readSum_130 x n 2 S z0 0) S a else (bif Nat.beq tag 2 then grfX11_readPart_130 x (fun S z0 => gqX11_readSum_130 x n 0 S z0 0) (fun S z0 => gqX11_readSum_130 x n 1 S z0 0) (fun S z0 => gqX11_readSum_130 x n 2 S z0 0) S a else (none)))
def gfX11_readSum_130 (x : XT) (S : ST) (p1 : Int32) : Option (Unit × ST) := gqX11_readSum_130 x 60 0 S p1 0
def gfX11_readTerm_130 (x : XT) (S : ST) (p1 : Int32) : Option (Unit × ST) := gqX11_readSum_130 x 60 1 S p1 0
def gfX11_readPart_130 (x : XT) (S : ST) (p1 : Int32) : Option (Unit × ST) := gqX11_readSum_130 x 60 2 S p1 0
def bfX11_readTest_130_5 (x : XT) (rec_X11_readTest : ST → Int32 → Option (Unit × ST)) (rec_X11_readBoth : ST → Int32 → Option (Unit × ST)) (rec_X11_readPlain : ST → Int32 → Option (Unit × ST)) (k5 : ST → Int32 → Option (Unit × ST)) (S : ST) (v1 : Int32) : Option (Unit × ST) :=
  match gfX11_takes0_130 x S 5 with
    | none => none
    | some (r3, S4) => (if r3 = 0 then (some ((), S4)) else (match rec_X11_readBoth S4 v1 with
    | none => none
    | some (r8, S9) => (k5 S9 v1)))
def lfX11_readTest_130_5 (x : XT) (rec_X11_readTest : ST → Int32 → Option (Unit × ST)) (rec_X11_readBoth : ST → Int32 → Option (Unit × ST)) (rec_X11_readPlain : ST → Int32 → Option (Unit × ST))  : Nat → ST → Int32 → Option (Unit × ST)
  | 0, _, _ => none
  | n + 1, S, v1 => bfX11_readTest_130_5 x rec_X11_readTest rec_X11_readBoth rec_X11_readPlain (lfX11_readTest_130_5 x rec_X11_readTest rec_X11_readBoth rec_X11_readPlain  n) S v1
def bfX11_readTest_130_0 (x : XT) (rec_X11_readTest : ST → Int32 → Option (Unit × ST)) (rec_X11_readBoth : ST → Int32 → Option (Unit × ST)) (rec_X11_readPlain : ST → Int32 → Option (Unit × ST))  (S : ST) (p1 : Int32) : Option (Unit × ST) :=
  match rec_X11_readBoth S p1 with
    | none => none
    | some (r3, S4) => (lfX11_readTest_130_5 x rec_X11_readTest rec_X11_readBoth rec_X11_readPlain  20000 S4 p1)
def grfX11_readTest_130 (x : XT) (rec_X11_readTest : ST → Int32 → Option (Unit × ST)) (rec_X11_readBoth : ST → Int32 → Option (Unit × ST)) (rec_X11_readPlain : ST → Int32 → Option (Unit × ST)) (S : ST) (p1 : Int32) : Option (Unit × ST) := bfX11_readTest_130_0 x rec_X11_readTest rec_X11_readBoth rec_X11_readPlain S p1
def bfX11_readBoth_130_5 (x : XT) (rec_X11_readTest : ST → Int32 → Option (Unit × ST)) (rec_X11_readBoth : ST → Int32 → Option (Unit × ST)) (rec_X11_readPlain : ST → Int32 → Option (Unit × ST)) (k5 : ST → Int32 → Option (Unit × ST)) (S : ST) (v1 : Int32) : Option (Unit × ST) :=
  match gfX11_takes0_130 x S 6 with
    | none => none
    | some (r3, S4) => (if r3 = 0 then (some ((), S4)) else (match rec_X11_readPlain S4 v1 with
    | none => none
    | some (r8, S9) => (k5 S9 v1)))
def lfX11_readBoth_130_5 (x : XT) (rec_X11_readTest : ST → Int32 → Option (Unit × ST)) (rec_X11_readBoth : ST → Int32 → Option (Unit × ST)) (rec_X11_readPlain : ST → Int32 → Option (Unit × ST))  : Nat → ST → Int32 → Option (Unit × ST)
  | 0, _, _ => none
  | n + 1, S, v1 => bfX11_readBoth_130_5 x rec_X11_readTest rec_X11_readBoth rec_X11_readPlain (lfX11_readBoth_130_5 x rec_X11_readTest rec_X11_readBoth rec_X11_readPlain  n) S v1
def bfX11_readBoth_130_0 (x : XT) (rec_X11_readTest : ST → Int32 → Option (Unit × ST)) (rec_X11_readBoth : ST → Int32 → Option (Unit × ST)) (rec_X11_readPlain : ST → Int32 → Option (Unit × ST))  (S : ST) (p1 : Int32) : Option (Unit × ST) :=
  match rec_X11_readPlain S p1 with
    | none => none
    | some (r3, S4) => (lfX11_readBoth_130_5 x rec_X11_readTest rec_X11_readBoth rec_X11_readPlain  20000 S4 p1)
def grfX11_readBoth_130 (x : XT) (rec_X11_readTest : ST → Int32 → Option (Unit × ST)) (rec_X11_readBoth : ST → Int32 → Option (Unit × ST)) (rec_X11_readPlain : ST → Int32 → Option (Unit × ST)) (S : ST) (p1 : Int32) : Option (Unit × ST) := bfX11_readBoth_130_0 x rec_X11_readTest rec_X11_readBoth rec_X11_readPlain S p1
def bfX11_readPlain_130_133 (x : XT) (rec_X11_readTest : ST → Int32 → Option (Unit × ST)) (rec_X11_readBoth : ST → Int32 → Option (Unit × ST)) (rec_X11_readPlain : ST → Int32 → Option (Unit × ST))  (S : ST)  : Option (Unit × ST) :=
  some ((), S)
def bfX11_readPlain_130_128 (x : XT) (rec_X11_readTest : ST → Int32 → Option (Unit × ST)) (rec_X11_readBoth : ST → Int32 → Option (Unit × ST)) (rec_X11_readPlain : ST → Int32 → Option (Unit × ST))  (S : ST) (v1 : Int32) : Option (Unit × ST) :=
  match gfX11_readSum_130 x S v1 with
    | none => none
    | some (r3, S4) => (bfX11_readPlain_130_133 x rec_X11_readTest rec_X11_readBoth rec_X11_readPlain S4)
def bfX11_readPlain_130_53 (x : XT) (rec_X11_readTest : ST → Int32 → Option (Unit × ST)) (rec_X11_readBoth : ST → Int32 → Option (Unit × ST)) (rec_X11_readPlain : ST → Int32 → Option (Unit × ST))  (S : ST) (v1 : Int32) : Option (Unit × ST) :=
  match gfX11_fine_130 x S with
    | none => none
    | some (r3, S4) => (if ¬ r3 = 0 then (match rec_X11_readTest ((u2 S4.1 130 19 ((S4.1 130 19) + 1)), S4.2.1, S4.2.2.1, S4.2.2.2) (v1 + 1) with
    | none => none
    | some (r8, S9) => (match gfX11_sign x S9 41 with
    | none => none
    | some (r12, S13) => (match gfX11_must_130 x S13 r12 with
    | none => none
    | some (r16, S17) => (bfX11_readPlain_130_133 x rec_X11_readTest rec_X11_readBoth rec_X11_readPlain S17)))) else (some ((), S4)))
def bfX11_readPlain_130_2 (x : XT) (rec_X11_readTest : ST → Int32 → Option (Unit × ST)) (rec_X11_readBoth : ST → Int32 → Option (Unit × ST)) (rec_X11_readPlain : ST → Int32 → Option (Unit × ST)) (k2 : ST → Int32 → Int32 → Option (Unit × ST)) (S : ST) (v1 : Int32) (v2 : Int32) : Option (Unit × ST) :=
  if v2 = 0 then (match gfX11_fine_130 x S with
    | none => none
    | some (r4, S5) => (if ¬ r4 = 0 then (bif inb (S5.1 130 19) 401 then (match gfX11_sign x S5 40 with
    | none => none
    | some (r10, S11) => (if ¬ (S5.2.1 139 ((S5.1 130 19).toNatClampNeg)) = r10 then (match gfX11_readSum_130 x S11 v1 with
    | none => none
    | some (r15, S16) => (match gfX11_sign x S16 60 with
    | none => none
    | some (r19, S20) => (match gfX11_takes0_130 x S20 r19 with
    | none => none
    | some (r23, S24) => (if ¬ r23 = 0 then (bfX11_readPlain_130_128 x rec_X11_readTest rec_X11_readBoth rec_X11_readPlain S24 v1) else (match gfX11_sign x S24 62 with
    | none => none
    | some (r28, S29) => (match gfX11_takes0_130 x S29 r28 with
    | none => none
    | some (r32, S33) => (if ¬ r32 = 0 then (bfX11_readPlain_130_128 x rec_X11_readTest rec_X11_readBoth rec_X11_readPlain S33 v1) else (match gfX11_sign x S33 61 with
    | none => none
    | some (r37, S38) => (match gfX11_must_130 x S38 r37 with
    | none => none
    | some (r41, S42) => (bfX11_readPlain_130_128 x rec_X11_readTest rec_X11_readBoth rec_X11_readPlain S42 v1)))))))))) else (if ¬ v1 = 8 then (bfX11_readPlain_130_53 x rec_X11_readTest rec_X11_readBoth rec_X11_readPlain S11 v1) else (match gfX11_faults_130 x S11 with
    | none => none
    | some (r46, S47) => (bfX11_readPlain_130_53 x rec_X11_readTest rec_X11_readBoth rec_X11_readPlain S47 v1))))) else none) else (some ((), S5)))) else (match gfX11_takes0_130 x S 7 with
    | none => none
    | some (r50, S51) => (k2 S51 v1 r50))
def lfX11_readPlain_130_2 (x : XT) (rec_X11_readTest : ST → Int32 → Option (Unit × ST)) (rec_X11_readBoth : ST → Int32 → Option (Unit × ST)) (rec_X11_readPlain : ST → Int32 → Option (Unit × ST))  : Nat → ST → Int32 → Int32 → Option (Unit × ST)
  | 0, _, _, _ => none
  | n + 1, S, v1, v2 => bfX11_readPlain_130_2 x rec_X11_readTest rec_X11_readBoth rec_X11_readPlain (lfX11_readPlain_130_2 x rec_X11_readTest rec_X11_readBoth rec_X11_readPlain  n) S v1 v2
def bfX11_readPlain_130_0 (x : XT) (rec_X11_readTest : ST → Int32 → Option (Unit × ST)) (rec_X11_readBoth : ST → Int32 → Option (Unit × ST)) (rec_X11_readPlain : ST → Int32 → Option (Unit × ST))  (S : ST) (p1 : Int32) : Option (Unit × ST) :=
  lfX11_readPlain_130_2 x rec_X11_readTest rec_X11_readBoth rec_X11_readPlain  20000 S p1 1
def grfX11_readPlain_130 (x : XT) (rec_X11_readTest : ST → Int32 → Option (Unit × ST)) (rec_X11_readBoth : ST → Int32 → Option (Unit × ST)) (rec_X11_readPlain : ST → Int32 → Option (Unit × ST)) (S : ST) (p1 : Int32) : Option (Unit × ST) := bfX11_readPlain_130_0 x rec_X11_readTest rec_X11_readBoth rec_X11_readPlain S p1
def gqX11_readTest_130 (x : XT) : Nat → Nat → ST → Int32 → Int32 → Option (Unit × ST)
  | 0, _, _, _, _ => none
  | n + 1, tag, S, a, b => bif Nat.beq tag 0 then grfX11_readTest_130 x (fun S z0 => gqX11_readTest_130 x n 0 S z0 0) (fun S z0 => gqX11_readTest_130 x n 1 S z0 0) (fun S z0 => gqX11_readTest_130 x n 2 S z0 0) S a else (bif Nat.beq tag 1 then grfX11_readBoth_130 x (fun S z0 => gqX11_readTest_130 x n 0 S z0 0) (fun S z0 => gqX11_readTest_130 x n 1 S z0 0) (fun S z0 => gqX11_readTest_130 x n 2 S z0 0) S a else (bif Nat.beq tag 2 then grfX11_readPlain_130 x (fun S z0 => gqX11_readTest_130 x n 0 S z0 0) (fun S z0 => gqX11_readTest_130 x n 1 S z0 0) (fun S z0 => gqX11_readTest_130 x n 2 S z0 0) S a else (none)))
def gfX11_readTest_130 (x : XT) (S : ST) (p1 : Int32) : Option (Unit × ST) := gqX11_readTest_130 x 60 0 S p1 0
def gfX11_readBoth_130 (x : XT) (S : ST) (p1 : Int32) : Option (Unit × ST) := gqX11_readTest_130 x 60 1 S p1 0
def gfX11_readPlain_130 (x : XT) (S : ST) (p1 : Int32) : Option (Unit × ST) := gqX11_readTest_130 x 60 2 S p1 0
def bfX11_readClause_130_42 (x : XT)  (S : ST)  : Option (Unit × ST) :=
  some ((), S)
def bfX11_readClause_130_29 (x : XT)  (S : ST)  : Option (Unit × ST) :=
  match gfX11_takes0_130 x S 4 with
    | none => none
    | some (r3, S4) => (if r3 = 0 then (bfX11_readClause_130_42 x S4) else (match gfX11_readTest_130 x S4 0 with
    | none => none
    | some (r8, S9) => (bfX11_readClause_130_42 x S9)))
def bfX11_readClause_130_16 (x : XT)  (S : ST)  : Option (Unit × ST) :=
  match gfX11_readSum_130 x S 0 with
    | none => none
    | some (r3, S4) => (bfX11_readClause_130_29 x S4)
def bfX11_readClause_130_0 (x : XT)  (S : ST)  : Option (Unit × ST) :=
  match gfX11_takes0_130 x S 1 with
    | none => none
    | some (r3, S4) => (if ¬ r3 = 0 then (bfX11_readClause_130_16 x S4) else (match gfX11_takes0_130 x S4 2 with
    | none => none
    | some (r8, S9) => (if r8 = 0 then (match gfX11_must_130 x S9 3 with
    | none => none
    | some (r13, S14) => (bfX11_readClause_130_29 x S14)) else (bfX11_readClause_130_16 x S9))))
def gfX11_readClause_130 (x : XT) (S : ST)  : Option (Unit × ST) := bfX11_readClause_130_0 x S 
def bfX11_readTwo_130_0 (x : XT)  (S : ST) (p1 : Int32) : Option (Unit × ST) :=
  match gfX11_readSum_130 x S 0 with
    | none => none
    | some (r3, S4) => (match gfX11_must_130 x S4 p1 with
    | none => none
    | some (r7, S8) => (match gfX11_readSum_130 x S8 0 with
    | none => none
    | some (r11, S12) => (some ((), S12))))
def gfX11_readTwo_130 (x : XT) (S : ST) (p1 : Int32) : Option (Unit × ST) := bfX11_readTwo_130_0 x S p1
def bfX11_readOrder_130_88 (x : XT)  (S : ST)  : Option (Unit × ST) :=
  some ((), S)
def bfX11_readOrder_130_75 (x : XT)  (S : ST)  : Option (Unit × ST) :=
  match gfX11_takes0_130 x S 4 with
    | none => none
    | some (r3, S4) => (if r3 = 0 then (bfX11_readOrder_130_88 x S4) else (match gfX11_readTest_130 x S4 0 with
    | none => none
    | some (r8, S9) => (bfX11_readOrder_130_88 x S9)))
def bfX11_readOrder_130_59 (x : XT)  (S : ST)  : Option (Unit × ST) :=
  match gfX11_takes0_130 x S 26 with
    | none => none
    | some (r3, S4) => (if r3 = 0 then (bfX11_readOrder_130_75 x S4) else (match gfX11_mustNumber_130 x S4 1 20 with
    | none => none
    | some (r8, S9) => (bfX11_readOrder_130_75 x S9)))
def bfX11_readOrder_130_0 (x : XT)  (S : ST)  : Option (Unit × ST) :=
  match gfX11_takes0_130 x S 20 with
    | none => none
    | some (r3, S4) => (if r3 = 0 then (match gfX11_takes0_130 x S4 23 with
    | none => none
    | some (r8, S9) => (if r8 = 0 then (match gfX11_takes0_130 x S9 22 with
    | none => none
    | some (r13, S14) => (if r13 = 0 then (match gfX11_must_130 x S14 25 with
    | none => none
    | some (r18, S19) => (bfX11_readOrder_130_59 x S19)) else (match gfX11_readSum_130 x S14 0 with
    | none => none
    | some (r22, S23) => (bfX11_readOrder_130_59 x S23)))) else (match gfX11_readTwo_130 x S9 24 with
    | none => none
    | some (r26, S27) => (bfX11_readOrder_130_59 x S27)))) else (match gfX11_readTwo_130 x S4 21 with
    | none => none
    | some (r30, S31) => (bfX11_readOrder_130_59 x S31)))
def gfX11_readOrder_130 (x : XT) (S : ST)  : Option (Unit × ST) := bfX11_readOrder_130_0 x S 
def bfX11_readOne_130_18 (x : XT)  (S : ST)  : Option (Unit × ST) :=
  some ((), S)
def bfX11_readOne_130_0 (x : XT)  (S : ST)  : Option (Unit × ST) :=
  if (S.1 130 10) = 0 then (match gfX11_readClause_130 x S with
    | none => none
    | some (r4, S5) => (bfX11_readOne_130_18 x S5)) else (match gfX11_readOrder_130 x S with
    | none => none
    | some (r8, S9) => (bfX11_readOne_130_18 x S9))
def gfX11_readOne_130 (x : XT) (S : ST)  : Option (Unit × ST) := bfX11_readOne_130_0 x S 
def bfX11_reads_130_95 (x : XT)  (S : ST)  : Option (Int32 × ST) :=
  match gfX11_fine_130 x ((u2 S.1 130 14 (S.1 130 21)), S.2.1, S.2.2.1, S.2.2.2) with
    | none => none
    | some (r3, S4) => (bif bbz r3 then (some (r3, S4)) else none)
def bfX11_reads_130_67 (x : XT) (k34 : ST → Int32 → Option (Int32 × ST)) (S : ST) (v1 : Int32) : Option (Int32 × ST) :=
  k34 S (v1 + 1)
def bfX11_reads_130_56 (x : XT) (k34 : ST → Int32 → Option (Int32 × ST)) (S : ST) (v1 : Int32) : Option (Int32 × ST) :=
  match gfX11_fine_130 x S with
    | none => none
    | some (r3, S4) => (if r3 = 0 then (bfX11_reads_130_67 x k34 S4 v1) else (match gfX11_readOne_130 x S4 with
    | none => none
    | some (r8, S9) => (bfX11_reads_130_67 x k34 S9 v1)))
def bfX11_reads_130_34 (x : XT) (k34 : ST → Int32 → Option (Int32 × ST)) (S : ST) (v1 : Int32) : Option (Int32 × ST) :=
  match gfX11_sign x S 59 with
    | none => none
    | some (r3, S4) => (match gfX11_takes0_130 x S4 r3 with
    | none => none
    | some (r7, S8) => (if r7 = 0 then (match gfX11_fine_130 x S8 with
    | none => none
    | some (r12, S13) => (if r12 = 0 then (bfX11_reads_130_95 x S13) else (if (S13.1 130 18) ≤ (S13.1 130 19) then (bfX11_reads_130_95 x S13) else (match gfX11_faults_130 x S13 with
    | none => none
    | some (r18, S19) => (bfX11_reads_130_95 x S19))))) else (if ¬ v1 = 12 then (bfX11_reads_130_56 x k34 S8 v1) else (match gfX11_faults_130 x S8 with
    | none => none
    | some (r23, S24) => (bfX11_reads_130_56 x k34 S24 v1)))))
def lfX11_reads_130_34 (x : XT)  : Nat → ST → Int32 → Option (Int32 × ST)
  | 0, _, _ => none
  | n + 1, S, v1 => bfX11_reads_130_34 x (lfX11_reads_130_34 x  n) S v1
def bfX11_reads_130_0 (x : XT)  (S : ST)  : Option (Int32 × ST) :=
  match gfX11_splits_130 x S (S.1 130 13) with
    | none => none
    | some (r3, S4) => (match gfX11_readOne_130 x ((u2 (u2 (u2 (u2 S4.1 130 13 0) 130 19 0) 130 20 0) 130 21 (-1)), S4.2.1, S4.2.2.1, S4.2.2.2) with
    | none => none
    | some (r7, S8) => (lfX11_reads_130_34 x  20000 S8 1))
def gfX11_reads_130 (x : XT) (S : ST)  : Option (Int32 × ST) := bfX11_reads_130_0 x S 
def bfX11_readsAs_130_32 (x : XT)  (S : ST) (t1 : Int32) : Option (Int32 × ST) :=
  match gfX11_reads_130 x ((u2 S.1 130 9 t1), S.2.1, S.2.2.1, S.2.2.2) with
    | none => none
    | some (r3, S4) => (bif bbz r3 then (some (r3, S4)) else none)
def bfX11_readsAs_130_17 (x : XT)  (S : ST) (v1 : Int32) (t1 : Int32) : Option (Int32 × ST) :=
  if v1 = 0 then (bfX11_readsAs_130_32 x ((u2 S.1 130 8 t1), S.2.1, S.2.2.1, S.2.2.2) 15) else (bfX11_readsAs_130_32 x ((u2 S.1 130 8 t1), S.2.1, S.2.2.1, S.2.2.2) 19)
def bfX11_readsAs_130_0 (x : XT)  (S : ST) (p1 : Int32) : Option (Int32 × ST) :=
  bif bbz p1 then (if p1 = 0 then (bfX11_readsAs_130_17 x ((u2 S.1 130 10 p1), S.2.1, S.2.2.1, S.2.2.2) p1 8) else (bfX11_readsAs_130_17 x ((u2 S.1 130 10 p1), S.2.1, S.2.2.1, S.2.2.2) p1 13)) else none
def gfX11_readsAs_130 (x : XT) (S : ST) (p1 : Int32) : Option (Int32 × ST) := bfX11_readsAs_130_0 x S p1
def bfX11_lays_130_15 (x : XT) (k15 : ST → Int32 → Int32 → Option (Unit × ST)) (S : ST) (v1 : Int32) (v2 : Int32) : Option (Unit × ST) :=
  if (S.1 130 18) ≤ v2 then (some ((), S)) else (bif inb v2 401 then (bif inb ((103 + (400 * v1)) + v2) 5703 then (bif inb v2 401 then (bif inb ((2903 + (400 * v1)) + v2) 5703 then (k15 (S.1, (u2 (u2 S.2.1 132 (((103 + (400 * v1)) + v2).toNatClampNeg) (S.2.1 139 v2.toNatClampNeg)) 132 (((2903 + (400 * v1)) + v2).toNatClampNeg) (S.2.1 140 v2.toNatClampNeg)), S.2.2.1, S.2.2.2) v1 (v2 + 1)) else none) else none) else none) else none)
def lfX11_lays_130_15 (x : XT)  : Nat → ST → Int32 → Int32 → Option (Unit × ST)
  | 0, _, _, _ => none
  | n + 1, S, v1, v2 => bfX11_lays_130_15 x (lfX11_lays_130_15 x  n) S v1 v2
def bfX11_lays_130_0 (x : XT)  (S : ST) (p1 : Int32) : Option (Unit × ST) :=
  bif inb (96 + p1) 5703 then (lfX11_lays_130_15 x  20000 (S.1, (u2 S.2.1 132 ((96 + p1).toNatClampNeg) (S.1 130 18)), S.2.2.1, S.2.2.2) p1 0) else none
def gfX11_lays_130 (x : XT) (S : ST) (p1 : Int32) : Option (Unit × ST) := bfX11_lays_130_0 x S p1
def bfX11_law_130_0 (x : XT)  (S : ST)  : Option (Int32 × ST) :=
  if ¬ (S.2.1 132 94) = 6 then (match gfX11_readsAs_130 x S 0 with
    | none => none
    | some (r4, S5) => (if ¬ r4 = 0 then (match gfX11_lays_130 x S5 (S5.2.1 132 94) with
    | none => none
    | some (r9, S10) => (match gfX11_good_130 x (S10.1, (u2 S10.2.1 132 94 ((S10.2.1 132 94) + 1)), S10.2.2.1, S10.2.2.2) (((S10.2.1 132 94) + 1) - 1) with
    | none => none
    | some (r13, S14) => (some (r13, S14)))) else (match gfX11_refuses_130 x S5 (-6) with
    | none => none
    | some (r17, S18) => (some (r17, S18))))) else (match gfX11_refuses_130 x ((u2 S.1 130 13 0), S.2.1, S.2.2.1, S.2.2.2) (-5) with
    | none => none
    | some (r21, S22) => (some (r21, S22)))
def gfX11_law_130 (x : XT) (S : ST)  : Option (Int32 × ST) := bfX11_law_130_0 x S 
def bfX11_fault_130_0 (x : XT)  (S : ST)  : Option (Int32 × ST) :=
  some ((S.1 130 14), S)
def gfX11_fault_130 (x : XT) (S : ST)  : Option (Int32 × ST) := bfX11_fault_130_0 x S 
def bfX11_isLaw_130_0 (x : XT)  (S : ST) (p1 : Int32) : Option (Int32 × ST) :=
  match gfX11_lies x S p1 (-1) ((S.2.1 132 94) - 1) with
    | none => none
    | some (r3, S4) => (bif bbz r3 then (some (r3, S4)) else none)
def gfX11_isLaw_130 (x : XT) (S : ST) (p1 : Int32) : Option (Int32 × ST) := bfX11_isLaw_130_0 x S p1
def bfX11_force_130_0 (x : XT)  (S : ST) (p1 : Int32) : Option (Int32 × ST) :=
  match gfX11_isLaw_130 x S p1 with
    | none => none
    | some (r3, S4) => (if ¬ r3 = 0 then (match gfX11_good_130 x (S4.1, (u2 S4.2.1 132 95 p1), S4.2.2.1, S4.2.2.2) (S4.2.1 132 95) with
    | none => none
    | some (r8, S9) => (some (r8, S9))) else (match gfX11_refuses_130 x S4 (-2) with
    | none => none
    | some (r12, S13) => (some (r12, S13))))
def gfX11_force_130 (x : XT) (S : ST) (p1 : Int32) : Option (Int32 × ST) := bfX11_force_130_0 x S p1
def bfX11_goesNow_130_0 (x : XT)  (S : ST) (p1 : Int32) (p2 : Int32) : Option (Int32 × ST) :=
  bif inb (5 + p1) 5703 then (match gfX11_setsGate_130 x S p1 p2 (S.2.1 132 ((5 + p1).toNatClampNeg)) with
    | none => none
    | some (r4, S5) => (match gfX11_turnsNow_130 x S5 with
    | none => none
    | some (r8, S9) => (match gfX11_paysNow_130 x S9 with
    | none => none
    | some (r12, S13) => (bif inb (46 + p2) 5703 then (bif inb (0 + p1) 5703 then (bif inb (5 + p1) 5703 then (bif inb (10 + p1) 5703 then (match gfX11_lesser x (S13.1, (u2 (u2 S13.2.1 132 ((0 + p1).toNatClampNeg) (S13.2.1 132 ((46 + p2).toNatClampNeg))) 132 ((5 + p1).toNatClampNeg) r8), S13.2.2.1, S13.2.2.2) 9999 (((u2 (u2 S13.2.1 132 ((0 + p1).toNatClampNeg) (S13.2.1 132 ((46 + p2).toNatClampNeg))) 132 ((5 + p1).toNatClampNeg) r8) 132 ((10 + p1).toNatClampNeg)) + r12) with
    | none => none
    | some (r20, S21) => (bif inb (10 + p1) 5703 then (some (r8, (S21.1, (u2 S21.2.1 132 ((10 + p1).toNatClampNeg) r20), S21.2.2.1, S21.2.2.2))) else none)) else none) else none) else none) else none)))) else none
def gfX11_goesNow_130 (x : XT) (S : ST) (p1 : Int32) (p2 : Int32) : Option (Int32 × ST) := bfX11_goesNow_130_0 x S p1 p2
def bfX11_keeps_130_54 (x : XT) (k54 : ST → Int32 → Int32 → Int32 → Option (Unit × ST)) (S : ST) (v1 : Int32) (v2 : Int32) (v3 : Int32) : Option (Unit × ST) :=
  if 36 ≤ v3 then (bif inb ((v2 * (S.1 130 31)) + 36) 592 then (some ((), ((u2 S.1 130 31 ((S.1 130 31) + 1)), (u2 S.2.1 143 (((v2 * (S.1 130 31)) + 36).toNatClampNeg) v1), S.2.2.1, S.2.2.2))) else none) else (bif inb v3 5703 then (bif inb ((v2 * (S.1 130 31)) + v3) 592 then (k54 (S.1, (u2 S.2.1 143 (((v2 * (S.1 130 31)) + v3).toNatClampNeg) (S.2.1 132 v3.toNatClampNeg)), S.2.2.1, S.2.2.2) v1 v2 (v3 + 1)) else none) else none)
def lfX11_keeps_130_54 (x : XT)  : Nat → ST → Int32 → Int32 → Int32 → Option (Unit × ST)
  | 0, _, _, _, _ => none
  | n + 1, S, v1, v2, v3 => bfX11_keeps_130_54 x (lfX11_keeps_130_54 x  n) S v1 v2 v3
def bfX11_keeps_130_52 (x : XT)  (S : ST) (v1 : Int32) (v2 : Int32) : Option (Unit × ST) :=
  lfX11_keeps_130_54 x  20000 S v1 v2 0
def bfX11_keeps_130_14 (x : XT) (k14 : ST → Int32 → Int32 → Int32 → Option (Unit × ST)) (S : ST) (v1 : Int32) (v2 : Int32) (v3 : Int32) : Option (Unit × ST) :=
  if (15 * v2) ≤ v3 then (bfX11_keeps_130_52 x ((u2 S.1 130 31 ((S.1 130 31) - 1)), S.2.1, S.2.2.1, S.2.2.2) v1 v2) else (bif inb (v3 + v2) 592 then (bif inb v3 592 then (k14 (S.1, (u2 S.2.1 143 v3.toNatClampNeg (S.2.1 143 ((v3 + v2).toNatClampNeg))), S.2.2.1, S.2.2.2) v1 v2 (v3 + 1)) else none) else none)
def lfX11_keeps_130_14 (x : XT)  : Nat → ST → Int32 → Int32 → Int32 → Option (Unit × ST)
  | 0, _, _, _, _ => none
  | n + 1, S, v1, v2, v3 => bfX11_keeps_130_14 x (lfX11_keeps_130_14 x  n) S v1 v2 v3
def bfX11_keeps_130_0 (x : XT)  (S : ST) (p1 : Int32) : Option (Unit × ST) :=
  if ¬ (S.1 130 31) = 16 then (bfX11_keeps_130_52 x S p1 37) else (lfX11_keeps_130_14 x  20000 S p1 37 0)
def gfX11_keeps_130 (x : XT) (S : ST) (p1 : Int32) : Option (Unit × ST) := bfX11_keeps_130_0 x S p1
def bfX11_undo_130_34 (x : XT) (k34 : ST → Int32 → Int32 → Option (Int32 × ST)) (S : ST) (v1 : Int32) (v2 : Int32) : Option (Int32 × ST) :=
  if 36 ≤ v2 then (bif inb (v1 + 36) 592 then (match gfX11_good_130 x S (S.2.1 143 ((v1 + 36).toNatClampNeg)) with
    | none => none
    | some (r5, S6) => (some (r5, S6))) else none) else (bif inb (v1 + v2) 592 then (bif inb v2 5703 then (k34 (S.1, (u2 S.2.1 132 v2.toNatClampNeg (S.2.1 143 ((v1 + v2).toNatClampNeg))), S.2.2.1, S.2.2.2) v1 (v2 + 1)) else none) else none)
def lfX11_undo_130_34 (x : XT)  : Nat → ST → Int32 → Int32 → Option (Int32 × ST)
  | 0, _, _, _ => none
  | n + 1, S, v1, v2 => bfX11_undo_130_34 x (lfX11_undo_130_34 x  n) S v1 v2
def bfX11_undo_130_0 (x : XT)  (S : ST)  : Option (Int32 × ST) :=
  if ¬ (S.1 130 31) = 0 then (lfX11_undo_130_34 x  20000 ((u2 S.1 130 31 ((S.1 130 31) - 1)), S.2.1, S.2.2.1, S.2.2.2) (37 * ((S.1 130 31) - 1)) 0) else (match gfX11_refuses_130 x S (-3) with
    | none => none
    | some (r4, S5) => (some (r4, S5)))
def gfX11_undo_130 (x : XT) (S : ST)  : Option (Int32 × ST) := bfX11_undo_130_0 x S 
def bfX11_goodOr_130_17 (x : XT)  (S : ST) (t0 : Int32) : Option (Int32 × ST) :=
  some (t0, S)
def bfX11_goodOr_130_0 (x : XT)  (S : ST) (p1 : Int32) : Option (Int32 × ST) :=
  if 0 ≤ p1 then (match gfX11_good_130 x S p1 with
    | none => none
    | some (r4, S5) => (bfX11_goodOr_130_17 x S5 r4)) else (match gfX11_refuses_130 x S p1 with
    | none => none
    | some (r8, S9) => (bfX11_goodOr_130_17 x S9 r8))
def gfX11_goodOr_130 (x : XT) (S : ST) (p1 : Int32) : Option (Int32 × ST) := bfX11_goodOr_130_0 x S p1
def bfX11_goesKept_130_16 (x : XT)  (S : ST)  : Option (Int32 × ST) :=
  some ((-2), S)
def bfX11_goesKept_130_0 (x : XT)  (S : ST) (p1 : Int32) (p2 : Int32) : Option (Int32 × ST) :=
  match gfX11_isGoer_130 x S p1 with
    | none => none
    | some (r3, S4) => (if r3 = 0 then (bfX11_goesKept_130_16 x S4) else (match gfX11_isGate_130 x S4 p2 with
    | none => none
    | some (r8, S9) => (if ¬ r8 = 0 then (match gfX11_canGo_130 x S9 p1 p2 with
    | none => none
    | some (r13, S14) => (if ¬ r13 = 0 then (match gfX11_keeps_130 x S14 0 with
    | none => none
    | some (r18, S19) => (match gfX11_goesNow_130 x S19 p1 p2 with
    | none => none
    | some (r22, S23) => (some (r22, S23)))) else (some ((-3), S14)))) else (bfX11_goesKept_130_16 x S9))))
def gfX11_goesKept_130 (x : XT) (S : ST) (p1 : Int32) (p2 : Int32) : Option (Int32 × ST) := bfX11_goesKept_130_0 x S p1 p2
def bfX11_latchesKept_130_0 (x : XT)  (S : ST) (p1 : Int32) : Option (Int32 × ST) :=
  match gfX11_isGate_130 x S p1 with
    | none => none
    | some (r3, S4) => (if ¬ r3 = 0 then (match gfX11_keeps_130 x S4 1 with
    | none => none
    | some (r8, S9) => (bif inb (25 + p1) 5703 then (bif inb (25 + p1) 5703 then (bif inb (25 + p1) 5703 then (some (((u2 S9.2.1 132 ((25 + p1).toNatClampNeg) (1 - (S9.2.1 132 ((25 + p1).toNatClampNeg)))) 132 ((25 + p1).toNatClampNeg)), (S9.1, (u2 S9.2.1 132 ((25 + p1).toNatClampNeg) (1 - (S9.2.1 132 ((25 + p1).toNatClampNeg)))), S9.2.2.1, S9.2.2.2))) else none) else none) else none)) else (some ((-2), S4)))
def gfX11_latchesKept_130 (x : XT) (S : ST) (p1 : Int32) : Option (Int32 × ST) := bfX11_latchesKept_130_0 x S p1
def bfX11_setsKept_130_0 (x : XT)  (S : ST) (p1 : Int32) (p2 : Int32) : Option (Int32 × ST) :=
  match gfX11_isArm x S p2 with
    | none => none
    | some (r3, S4) => (if ¬ r3 = 0 then (match gfX11_isGate_130 x S4 p1 with
    | none => none
    | some (r8, S9) => (if ¬ r8 = 0 then (bif inb (15 + p1) 5703 then (if ¬ (S9.2.1 132 ((15 + p1).toNatClampNeg)) = p2 then (match gfX11_keeps_130 x S9 2 with
    | none => none
    | some (r15, S16) => (bif inb (15 + p1) 5703 then (some ((S9.2.1 132 ((15 + p1).toNatClampNeg)), (S16.1, (u2 S16.2.1 132 ((15 + p1).toNatClampNeg) p2), S16.2.2.1, S16.2.2.2))) else none)) else (some ((-3), S9))) else none) else (some ((-2), S9)))) else (some ((-1), S4)))
def gfX11_setsKept_130 (x : XT) (S : ST) (p1 : Int32) (p2 : Int32) : Option (Int32 × ST) := bfX11_setsKept_130_0 x S p1 p2
def bfX11_passesKept_130_0 (x : XT)  (S : ST)  : Option (Int32 × ST) :=
  if ¬ (S.2.1 132 35) = 999 then (match gfX11_keeps_130 x S 3 with
    | none => none
    | some (r4, S5) => (some ((S5.2.1 132 35) + 1, (S5.1, (u2 S5.2.1 132 35 ((S5.2.1 132 35) + 1)), S5.2.2.1, S5.2.2.2)))) else (some ((-3), S))
def gfX11_passesKept_130 (x : XT) (S : ST)  : Option (Int32 × ST) := bfX11_passesKept_130_0 x S 
def bfX11_go_130_0 (x : XT)  (S : ST) (p1 : Int32) (p2 : Int32) : Option (Int32 × ST) :=
  match gfX11_goesKept_130 x S p1 p2 with
    | none => none
    | some (r3, S4) => (match gfX11_goodOr_130 x S4 r3 with
    | none => none
    | some (r7, S8) => (some (r7, S8)))
def gfX11_go_130 (x : XT) (S : ST) (p1 : Int32) (p2 : Int32) : Option (Int32 × ST) := bfX11_go_130_0 x S p1 p2
def bfX11_latch_130_0 (x : XT)  (S : ST) (p1 : Int32) : Option (Int32 × ST) :=
  match gfX11_latchesKept_130 x S p1 with
    | none => none
    | some (r3, S4) => (match gfX11_goodOr_130 x S4 r3 with
    | none => none
    | some (r7, S8) => (some (r7, S8)))
def gfX11_latch_130 (x : XT) (S : ST) (p1 : Int32) : Option (Int32 × ST) := bfX11_latch_130_0 x S p1
def bfX11_set_130_0 (x : XT)  (S : ST) (p1 : Int32) (p2 : Int32) : Option (Int32 × ST) :=
  match gfX11_setsKept_130 x S p1 p2 with
    | none => none
    | some (r3, S4) => (match gfX11_goodOr_130 x S4 r3 with
    | none => none
    | some (r7, S8) => (some (r7, S8)))
def gfX11_set_130 (x : XT) (S : ST) (p1 : Int32) (p2 : Int32) : Option (Int32 × ST) := bfX11_set_130_0 x S p1 p2
def bfX11_pass_130_0 (x : XT)  (S : ST)  : Option (Int32 × ST) :=
  match gfX11_passesKept_130 x S with
    | none => none
    | some (r3, S4) => (match gfX11_goodOr_130 x S4 r3 with
    | none => none
    | some (r7, S8) => (some (r7, S8)))
def gfX11_pass_130 (x : XT) (S : ST)  : Option (Int32 × ST) := bfX11_pass_130_0 x S 
def bfX11_laysGate_130_40 (x : XT) (k2 : ST → Int32 → Int32 → Int32 → Option (Unit × ST)) (S : ST) (v1 : Int32) (v2 : Int32) (v3 : Int32) (t1 : Int32) (t2 : Int32) : Option (Unit × ST) :=
  bif inb t1 200 then (match gfX11_paysNow_130 x (S.1, (u2 S.2.1 145 t1.toNatClampNeg t2), S.2.2.1, S.2.2.2) with
    | none => none
    | some (r4, S5) => (bif inb ((10 * v3) + v2) 200 then (k2 (S5.1, (u2 S5.2.1 146 (((10 * v3) + v2).toNatClampNeg) r4), S5.2.2.1, S5.2.2.2) v1 v2 (v3 + 1)) else none)) else none
def bfX11_laysGate_130_2 (x : XT) (k2 : ST → Int32 → Int32 → Int32 → Option (Unit × ST)) (S : ST) (v1 : Int32) (v2 : Int32) (v3 : Int32) : Option (Unit × ST) :=
  if 20 ≤ v3 then (some ((), S)) else (match gfX11_setsGate_130 x S v1 v2 v3 with
    | none => none
    | some (r4, S5) => (match gfX11_isBarredNow_130 x S5 with
    | none => none
    | some (r8, S9) => (if r8 = 0 then (match gfX11_turnsNow_130 x S9 with
    | none => none
    | some (r13, S14) => (bfX11_laysGate_130_40 x k2 S14 v1 v2 v3 ((10 * v3) + v2) r13)) else (bfX11_laysGate_130_40 x k2 S9 v1 v2 v3 ((10 * v3) + v2) (-1)))))
def lfX11_laysGate_130_2 (x : XT)  : Nat → ST → Int32 → Int32 → Int32 → Option (Unit × ST)
  | 0, _, _, _, _ => none
  | n + 1, S, v1, v2, v3 => bfX11_laysGate_130_2 x (lfX11_laysGate_130_2 x  n) S v1 v2 v3
def bfX11_laysGate_130_0 (x : XT)  (S : ST) (p1 : Int32) (p2 : Int32) : Option (Unit × ST) :=
  lfX11_laysGate_130_2 x  20000 S p1 p2 0
def gfX11_laysGate_130 (x : XT) (S : ST) (p1 : Int32) (p2 : Int32) : Option (Unit × ST) := bfX11_laysGate_130_0 x S p1 p2
def bfX11_laysOut_130_2 (x : XT) (k2 : ST → Int32 → Int32 → Option (Unit × ST)) (S : ST) (v1 : Int32) (v2 : Int32) : Option (Unit × ST) :=
  match gfX11_gateMany_130 x S with
    | none => none
    | some (r3, S4) => (if r3 ≤ v2 then (some ((), S4)) else (match gfX11_laysGate_130 x S4 v1 v2 with
    | none => none
    | some (r8, S9) => (k2 S9 v1 (v2 + 1))))
def lfX11_laysOut_130_2 (x : XT)  : Nat → ST → Int32 → Int32 → Option (Unit × ST)
  | 0, _, _, _ => none
  | n + 1, S, v1, v2 => bfX11_laysOut_130_2 x (lfX11_laysOut_130_2 x  n) S v1 v2
def bfX11_laysOut_130_0 (x : XT)  (S : ST) (p1 : Int32) : Option (Unit × ST) :=
  lfX11_laysOut_130_2 x  20000 S p1 0
def gfX11_laysOut_130 (x : XT) (S : ST) (p1 : Int32) : Option (Unit × ST) := bfX11_laysOut_130_0 x S p1
def bfX11_placeOf_130_0 (x : XT)  (S : ST) (p1 : Int32) : Option (Int32 × ST) :=
  bif inb (0 + p1) 5703 then (bif inb (5 + p1) 5703 then (some ((20 * (S.2.1 132 ((0 + p1).toNatClampNeg))) + (S.2.1 132 ((5 + p1).toNatClampNeg)), S)) else none) else none
def gfX11_placeOf_130 (x : XT) (S : ST) (p1 : Int32) : Option (Int32 × ST) := bfX11_placeOf_130_0 x S p1
def bfX11_nextPlace_130_66 (x : XT)  (S : ST) (t0 : Int32) : Option (Int32 × ST) :=
  some (t0, S)
def bfX11_nextPlace_130_48 (x : XT)  (S : ST)  : Option (Int32 × ST) :=
  bfX11_nextPlace_130_66 x S (-1)
def bfX11_nextPlace_130_0 (x : XT)  (S : ST) (p1 : Int32) (p2 : Int32) : Option (Int32 × ST) :=
  bif inb ((10 * (p1 - p1 / 20 * 20)) + p2) 200 then (bif inb (36 + p2) 5703 then (if ¬ (S.2.1 132 ((36 + p2).toNatClampNeg)) = (p1 / 20) then (bfX11_nextPlace_130_48 x S) else (bif inb (25 + p2) 5703 then (if (S.2.1 132 ((25 + p2).toNatClampNeg)) = 0 then (bfX11_nextPlace_130_48 x S) else (if ¬ (S.2.1 145 (((10 * (p1 - p1 / 20 * 20)) + p2).toNatClampNeg)) = (-1) then (bif inb (46 + p2) 5703 then (bfX11_nextPlace_130_66 x S ((20 * (S.2.1 132 ((46 + p2).toNatClampNeg))) + (S.2.1 145 (((10 * (p1 - p1 / 20 * 20)) + p2).toNatClampNeg)))) else none) else (bfX11_nextPlace_130_48 x S))) else none)) else none) else none
def gfX11_nextPlace_130 (x : XT) (S : ST) (p1 : Int32) (p2 : Int32) : Option (Int32 × ST) := bfX11_nextPlace_130_0 x S p1 p2
def bfX11_isGoal_26 (x : XT)  (S : ST) (t0 : Int32) : Option (Int32 × ST) :=
  bif bbz t0 then (some (t0, S)) else none
def bfX11_isGoal_25 (x : XT)  (S : ST)  : Option (Int32 × ST) :=
  bfX11_isGoal_26 x S 0
def bfX11_isGoal_21 (x : XT)  (S : ST)  : Option (Int32 × ST) :=
  bfX11_isGoal_26 x S 1
def bfX11_isGoal_0 (x : XT)  (S : ST) (p0 : Int32) (p1 : Int32) (p2 : Int32) : Option (Int32 × ST) :=
  if ¬ (p0 / 20) = p1 then (bfX11_isGoal_25 x S) else (if p2 = (-1) then (bfX11_isGoal_21 x S) else (if ¬ (p0 - p0 / 20 * 20) = p2 then (bfX11_isGoal_25 x S) else (bfX11_isGoal_21 x S)))
def gfX11_isGoal (x : XT) (S : ST) (p0 : Int32) (p1 : Int32) (p2 : Int32) : Option (Int32 × ST) := bfX11_isGoal_0 x S p0 p1 p2
def bfX11_canBeGoal_22 (x : XT)  (S : ST) (t0 : Int32) : Option (Int32 × ST) :=
  bif bbz t0 then (some (t0, S)) else none
def bfX11_canBeGoal_21 (x : XT)  (S : ST)  : Option (Int32 × ST) :=
  bfX11_canBeGoal_22 x S 0
def bfX11_canBeGoal_0 (x : XT)  (S : ST) (p0 : Int32) (p1 : Int32) : Option (Int32 × ST) :=
  match gfX11_isPark x S p0 with
    | none => none
    | some (r3, S4) => (if r3 = 0 then (bfX11_canBeGoal_21 x S4) else (match gfX11_lies x S4 p1 (-1) 19 with
    | none => none
    | some (r8, S9) => (if r8 = 0 then (bfX11_canBeGoal_21 x S9) else (bfX11_canBeGoal_22 x S9 1))))
def gfX11_canBeGoal (x : XT) (S : ST) (p0 : Int32) (p1 : Int32) : Option (Int32 × ST) := bfX11_canBeGoal_0 x S p0 p1
def bfX11_laysLeft_130_163 (x : XT) (k42 : ST → Int32 → Int32 → Option (Unit × ST)) (k53 : ST → Int32 → Int32 → Int32 → Option (Unit × ST)) (S : ST) (v3 : Int32) (v4 : Int32) (v5 : Int32) : Option (Unit × ST) :=
  k53 S v3 v4 (v5 + 1)
def bfX11_laysLeft_130_133 (x : XT) (k42 : ST → Int32 → Int32 → Option (Unit × ST)) (k53 : ST → Int32 → Int32 → Int32 → Option (Unit × ST)) (S : ST) (v3 : Int32) (v4 : Int32) (v5 : Int32) (v6 : Int32) (t0 : Int32) (t1 : Int32) : Option (Unit × ST) :=
  bif inb v6 120 then (if (t0 + t1) < (S.2.1 147 v6.toNatClampNeg) then (bif inb v6 120 then (bfX11_laysLeft_130_163 x k42 k53 (S.1, (u2 S.2.1 147 v6.toNatClampNeg (t0 + t1)), S.2.2.1, S.2.2.2) v3 1 v5) else none) else (bfX11_laysLeft_130_163 x k42 k53 S v3 v4 v5)) else none
end DEFS
