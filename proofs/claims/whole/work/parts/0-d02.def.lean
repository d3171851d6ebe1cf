section DEFS
def bfX10_canSeek_0_38 (x : XT)  (S : ST)  : Option (Int32 × ST) :=
  bfX10_canSeek_0_39 x S 0
def bfX10_canSeek_0_34 (x : XT)  (S : ST)  : Option (Int32 × ST) :=
  bfX10_canSeek_0_39 x S 1
def bfX10_canSeek_0_0 (x : XT)  (S : ST) (p1 : Int32) (p2 : Int32) (p3 : Int32) : Option (Int32 × ST) :=
  match gfX7_hasGoer_1 x S p1 with
    | none => none
    | some (r3, S4) => (if r3 = 0 then (bfX10_canSeek_0_38 x S4) else (match gfX10_within x S4 p2 6 with
    | none => none
    | some (r8, S9) => (if r8 = 0 then (bfX10_canSeek_0_38 x S9) else (if p3 = (-1) then (bfX10_canSeek_0_34 x S9) else (match gfX10_within x S9 p3 20 with
    | none => none
    | some (r14, S15) => (if r14 = 0 then (bfX10_canSeek_0_38 x S15) else (bfX10_canSeek_0_34 x S15)))))))
def gfX10_canSeek_0 (x : XT) (S : ST) (p1 : Int32) (p2 : Int32) (p3 : Int32) : Option (Int32 × ST) := bfX10_canSeek_0_0 x S p1 p2 p3
def bfX7_copyFrom_55_1_252 (x : XT) (k252 : ST → Int32 → Option (Unit × ST)) (S : ST) (v2 : Int32) : Option (Unit × ST) :=
  if 6 ≤ v2 then (some ((), S)) else (bif inb v2 6 then (bif inb v2 6 then (bif qk x (S.2.2.2 15 v2.toNatClampNeg) then (k252 (S.1, S.2.1, S.2.2.1, (u2 S.2.2.2 69 v2.toNatClampNeg (S.2.2.2 15 v2.toNatClampNeg))) (v2 + 1)) else none) else none) else none)
def lfX7_copyFrom_55_1_252 (x : XT)  : Nat → ST → Int32 → Option (Unit × ST)
  | 0, _, _ => none
  | n + 1, S, v2 => bfX7_copyFrom_55_1_252 x (lfX7_copyFrom_55_1_252 x  n) S v2
def bfX7_copyFrom_55_1_227 (x : XT) (k227 : ST → Int32 → Option (Unit × ST)) (S : ST) (v2 : Int32) : Option (Unit × ST) :=
  if 3 ≤ v2 then (lfX7_copyFrom_55_1_252 x  20000 S 0) else (bif inb v2 3 then (bif inb v2 3 then (k227 (S.1, (u2 S.2.1 68 v2.toNatClampNeg (S.2.1 14 v2.toNatClampNeg)), S.2.2.1, S.2.2.2) (v2 + 1)) else none) else none)
def lfX7_copyFrom_55_1_227 (x : XT)  : Nat → ST → Int32 → Option (Unit × ST)
  | 0, _, _ => none
  | n + 1, S, v2 => bfX7_copyFrom_55_1_227 x (lfX7_copyFrom_55_1_227 x  n) S v2
def bfX7_copyFrom_55_1_177 (x : XT) (k177 : ST → Int32 → Option (Unit × ST)) (S : ST) (v2 : Int32) : Option (Unit × ST) :=
  if 6 ≤ v2 then (lfX7_copyFrom_55_1_227 x  20000 S 0) else (bif inb v2 6 then (bif inb v2 6 then (bif inb v2 6 then (bif inb v2 6 then (bif inb v2 6 then (bif inb v2 6 then (k177 (S.1, (u2 (u2 (u2 S.2.1 65 v2.toNatClampNeg (S.2.1 11 v2.toNatClampNeg)) 66 v2.toNatClampNeg (S.2.1 12 v2.toNatClampNeg)) 67 v2.toNatClampNeg (S.2.1 13 v2.toNatClampNeg)), S.2.2.1, S.2.2.2) (v2 + 1)) else none) else none) else none) else none) else none) else none)
def lfX7_copyFrom_55_1_177 (x : XT)  : Nat → ST → Int32 → Option (Unit × ST)
  | 0, _, _ => none
  | n + 1, S, v2 => bfX7_copyFrom_55_1_177 x (lfX7_copyFrom_55_1_177 x  n) S v2
def bfX7_copyFrom_55_1_116 (x : XT) (k116 : ST → Int32 → Option (Unit × ST)) (S : ST) (v2 : Int32) : Option (Unit × ST) :=
  if 5 ≤ v2 then (lfX7_copyFrom_55_1_177 x  20000 S 0) else (bif inb v2 5 then (bif inb v2 5 then (bif inb v2 5 then (bif inb v2 5 then (bif inb v2 5 then (bif inb v2 5 then (bif inb v2 5 then (bif inb v2 5 then (k116 (S.1, (u2 (u2 (u2 (u2 S.2.1 61 v2.toNatClampNeg (S.2.1 7 v2.toNatClampNeg)) 62 v2.toNatClampNeg (S.2.1 8 v2.toNatClampNeg)) 63 v2.toNatClampNeg (S.2.1 9 v2.toNatClampNeg)) 64 v2.toNatClampNeg (S.2.1 10 v2.toNatClampNeg)), S.2.2.1, S.2.2.2) (v2 + 1)) else none) else none) else none) else none) else none) else none) else none) else none)
def lfX7_copyFrom_55_1_116 (x : XT)  : Nat → ST → Int32 → Option (Unit × ST)
  | 0, _, _ => none
  | n + 1, S, v2 => bfX7_copyFrom_55_1_116 x (lfX7_copyFrom_55_1_116 x  n) S v2
def bfX7_copyFrom_55_1_42 (x : XT) (k42 : ST → Int32 → Option (Unit × ST)) (S : ST) (v2 : Int32) : Option (Unit × ST) :=
  if 10 ≤ v2 then (lfX7_copyFrom_55_1_116 x  20000 S 0) else (bif inb v2 10 then (bif inb v2 10 then (bif inb v2 10 then (bif inb v2 10 then (bif inb v2 10 then (bif inb v2 10 then (bif inb v2 10 then (bif inb v2 10 then (bif inb v2 10 then (bif inb v2 10 then (k42 (S.1, (u2 (u2 (u2 (u2 (u2 S.2.1 56 v2.toNatClampNeg (S.2.1 2 v2.toNatClampNeg)) 57 v2.toNatClampNeg (S.2.1 3 v2.toNatClampNeg)) 58 v2.toNatClampNeg (S.2.1 4 v2.toNatClampNeg)) 59 v2.toNatClampNeg (S.2.1 5 v2.toNatClampNeg)) 60 v2.toNatClampNeg (vp_nar .boolean (S.2.1 6 v2.toNatClampNeg))), S.2.2.1, S.2.2.2) (v2 + 1)) else none) else none) else none) else none) else none) else none) else none) else none) else none) else none)
def lfX7_copyFrom_55_1_42 (x : XT)  : Nat → ST → Int32 → Option (Unit × ST)
  | 0, _, _ => none
  | n + 1, S, v2 => bfX7_copyFrom_55_1_42 x (lfX7_copyFrom_55_1_42 x  n) S v2
def bfX7_copyFrom_55_1_0 (x : XT)  (S : ST)  : Option (Unit × ST) :=
  lfX7_copyFrom_55_1_42 x  20000 ((u2 (u2 (u2 (u2 (u2 S.1 55 0 (S.1 1 0)) 55 6 (S.1 1 6)) 55 11 (S.1 1 11)) 55 16 (S.1 1 16)) 55 18 (S.1 1 18)), S.2.1, S.2.2.1, S.2.2.2) 0
def gfX7_copyFrom_55_1 (x : XT) (S : ST)  : Option (Unit × ST) := bfX7_copyFrom_55_1_0 x S 
def bfJ7_fill_53178_70_5 (x : XT) (k5 : ST → Int32 → Int32 → Int32 → Option (Unit × ST)) (S : ST) (v1 : Int32) (v2 : Int32) (v3 : Int32) : Option (Unit × ST) :=
  if v3 ≤ v2 then (some ((), S)) else (bif inb v2 200 then (k5 (S.1, (u2 S.2.1 70 v2.toNatClampNeg v1), S.2.2.1, S.2.2.2) v1 (v2 + 1) v3) else none)
def lfJ7_fill_53178_70_5 (x : XT)  : Nat → ST → Int32 → Int32 → Int32 → Option (Unit × ST)
  | 0, _, _, _, _ => none
  | n + 1, S, v1, v2, v3 => bfJ7_fill_53178_70_5 x (lfJ7_fill_53178_70_5 x  n) S v1 v2 v3
def bfJ7_fill_53178_70_0 (x : XT)  (S : ST) (p1 : Int32) : Option (Unit × ST) :=
  lfJ7_fill_53178_70_5 x  20000 S p1 0 200
def gfJ7_fill_53178_70 (x : XT) (S : ST) (p1 : Int32) : Option (Unit × ST) := bfJ7_fill_53178_70_0 x S p1
def bfX6_begin_54_1_0 (x : XT)  (S : ST) (p2 : Int32) : Option (Unit × ST) :=
  match gfX7_copyFrom_55_1 x S with
    | none => none
    | some (r3, S4) => (match gfJ7_fill_53178_70 x ((u2 S4.1 54 2 p2), S4.2.1, S4.2.2.1, S4.2.2.2) (-2) with
    | none => none
    | some (r7, S8) => (some ((), S8)))
def gfX6_begin_54_1 (x : XT) (S : ST) (p2 : Int32) : Option (Unit × ST) := bfX6_begin_54_1_0 x S p2
def bfX6_isAt_26 (x : XT)  (S : ST) (t0 : Int32) : Option (Int32 × ST) :=
  bif bbz t0 then (some (t0, S)) else none
def bfX6_isAt_25 (x : XT)  (S : ST)  : Option (Int32 × ST) :=
  bfX6_isAt_26 x S 0
def bfX6_isAt_21 (x : XT)  (S : ST)  : Option (Int32 × ST) :=
  bfX6_isAt_26 x S 1
def bfX6_isAt_0 (x : XT)  (S : ST) (p0 : Int32) (p1 : Int32) (p2 : Int32) : Option (Int32 × ST) :=
  if ¬ (p0 / 20) = p1 then (bfX6_isAt_25 x S) else (if p2 = (-1) then (bfX6_isAt_21 x S) else (if ¬ (p0 - p0 / 20 * 20) = p2 then (bfX6_isAt_25 x S) else (bfX6_isAt_21 x S)))
def gfX6_isAt (x : XT) (S : ST) (p0 : Int32) (p1 : Int32) (p2 : Int32) : Option (Int32 × ST) := bfX6_isAt_0 x S p0 p1 p2
def bfX0_regardUnknown_20_55_0 (x : XT)  (S : ST) (p2 : Int32) (p3 : Int32) (p4 : Int32) : Option (Unit × ST) :=
  some ((), (S.1, (u2 (u2 (u2 (u2 (u2 (u2 (u2 (u2 S.2.1 21 0 p2) 21 1 p3) 21 2 p4) 21 3 0) 21 4 (-1)) 21 5 (-1)) 21 6 (S.2.1 68 0)) 21 7 (S.2.1 68 2)), S.2.2.1, S.2.2.2))
def gfX0_regardUnknown_20_55 (x : XT) (S : ST) (p2 : Int32) (p3 : Int32) (p4 : Int32) : Option (Unit × ST) := bfX0_regardUnknown_20_55_0 x S p2 p3 p4
def bfX0_regard_20_55_0 (x : XT)  (S : ST) (p2 : Int32) (p3 : Int32) (p4 : Int32) : Option (Unit × ST) :=
  bif inb p3 10 then (bif inb p3 10 then (match gfX0_regardUnknown_20_55 x S (S.2.1 58 p3.toNatClampNeg) (S.2.1 59 p3.toNatClampNeg) p4 with
    | none => none
    | some (r5, S6) => (bif inb p2 5 then (some ((), (S6.1, (u2 (u2 (u2 S6.2.1 21 3 (S6.2.1 63 p2.toNatClampNeg)) 21 4 p3) 21 5 p2), S6.2.2.1, S6.2.2.2))) else none)) else none) else none
def gfX0_regard_20_55 (x : XT) (S : ST) (p2 : Int32) (p3 : Int32) (p4 : Int32) : Option (Unit × ST) := bfX0_regard_20_55_0 x S p2 p3 p4
def bfX7_hasLaw_55_17 (x : XT)  (S : ST) (t0 : Int32) : Option (Int32 × ST) :=
  bif bbz t0 then (some (t0, S)) else none
def bfX7_hasLaw_55_16 (x : XT)  (S : ST)  : Option (Int32 × ST) :=
  bfX7_hasLaw_55_17 x S 0
def bfX7_hasLaw_55_0 (x : XT)  (S : ST) (p1 : Int32) : Option (Int32 × ST) :=
  if p1 < 0 then (bfX7_hasLaw_55_16 x S) else (if (S.1 55 16) ≤ p1 then (bfX7_hasLaw_55_16 x S) else (bfX7_hasLaw_55_17 x S 1))
def gfX7_hasLaw_55 (x : XT) (S : ST) (p1 : Int32) : Option (Int32 × ST) := bfX7_hasLaw_55_0 x S p1
def bfX7_inForce_55_24 (x : XT)  (S : ST) (t0 : Option Nat) : Option (Option Nat × ST) :=
  some (t0, S)
def bfX7_inForce_55_0 (x : XT)  (S : ST)  : Option (Option Nat × ST) :=
  match gfX7_hasLaw_55 x S (S.1 55 18) with
    | none => none
    | some (r3, S4) => (if r3 = 0 then (bfX7_inForce_55_24 x S4 none) else (bif inb (S4.1 55 18) 6 then (bfX7_inForce_55_24 x S4 (S4.2.2.2 69 ((S4.1 55 18).toNatClampNeg))) else none))
def gfX7_inForce_55 (x : XT) (S : ST)  : Option (Option Nat × ST) := bfX7_inForce_55_0 x S 
def bfX0_told_20_55_171 (x : XT)  (S : ST) (t0 : Int32) : Option (Int32 × ST) :=
  some (t0, S)
def bfX0_told_20_55_192 (x : XT)  (S : ST) (t0 : Int32) : Option (Int32 × ST) :=
  some (t0, S)
def bfX0_told_20_55_204 (x : XT)  (S : ST) (t0 : Int32) : Option (Int32 × ST) :=
  some (t0, S)
def bfX0_told_20_55_111 (x : XT)  (S : ST) (v2 : Int32) (v3 : Int32) : Option (Int32 × ST) :=
  if v2 = 260 then (if ¬ v3 = (-2000000000) then (bfX0_told_20_55_171 x S (if 0 < (if 19 < v3 then 19 else v3) then (if 19 < v3 then 19 else v3) else 0)) else (bfX0_told_20_55_171 x S (if ((S.2.1 21 2) - 1) < 0 then 0 else ((S.2.1 21 2) - 1)))) else (if v2 = 261 then (if ¬ v3 = (-2000000000) then (bfX0_told_20_55_192 x S (if 0 < (if 9 < v3 then 9 else v3) then (if 9 < v3 then 9 else v3) else 0)) else (bfX0_told_20_55_192 x S 1)) else (if ¬ v3 = (-2000000000) then (bfX0_told_20_55_204 x S 1) else (bfX0_told_20_55_204 x S 0)))
def bfX0_told_20_55_105 (x : XT) (k23 : ST → Int32 → Int32 → Nat → Int32 → Option (Int32 × ST)) (S : ST) (v2 : Int32) (v3 : Int32) (v4 : Nat) (v5 : Int32) : Option (Int32 × ST) :=
  bif tx x v4 then (k23 S v2 v3 v4 (v5 + (-1))) else none
def bfX0_told_20_55_104 (x : XT) (k23 : ST → Int32 → Int32 → Nat → Int32 → Option (Int32 × ST)) (S : ST) (v2 : Int32) (v4 : Nat) (v5 : Int32) (t0 : Int32) : Option (Int32 × ST) :=
  bif tx x v4 then (bfX0_told_20_55_105 x k23 S v2 t0 v4 v5) else none
def bfX0_told_20_55_77 (x : XT) (k23 : ST → Int32 → Int32 → Nat → Int32 → Option (Int32 × ST)) (S : ST) (v2 : Int32) (v4 : Nat) (v5 : Int32) : Option (Int32 × ST) :=
  bif tx x v4 then (if ¬ v2 = 262 then (match gfX9_reckon_T_21_22 x S v4 v5 0 with
    | none => none
    | some (r5, S6) => (bfX0_told_20_55_104 x k23 S6 v2 v4 v5 r5)) else (bfX0_told_20_55_104 x k23 S v2 v4 v5 1)) else none
def bfX0_told_20_55_23 (x : XT) (k23 : ST → Int32 → Int32 → Nat → Int32 → Option (Int32 × ST)) (S : ST) (v2 : Int32) (v3 : Int32) (v4 : Nat) (v5 : Int32) : Option (Int32 × ST) :=
  bif tx x v4 then (if v5 < 0 then (bfX0_told_20_55_111 x S v2 v3) else (if ¬ v3 = (-2000000000) then (bfX0_told_20_55_111 x S v2 v3) else (bif inb v5 (mL x (v4 + 1)) then (if ¬ (S.2.1 (v4 + 1) v5.toNatClampNeg) = v2 then (bfX0_told_20_55_105 x k23 S v2 v3 v4 v5) else (match gfX9_has_T x S v4 v5 2 with
    | none => none
    | some (r8, S9) => (if r8 = 0 then (bfX0_told_20_55_77 x k23 S9 v2 v4 v5) else (match gfX9_reckon_T_21_22 x S9 v4 v5 2 with
    | none => none
    | some (r13, S14) => (if ¬ r13 = 1 then (bfX0_told_20_55_105 x k23 S14 v2 v3 v4 v5) else (bfX0_told_20_55_77 x k23 S14 v2 v4 v5)))))) else none))) else none
def lfX0_told_20_55_23 (x : XT)  : Nat → ST → Int32 → Int32 → Nat → Int32 → Option (Int32 × ST)
  | 0, _, _, _, _, _ => none
  | n + 1, S, v2, v3, v4, v5 => bfX0_told_20_55_23 x (lfX0_told_20_55_23 x  n) S v2 v3 v4 v5
def bfX0_told_20_55_0 (x : XT)  (S : ST) (p2 : Int32) : Option (Int32 × ST) :=
  match gfX7_inForce_55 x S with
    | none => none
    | some (r3, S4) => (match r3 with
    | none => (bfX0_told_20_55_111 x S4 p2 (-2000000000))
    | some t5 => bif tx x t5 then (lfX0_told_20_55_23 x  20000 S4 p2 (-2000000000) t5 ((S4.1 t5 0) - 1)) else none)
def gfX0_told_20_55 (x : XT) (S : ST) (p2 : Int32) : Option (Int32 × ST) := bfX0_told_20_55_0 x S p2
def bfX6_behind_54_28 (x : XT)  (S : ST)  : Option (Int32 × ST) :=
  some ((-1), S)
def bfX6_behind_54_150 (x : XT)  (S : ST) (t0 : Int32) : Option (Int32 × ST) :=
  some (t0, S)
def bfX6_behind_54_115 (x : XT)  (S : ST) (v1 : Int32) (v4 : Int32) : Option (Int32 × ST) :=
  bif inb v4 200 then (if ¬ (S.2.1 70 v4.toNatClampNeg) = (-1) then (bif inb v1 10 then (bif inb v4 200 then (bfX6_behind_54_150 x S (((S.2.1 57 v1.toNatClampNeg) * 20) + (S.2.1 70 v4.toNatClampNeg))) else none) else none) else (bfX6_behind_54_150 x S (-1))) else none
def bfX6_behind_54_114 (x : XT)  (S : ST) (v1 : Int32) (v4 : Int32) (t1 : Int32) (t2 : Int32) : Option (Int32 × ST) :=
  bif inb t1 200 then (bfX6_behind_54_115 x (S.1, (u2 S.2.1 70 t1.toNatClampNeg t2), S.2.2.1, S.2.2.2) v1 v4) else none
def bfX6_behind_54_0 (x : XT)  (S : ST) (p1 : Int32) (p2 : Int32) : Option (Int32 × ST) :=
  bif inb p1 10 then (if ¬ (S.2.1 56 p1.toNatClampNeg) = (p2 / 20) then (bfX6_behind_54_28 x S) else (bif inb p1 10 then (if ¬ (S.2.1 60 p1.toNatClampNeg) = 0 then (bif inb ((p1 * 20) + (p2 - p2 / 20 * 20)) 200 then (if ¬ (S.2.1 70 (((p1 * 20) + (p2 - p2 / 20 * 20)).toNatClampNeg)) = (-2) then (bfX6_behind_54_115 x S p1 ((p1 * 20) + (p2 - p2 / 20 * 20))) else (match gfX0_regard_20_55 x S (S.1 54 2) p1 (p2 - p2 / 20 * 20) with
    | none => none
    | some (r9, S10) => (match gfX0_told_20_55 x S10 262 with
    | none => none
    | some (r13, S14) => (if ¬ r13 = 1 then (match gfX0_told_20_55 x S14 260 with
    | none => none
    | some (r18, S19) => (bfX6_behind_54_114 x S19 p1 ((p1 * 20) + (p2 - p2 / 20 * 20)) ((p1 * 20) + (p2 - p2 / 20 * 20)) r18)) else (bfX6_behind_54_114 x S14 p1 ((p1 * 20) + (p2 - p2 / 20 * 20)) ((p1 * 20) + (p2 - p2 / 20 * 20)) (-1)))))) else none) else (bfX6_behind_54_28 x S)) else none)) else none
def gfX6_behind_54 (x : XT) (S : ST) (p1 : Int32) (p2 : Int32) : Option (Int32 × ST) := bfX6_behind_54_0 x S p1 p2
def bfJ7_fill_53178_72_5 (x : XT) (k5 : ST → Int32 → Int32 → Int32 → Option (Unit × ST)) (S : ST) (v1 : Int32) (v2 : Int32) (v3 : Int32) : Option (Unit × ST) :=
  if v3 ≤ v2 then (some ((), S)) else (bif inb v2 120 then (k5 (S.1, (u2 S.2.1 72 v2.toNatClampNeg v1), S.2.2.1, S.2.2.2) v1 (v2 + 1) v3) else none)
def lfJ7_fill_53178_72_5 (x : XT)  : Nat → ST → Int32 → Int32 → Int32 → Option (Unit × ST)
  | 0, _, _, _, _ => none
  | n + 1, S, v1, v2, v3 => bfJ7_fill_53178_72_5 x (lfJ7_fill_53178_72_5 x  n) S v1 v2 v3
def bfJ7_fill_53178_72_0 (x : XT)  (S : ST) (p1 : Int32) : Option (Unit × ST) :=
  lfJ7_fill_53178_72_5 x  20000 S p1 0 120
def gfJ7_fill_53178_72 (x : XT) (S : ST) (p1 : Int32) : Option (Unit × ST) := bfJ7_fill_53178_72_0 x S p1
def bfX6_start_54_0 (x : XT)  (S : ST)  : Option (Int32 × ST) :=
  bif inb (S.1 54 2) 5 then (bif inb (S.1 54 2) 5 then (some (((S.2.1 61 ((S.1 54 2).toNatClampNeg)) * 20) + (S.2.1 62 ((S.1 54 2).toNatClampNeg)), S)) else none) else none
def gfX6_start_54 (x : XT) (S : ST)  : Option (Int32 × ST) := bfX6_start_54_0 x S 
def bfX6_find_54_236 (x : XT)  (S : ST)  : Option (Int32 × ST) :=
  some ((-1), S)
def bfX6_find_54_224 (x : XT) (k56 : ST → Int32 → Int32 → Int32 → Int32 → Option (Int32 × ST)) (k84 : ST → Int32 → Int32 → Int32 → Int32 → Int32 → Int32 → Option (Int32 × ST)) (S : ST) (v1 : Int32) (v2 : Int32) (v3 : Int32) (v4 : Int32) (v5 : Int32) (v6 : Int32) : Option (Int32 × ST) :=
  k84 S v1 v2 v3 v4 v5 (v6 + 1)
def bfX6_find_54_128 (x : XT) (k56 : ST → Int32 → Int32 → Int32 → Int32 → Option (Int32 × ST)) (k84 : ST → Int32 → Int32 → Int32 → Int32 → Int32 → Int32 → Option (Int32 × ST)) (S : ST) (v1 : Int32) (v2 : Int32) (v3 : Int32) (v4 : Int32) (v5 : Int32) (v6 : Int32) (t0 : Int32) : Option (Int32 × ST) :=
  if t0 = (-1) then (bfX6_find_54_224 x k56 k84 S v1 v2 v3 v4 v5 v6) else (bif inb t0 120 then (if ¬ (S.2.1 72 t0.toNatClampNeg) = (-1) then (bfX6_find_54_224 x k56 k84 S v1 v2 v3 v4 v5 v6) else (if v3 < 120 then (bif inb v4 120 then (bif inb (S.2.1 71 v4.toNatClampNeg) 120 then (bif inb t0 120 then (bif inb t0 120 then (bif inb v4 120 then (bif inb t0 120 then (match gfX6_isAt x (S.1, (u2 (u2 (u2 S.2.1 72 t0.toNatClampNeg ((S.2.1 72 ((S.2.1 71 v4.toNatClampNeg).toNatClampNeg)) + 1)) 73 t0.toNatClampNeg v6) 74 t0.toNatClampNeg (S.2.1 71 v4.toNatClampNeg)), S.2.2.1, S.2.2.2) t0 v1 v2 with
    | none => none
    | some (r13, S14) => (if r13 = 0 then (bif inb v3 120 then (bfX6_find_54_224 x k56 k84 (S14.1, (u2 S14.2.1 71 v3.toNatClampNeg t0), S14.2.2.1, S14.2.2.2) v1 v2 (v3 + 1) v4 v5 v6) else none) else (some (t0, S14)))) else none) else none) else none) else none) else none) else none) else (bfX6_find_54_224 x k56 k84 S v1 v2 v3 v4 v5 v6))) else none)
def bfX6_find_54_84 (x : XT) (k56 : ST → Int32 → Int32 → Int32 → Int32 → Option (Int32 × ST)) (k84 : ST → Int32 → Int32 → Int32 → Int32 → Int32 → Int32 → Option (Int32 × ST)) (S : ST) (v1 : Int32) (v2 : Int32) (v3 : Int32) (v4 : Int32) (v5 : Int32) (v6 : Int32) : Option (Int32 × ST) :=
  if (S.1 55 0) ≤ v6 then (k56 S v1 v2 v3 (v4 + 1)) else (bif inb v6 10 then (if ¬ (S.2.1 56 v6.toNatClampNeg) = v5 then (bfX6_find_54_128 x k56 k84 S v1 v2 v3 v4 v5 v6 (-1)) else (bif inb v4 120 then (match gfX6_behind_54 x S v6 (S.2.1 71 v4.toNatClampNeg) with
    | none => none
    | some (r7, S8) => (bfX6_find_54_128 x k56 k84 S8 v1 v2 v3 v4 v5 v6 r7)) else none)) else none)
def lfX6_find_54_84 (x : XT) (k56 : ST → Int32 → Int32 → Int32 → Int32 → Option (Int32 × ST)) : Nat → ST → Int32 → Int32 → Int32 → Int32 → Int32 → Int32 → Option (Int32 × ST)
  | 0, _, _, _, _, _, _, _ => none
  | n + 1, S, v1, v2, v3, v4, v5, v6 => bfX6_find_54_84 x k56 (lfX6_find_54_84 x k56 n) S v1 v2 v3 v4 v5 v6
def bfX6_find_54_56 (x : XT) (k56 : ST → Int32 → Int32 → Int32 → Int32 → Option (Int32 × ST)) (S : ST) (v1 : Int32) (v2 : Int32) (v3 : Int32) (v4 : Int32) : Option (Int32 × ST) :=
  if v3 ≤ v4 then (bfX6_find_54_236 x S) else (if 120 ≤ v4 then (bfX6_find_54_236 x S) else (bif inb v4 120 then (lfX6_find_54_84 x k56 20000 S v1 v2 v3 v4 ((S.2.1 71 v4.toNatClampNeg) / 20) 0) else none))
def lfX6_find_54_56 (x : XT)  : Nat → ST → Int32 → Int32 → Int32 → Int32 → Option (Int32 × ST)
  | 0, _, _, _, _, _ => none
  | n + 1, S, v1, v2, v3, v4 => bfX6_find_54_56 x (lfX6_find_54_56 x  n) S v1 v2 v3 v4
def bfX6_find_54_0 (x : XT)  (S : ST) (p1 : Int32) (p2 : Int32) : Option (Int32 × ST) :=
  match gfJ7_fill_53178_72 x S (-1) with
    | none => none
    | some (r3, S4) => (match gfX6_start_54 x S4 with
    | none => none
    | some (r7, S8) => (bif inb r7 120 then (match gfX6_isAt x (S8.1, (u2 (u2 S8.2.1 71 0 r7) 72 r7.toNatClampNeg 0), S8.2.2.1, S8.2.2.2) r7 p1 p2 with
    | none => none
    | some (r12, S13) => (if r12 = 0 then (lfX6_find_54_56 x  20000 S13 p1 p2 1 0) else (some ((S13.2.1 71 0), S13)))) else none))
def gfX6_find_54 (x : XT) (S : ST) (p1 : Int32) (p2 : Int32) : Option (Int32 × ST) := bfX6_find_54_0 x S p1 p2
def bfX6_wayGate_54_29 (x : XT)  (S : ST)  : Option (Int32 × ST) :=
  some ((-1), S)
def bfX6_wayGate_54_42 (x : XT) (k42 : ST → Int32 → Int32 → Int32 → Option (Int32 × ST)) (S : ST) (v3 : Int32) (v4 : Int32) (v5 : Int32) : Option (Int32 × ST) :=
  if v5 ≤ v3 then (bif inb v4 120 then (some ((S.2.1 73 v4.toNatClampNeg), S)) else none) else (bif inb v4 120 then (k42 S v3 (S.2.1 74 v4.toNatClampNeg) (v5 + (-1))) else none)
def lfX6_wayGate_54_42 (x : XT)  : Nat → ST → Int32 → Int32 → Int32 → Option (Int32 × ST)
  | 0, _, _, _, _ => none
  | n + 1, S, v3, v4, v5 => bfX6_wayGate_54_42 x (lfX6_wayGate_54_42 x  n) S v3 v4 v5
def bfX6_wayGate_54_0 (x : XT)  (S : ST) (p1 : Int32) (p2 : Int32) (p3 : Int32) : Option (Int32 × ST) :=
  match gfX6_find_54 x S p1 p2 with
    | none => none
    | some (r3, S4) => (if r3 = (-1) then (bfX6_wayGate_54_29 x S4) else (if p3 < 0 then (bfX6_wayGate_54_29 x S4) else (bif inb r3 120 then (if p3 < (S4.2.1 72 r3.toNatClampNeg) then (bif inb r3 120 then (lfX6_wayGate_54_42 x  20000 S4 p3 r3 ((S4.2.1 72 r3.toNatClampNeg) - 1)) else none) else (bfX6_wayGate_54_29 x S4)) else none)))
def gfX6_wayGate_54 (x : XT) (S : ST) (p1 : Int32) (p2 : Int32) (p3 : Int32) : Option (Int32 × ST) := bfX6_wayGate_54_0 x S p1 p2 p3
def bfX6_wayLength_54_22 (x : XT)  (S : ST) (t0 : Int32) : Option (Int32 × ST) :=
  some (t0, S)
def bfX6_wayLength_54_0 (x : XT)  (S : ST) (p1 : Int32) (p2 : Int32) : Option (Int32 × ST) :=
  match gfX6_find_54 x S p1 p2 with
    | none => none
    | some (r3, S4) => (if ¬ r3 = (-1) then (bif inb r3 120 then (bfX6_wayLength_54_22 x S4 (S4.2.1 72 r3.toNatClampNeg)) else none) else (bfX6_wayLength_54_22 x S4 (-1)))
def gfX6_wayLength_54 (x : XT) (S : ST) (p1 : Int32) (p2 : Int32) : Option (Int32 × ST) := bfX6_wayLength_54_0 x S p1 p2
def bfX10_way_0_53 (x : XT)  (S : ST) (t0 : Int32) : Option (Int32 × ST) :=
  some (t0, S)
def bfX10_way_0_0 (x : XT)  (S : ST) (p1 : Int32) (p2 : Int32) (p3 : Int32) (p4 : Int32) : Option (Int32 × ST) :=
  match gfX10_canSeek_0 x S p1 p2 p3 with
    | none => none
    | some (r3, S4) => (if ¬ r3 = 0 then (match gfX6_begin_54_1 x S4 p1 with
    | none => none
    | some (r8, S9) => (if ¬ p4 = (-1) then (match gfX6_wayGate_54 x S9 p2 p3 p4 with
    | none => none
    | some (r13, S14) => (bfX10_way_0_53 x S14 r13)) else (match gfX6_wayLength_54 x S9 p2 p3 with
    | none => none
    | some (r17, S18) => (bfX10_way_0_53 x S18 r17)))) else (some ((-1), S4)))
def gfX10_way_0 (x : XT) (S : ST) (p1 : Int32) (p2 : Int32) (p3 : Int32) (p4 : Int32) : Option (Int32 × ST) := bfX10_way_0_0 x S p1 p2 p3 p4
def bfX6_payInto_54_85 (x : XT)  (S : ST)  : Option (Unit × ST) :=
  some ((), S)
def bfX6_payInto_54_77 (x : XT)  (S : ST) (v3 : Int32) (v4 : Int32) : Option (Unit × ST) :=
  bif inb v3 120 then (bfX6_payInto_54_85 x (S.1, (u2 S.2.1 76 v3.toNatClampNeg v4), S.2.2.1, S.2.2.2)) else none
def bfX6_payInto_54_0 (x : XT)  (S : ST) (p1 : Int32) (p2 : Int32) : Option (Unit × ST) :=
  match gfX6_behind_54 x S p1 p2 with
    | none => none
    | some (r3, S4) => (if ¬ r3 = (-1) then (match gfX0_regard_20_55 x S4 (S4.1 54 2) p1 (p2 - p2 / 20 * 20) with
    | none => none
    | some (r8, S9) => (bif inb p2 120 then (match gfX0_told_20_55 x S9 261 with
    | none => none
    | some (r13, S14) => (bif inb r3 120 then (if (S14.2.1 76 r3.toNatClampNeg) = (-1) then (bfX6_payInto_54_77 x S14 r3 ((S9.2.1 76 p2.toNatClampNeg) + r13)) else (bif inb r3 120 then (if (S14.2.1 76 r3.toNatClampNeg) ≤ ((S9.2.1 76 p2.toNatClampNeg) + r13) then (bfX6_payInto_54_85 x S14) else (bfX6_payInto_54_77 x S14 r3 ((S9.2.1 76 p2.toNatClampNeg) + r13))) else none)) else none)) else none)) else (some ((), S4)))
def gfX6_payInto_54 (x : XT) (S : ST) (p1 : Int32) (p2 : Int32) : Option (Unit × ST) := bfX6_payInto_54_0 x S p1 p2
def bfX6_cheapestUnsettled_54_51 (x : XT) (k4 : ST → Int32 → Int32 → Option (Int32 × ST)) (S : ST) (v1 : Int32) (v2 : Int32) : Option (Int32 × ST) :=
  k4 S v1 (v2 + 1)
def bfX6_cheapestUnsettled_54_49 (x : XT) (k4 : ST → Int32 → Int32 → Option (Int32 × ST)) (S : ST) (v2 : Int32) : Option (Int32 × ST) :=
  bfX6_cheapestUnsettled_54_51 x k4 S v2 v2
def bfX6_cheapestUnsettled_54_4 (x : XT) (k4 : ST → Int32 → Int32 → Option (Int32 × ST)) (S : ST) (v1 : Int32) (v2 : Int32) : Option (Int32 × ST) :=
  if 120 ≤ v2 then (some (v1, S)) else (bif inb v2 120 then (if ¬ (S.2.1 77 v2.toNatClampNeg) = 0 then (bfX6_cheapestUnsettled_54_51 x k4 S v1 v2) else (bif inb v2 120 then (if (S.2.1 76 v2.toNatClampNeg) = (-1) then (bfX6_cheapestUnsettled_54_51 x k4 S v1 v2) else (if v1 = (-1) then (bfX6_cheapestUnsettled_54_49 x k4 S v2) else (bif inb v2 120 then (bif inb v1 120 then (if (S.2.1 76 v1.toNatClampNeg) ≤ (S.2.1 76 v2.toNatClampNeg) then (bfX6_cheapestUnsettled_54_51 x k4 S v1 v2) else (bfX6_cheapestUnsettled_54_49 x k4 S v2)) else none) else none))) else none)) else none)
def lfX6_cheapestUnsettled_54_4 (x : XT)  : Nat → ST → Int32 → Int32 → Option (Int32 × ST)
  | 0, _, _, _ => none
  | n + 1, S, v1, v2 => bfX6_cheapestUnsettled_54_4 x (lfX6_cheapestUnsettled_54_4 x  n) S v1 v2
def bfX6_cheapestUnsettled_54_0 (x : XT)  (S : ST)  : Option (Int32 × ST) :=
  lfX6_cheapestUnsettled_54_4 x  20000 S (-1) 0
def gfX6_cheapestUnsettled_54 (x : XT) (S : ST)  : Option (Int32 × ST) := bfX6_cheapestUnsettled_54_0 x S 
def bfJ7_fill_53178_76_5 (x : XT) (k5 : ST → Int32 → Int32 → Int32 → Option (Unit × ST)) (S : ST) (v1 : Int32) (v2 : Int32) (v3 : Int32) : Option (Unit × ST) :=
  if v3 ≤ v2 then (some ((), S)) else (bif inb v2 120 then (k5 (S.1, (u2 S.2.1 76 v2.toNatClampNeg v1), S.2.2.1, S.2.2.2) v1 (v2 + 1) v3) else none)
def lfJ7_fill_53178_76_5 (x : XT)  : Nat → ST → Int32 → Int32 → Int32 → Option (Unit × ST)
  | 0, _, _, _, _ => none
  | n + 1, S, v1, v2, v3 => bfJ7_fill_53178_76_5 x (lfJ7_fill_53178_76_5 x  n) S v1 v2 v3
def bfJ7_fill_53178_76_0 (x : XT)  (S : ST) (p1 : Int32) : Option (Unit × ST) :=
  lfJ7_fill_53178_76_5 x  20000 S p1 0 120
def gfJ7_fill_53178_76 (x : XT) (S : ST) (p1 : Int32) : Option (Unit × ST) := bfJ7_fill_53178_76_0 x S p1
def bfJ7_fill_53178_77_5 (x : XT) (k5 : ST → Int32 → Int32 → Int32 → Option (Unit × ST)) (S : ST) (v1 : Int32) (v2 : Int32) (v3 : Int32) : Option (Unit × ST) :=
  if v3 ≤ v2 then (some ((), S)) else (bif inb v2 120 then (k5 (S.1, (u2 S.2.1 77 v2.toNatClampNeg v1), S.2.2.1, S.2.2.2) v1 (v2 + 1) v3) else none)
def lfJ7_fill_53178_77_5 (x : XT)  : Nat → ST → Int32 → Int32 → Int32 → Option (Unit × ST)
  | 0, _, _, _, _ => none
  | n + 1, S, v1, v2, v3 => bfJ7_fill_53178_77_5 x (lfJ7_fill_53178_77_5 x  n) S v1 v2 v3
def bfJ7_fill_53178_77_0 (x : XT)  (S : ST) (p1 : Int32) : Option (Unit × ST) :=
  lfJ7_fill_53178_77_5 x  20000 S p1 0 120
def gfJ7_fill_53178_77 (x : XT) (S : ST) (p1 : Int32) : Option (Unit × ST) := bfJ7_fill_53178_77_0 x S p1
def bfX6_leastToll_54_73 (x : XT)  (S : ST) (t0 : Int32) : Option (Int32 × ST) :=
  some (t0, S)
def bfX6_leastToll_54_56 (x : XT)  (S : ST) (v4 : Int32) : Option (Int32 × ST) :=
  if ¬ v4 = (-1) then (bif inb v4 120 then (bfX6_leastToll_54_73 x S (S.2.1 76 v4.toNatClampNeg)) else none) else (bfX6_leastToll_54_73 x S (-1))
def bfX6_leastToll_54_85 (x : XT) (k28 : ST → Int32 → Int32 → Int32 → Option (Int32 × ST)) (k85 : ST → Int32 → Int32 → Int32 → Int32 → Int32 → Option (Int32 × ST)) (S : ST) (v1 : Int32) (v2 : Int32) (v3 : Int32) (v4 : Int32) (v5 : Int32) : Option (Int32 × ST) :=
  if (S.1 55 0) ≤ v5 then (k28 S v1 v2 (v3 + 1)) else (match gfX6_payInto_54 x S v5 v4 with
    | none => none
    | some (r4, S5) => (k85 S5 v1 v2 v3 v4 (v5 + 1)))
def lfX6_leastToll_54_85 (x : XT) (k28 : ST → Int32 → Int32 → Int32 → Option (Int32 × ST)) : Nat → ST → Int32 → Int32 → Int32 → Int32 → Int32 → Option (Int32 × ST)
  | 0, _, _, _, _, _, _ => none
  | n + 1, S, v1, v2, v3, v4, v5 => bfX6_leastToll_54_85 x k28 (lfX6_leastToll_54_85 x k28 n) S v1 v2 v3 v4 v5
def bfX6_leastToll_54_28 (x : XT) (k28 : ST → Int32 → Int32 → Int32 → Option (Int32 × ST)) (S : ST) (v1 : Int32) (v2 : Int32) (v3 : Int32) : Option (Int32 × ST) :=
  if 120 ≤ v3 then (some ((-1), S)) else (match gfX6_cheapestUnsettled_54 x S with
    | none => none
    | some (r4, S5) => (if r4 = (-1) then (bfX6_leastToll_54_56 x S5 r4) else (match gfX6_isAt x S5 r4 v1 v2 with
    | none => none
    | some (r9, S10) => (if r9 = 0 then (bif inb r4 120 then (lfX6_leastToll_54_85 x k28 20000 (S10.1, (u2 S10.2.1 77 r4.toNatClampNeg 1), S10.2.2.1, S10.2.2.2) v1 v2 v3 r4 0) else none) else (bfX6_leastToll_54_56 x S10 r4)))))
def lfX6_leastToll_54_28 (x : XT)  : Nat → ST → Int32 → Int32 → Int32 → Option (Int32 × ST)
  | 0, _, _, _, _ => none
  | n + 1, S, v1, v2, v3 => bfX6_leastToll_54_28 x (lfX6_leastToll_54_28 x  n) S v1 v2 v3
def bfX6_leastToll_54_0 (x : XT)  (S : ST) (p1 : Int32) (p2 : Int32) : Option (Int32 × ST) :=
  match gfJ7_fill_53178_76 x S (-1) with
    | none => none
    | some (r3, S4) => (match gfJ7_fill_53178_77 x S4 0 with
    | none => none
    | some (r7, S8) => (match gfX6_start_54 x S8 with
    | none => none
    | some (r11, S12) => (bif inb r11 120 then (lfX6_leastToll_54_28 x  20000 (S12.1, (u2 S12.2.1 76 r11.toNatClampNeg 0), S12.2.2.1, S12.2.2.2) p1 p2 0) else none)))
def gfX6_leastToll_54 (x : XT) (S : ST) (p1 : Int32) (p2 : Int32) : Option (Int32 × ST) := bfX6_leastToll_54_0 x S p1 p2
def bfX10_cheap_0_0 (x : XT)  (S : ST) (p1 : Int32) (p2 : Int32) (p3 : Int32) : Option (Int32 × ST) :=
  match gfX10_canSeek_0 x S p1 p2 p3 with
    | none => none
    | some (r3, S4) => (if ¬ r3 = 0 then (match gfX6_begin_54_1 x S4 p1 with
    | none => none
    | some (r8, S9) => (match gfX6_leastToll_54 x S9 p2 p3 with
    | none => none
    | some (r12, S13) => (some (r12, S13)))) else (some ((-1), S4)))
def gfX10_cheap_0 (x : XT) (S : ST) (p1 : Int32) (p2 : Int32) (p3 : Int32) : Option (Int32 × ST) := bfX10_cheap_0_0 x S p1 p2 p3
def bfX6_findAll_54_0 (x : XT)  (S : ST)  : Option (Unit × ST) :=
  match gfX6_find_54 x S (-1) (-1) with
    | none => none
    | some (r3, S4) => (some ((), S4))
def gfX6_findAll_54 (x : XT) (S : ST)  : Option (Unit × ST) := bfX6_findAll_54_0 x S 
def bfX6_manyBits_54_35 (x : XT) (k8 : ST → Int32 → Int32 → Int32 → Option (Int32 × ST)) (S : ST) (v1 : Int32) (v2 : Int32) (v3 : Int32) : Option (Int32 × ST) :=
  k8 S v1 v2 (v3 + 1)
def bfX6_manyBits_54_8 (x : XT) (k8 : ST → Int32 → Int32 → Int32 → Option (Int32 × ST)) (S : ST) (v1 : Int32) (v2 : Int32) (v3 : Int32) : Option (Int32 × ST) :=
  if 20 ≤ v3 then (some (v2, S)) else (bif inb ((v1 * 20) + v3) 120 then (if (S.2.1 72 (((v1 * 20) + v3).toNatClampNeg)) = (-1) then (bfX6_manyBits_54_35 x k8 S v1 v2 v3) else (bfX6_manyBits_54_35 x k8 S v1 (v2 ||| (1 <<< (v3 &&& 31))) v3)) else none)
def lfX6_manyBits_54_8 (x : XT)  : Nat → ST → Int32 → Int32 → Int32 → Option (Int32 × ST)
  | 0, _, _, _, _ => none
  | n + 1, S, v1, v2, v3 => bfX6_manyBits_54_8 x (lfX6_manyBits_54_8 x  n) S v1 v2 v3
def bfX6_manyBits_54_0 (x : XT)  (S : ST) (p1 : Int32) : Option (Int32 × ST) :=
  match gfX6_findAll_54 x S with
    | none => none
    | some (r3, S4) => (lfX6_manyBits_54_8 x  20000 S4 p1 0 0)
def gfX6_manyBits_54 (x : XT) (S : ST) (p1 : Int32) : Option (Int32 × ST) := bfX6_manyBits_54_0 x S p1
def bfX10_manys_0_0 (x : XT)  (S : ST) (p1 : Int32) (p2 : Int32) : Option (Int32 × ST) :=
  match gfX10_canSeek_0 x S p1 p2 (-1) with
    | none => none
    | some (r3, S4) => (if ¬ r3 = 0 then (match gfX6_begin_54_1 x S4 p1 with
    | none => none
    | some (r8, S9) => (match gfX6_manyBits_54 x S9 p2 with
    | none => none
    | some (r12, S13) => (some (r12, S13)))) else (some ((-1), S4)))
def gfX10_manys_0 (x : XT) (S : ST) (p1 : Int32) (p2 : Int32) : Option (Int32 × ST) := bfX10_manys_0_0 x S p1 p2
def bfX6_parkBits_54_33 (x : XT) (k8 : ST → Int32 → Int32 → Option (Int32 × ST)) (S : ST) (v1 : Int32) (v2 : Int32) : Option (Int32 × ST) :=
  k8 S v1 (v2 + 1)
def bfX6_parkBits_54_8 (x : XT) (k8 : ST → Int32 → Int32 → Option (Int32 × ST)) (S : ST) (v1 : Int32) (v2 : Int32) : Option (Int32 × ST) :=
  if 120 ≤ v2 then (some (v1, S)) else (bif inb v2 120 then (if (S.2.1 72 v2.toNatClampNeg) = (-1) then (bfX6_parkBits_54_33 x k8 S v1 v2) else (bfX6_parkBits_54_33 x k8 S (v1 ||| (1 <<< ((v2 / 20) &&& 31))) v2)) else none)
def lfX6_parkBits_54_8 (x : XT)  : Nat → ST → Int32 → Int32 → Option (Int32 × ST)
  | 0, _, _, _ => none
  | n + 1, S, v1, v2 => bfX6_parkBits_54_8 x (lfX6_parkBits_54_8 x  n) S v1 v2
def bfX6_parkBits_54_0 (x : XT)  (S : ST)  : Option (Int32 × ST) :=
  match gfX6_findAll_54 x S with
    | none => none
    | some (r3, S4) => (lfX6_parkBits_54_8 x  20000 S4 0 0)
def gfX6_parkBits_54 (x : XT) (S : ST)  : Option (Int32 × ST) := bfX6_parkBits_54_0 x S 
def bfX10_reach_0_0 (x : XT)  (S : ST) (p1 : Int32) : Option (Int32 × ST) :=
  match gfX7_hasGoer_1 x S p1 with
    | none => none
    | some (r3, S4) => (if ¬ r3 = 0 then (match gfX6_begin_54_1 x S4 p1 with
    | none => none
    | some (r8, S9) => (match gfX6_parkBits_54 x S9 with
    | none => none
    | some (r12, S13) => (some (r12, S13)))) else (some ((-1), S4)))
def gfX10_reach_0 (x : XT) (S : ST) (p1 : Int32) : Option (Int32 × ST) := bfX10_reach_0_0 x S p1
def bfX6_flowFrom_54_136 (x : XT) (k97 : ST → Int32 → Int64 → Int32 → Option (Unit × ST)) (S : ST) (v1 : Int32) (v4 : Int64) (v6 : Int32) : Option (Unit × ST) :=
  k97 S v1 v4 (v6 + 1)
def bfX6_flowFrom_54_97 (x : XT) (k97 : ST → Int32 → Int64 → Int32 → Option (Unit × ST)) (S : ST) (v1 : Int32) (v4 : Int64) (v6 : Int32) : Option (Unit × ST) :=
  if (S.1 55 0) ≤ v6 then (some ((), S)) else (match gfX6_behind_54 x S v6 v1 with
    | none => none
    | some (r4, S5) => (if r4 = (-1) then (bfX6_flowFrom_54_136 x k97 S5 v1 v4 v6) else (bif inb r4 120 then (bif inb r4 120 then (bfX6_flowFrom_54_136 x k97 (S5.1, S5.2.1, (u2 S5.2.2.1 79 r4.toNatClampNeg ((S5.2.2.1 79 r4.toNatClampNeg) + v4)), S5.2.2.2) v1 v4 v6) else none) else none)))
def lfX6_flowFrom_54_97 (x : XT)  : Nat → ST → Int32 → Int64 → Int32 → Option (Unit × ST)
  | 0, _, _, _, _ => none
  | n + 1, S, v1, v4, v6 => bfX6_flowFrom_54_97 x (lfX6_flowFrom_54_97 x  n) S v1 v4 v6
def bfX6_flowFrom_54_92 (x : XT)  (S : ST) (v1 : Int32) (t0 : Int64) : Option (Unit × ST) :=
  lfX6_flowFrom_54_97 x  20000 S v1 t0 0
def bfX6_flowFrom_54_67 (x : XT)  (S : ST) (t1 : Int32) (t2 : Int64) (t3 : Int64) : Option (Unit × ST) :=
  bif inb t1 120 then (some ((), (S.1, S.2.1, (u2 S.2.2.1 79 t1.toNatClampNeg (t2 + t3)), S.2.2.2))) else none
def bfX6_flowFrom_54_34 (x : XT) (k5 : ST → Int32 → Int32 → Int32 → Int32 → Option (Unit × ST)) (S : ST) (v1 : Int32) (v2 : Int32) (v4 : Int32) (t0 : Int32) (t1 : Int32) : Option (Unit × ST) :=
  k5 S v1 v2 (t0 + t1) (v4 + 1)
def bfX6_flowFrom_54_5 (x : XT) (k5 : ST → Int32 → Int32 → Int32 → Int32 → Option (Unit × ST)) (S : ST) (v1 : Int32) (v2 : Int32) (v3 : Int32) (v4 : Int32) : Option (Unit × ST) :=
  if (S.1 55 0) ≤ v4 then (if ¬ v3 = 0 then (if v2 = 0 then (bif inb v1 120 then (bfX6_flowFrom_54_92 x S v1 (S.2.2.1 78 v1.toNatClampNeg)) else none) else (bif inb v1 120 then (bif nzl v3.toInt64 then (bfX6_flowFrom_54_92 x S v1 ((S.2.2.1 78 v1.toNatClampNeg) / v3.toInt64)) else none) else none)) else (bif inb v1 120 then (if v2 = 0 then (bfX6_flowFrom_54_67 x S v1 (S.2.2.1 79 v1.toNatClampNeg) 0) else (bif inb v1 120 then (bfX6_flowFrom_54_67 x S v1 (S.2.2.1 79 v1.toNatClampNeg) (S.2.2.1 78 v1.toNatClampNeg)) else none)) else none)) else (match gfX6_behind_54 x S v4 v1 with
    | none => none
    | some (r12, S13) => (if ¬ r12 = (-1) then (bfX6_flowFrom_54_34 x k5 S13 v1 v2 v4 v3 1) else (bfX6_flowFrom_54_34 x k5 S13 v1 v2 v4 v3 0)))
def lfX6_flowFrom_54_5 (x : XT)  : Nat → ST → Int32 → Int32 → Int32 → Int32 → Option (Unit × ST)
  | 0, _, _, _, _, _ => none
  | n + 1, S, v1, v2, v3, v4 => bfX6_flowFrom_54_5 x (lfX6_flowFrom_54_5 x  n) S v1 v2 v3 v4
def bfX6_flowFrom_54_0 (x : XT)  (S : ST) (p1 : Int32) (p2 : Int32) : Option (Unit × ST) :=
  lfX6_flowFrom_54_5 x  20000 S p1 p2 0 0
def gfX6_flowFrom_54 (x : XT) (S : ST) (p1 : Int32) (p2 : Int32) : Option (Unit × ST) := bfX6_flowFrom_54_0 x S p1 p2
def bfJ7_fill_d0a16_79_6 (x : XT) (k6 : ST → Int64 → Int32 → Int32 → Option (Unit × ST)) (S : ST) (v1 : Int64) (v3 : Int32) (v4 : Int32) : Option (Unit × ST) :=
  if v4 ≤ v3 then (some ((), S)) else (bif inb v3 120 then (k6 (S.1, S.2.1, (u2 S.2.2.1 79 v3.toNatClampNeg v1), S.2.2.2) v1 (v3 + 1) v4) else none)
def lfJ7_fill_d0a16_79_6 (x : XT)  : Nat → ST → Int64 → Int32 → Int32 → Option (Unit × ST)
  | 0, _, _, _, _ => none
  | n + 1, S, v1, v3, v4 => bfJ7_fill_d0a16_79_6 x (lfJ7_fill_d0a16_79_6 x  n) S v1 v3 v4
def bfJ7_fill_d0a16_79_0 (x : XT)  (S : ST) (p1 : Int64) : Option (Unit × ST) :=
  lfJ7_fill_d0a16_79_6 x  20000 S p1 0 120
def gfJ7_fill_d0a16_79 (x : XT) (S : ST) (p1 : Int64) : Option (Unit × ST) := bfJ7_fill_d0a16_79_0 x S p1
def bfJ7_fill_d0a16_78_6 (x : XT) (k6 : ST → Int64 → Int32 → Int32 → Option (Unit × ST)) (S : ST) (v1 : Int64) (v3 : Int32) (v4 : Int32) : Option (Unit × ST) :=
  if v4 ≤ v3 then (some ((), S)) else (bif inb v3 120 then (k6 (S.1, S.2.1, (u2 S.2.2.1 78 v3.toNatClampNeg v1), S.2.2.2) v1 (v3 + 1) v4) else none)
def lfJ7_fill_d0a16_78_6 (x : XT)  : Nat → ST → Int64 → Int32 → Int32 → Option (Unit × ST)
  | 0, _, _, _, _ => none
  | n + 1, S, v1, v3, v4 => bfJ7_fill_d0a16_78_6 x (lfJ7_fill_d0a16_78_6 x  n) S v1 v3 v4
def bfJ7_fill_d0a16_78_0 (x : XT)  (S : ST) (p1 : Int64) : Option (Unit × ST) :=
  lfJ7_fill_d0a16_78_6 x  20000 S p1 0 120
def gfJ7_fill_d0a16_78 (x : XT) (S : ST) (p1 : Int64) : Option (Unit × ST) := bfJ7_fill_d0a16_78_0 x S p1
def bfX6_flow_54_65 (x : XT) (k21 : ST → Int32 → Int32 → Int32 → Option (Unit × ST)) (k38 : ST → Int32 → Int32 → Int32 → Int32 → Option (Unit × ST)) (S : ST) (v3 : Int32) (v4 : Int32) (v5 : Int32) (v6 : Int32) : Option (Unit × ST) :=
  k38 S v3 v4 v5 (v6 + 1)
def bfX6_flow_54_38 (x : XT) (k21 : ST → Int32 → Int32 → Int32 → Option (Unit × ST)) (k38 : ST → Int32 → Int32 → Int32 → Int32 → Option (Unit × ST)) (S : ST) (v3 : Int32) (v4 : Int32) (v5 : Int32) (v6 : Int32) : Option (Unit × ST) :=
  if 120 ≤ v6 then (k21 (S.1, S.2.1, (u1 S.2.2.1 78 (va_cpy (S.2.2.1 79) (S.2.2.1 78) 0 0 120)), S.2.2.2) v3 v4 (v5 + 1)) else (bif inb v6 120 then (if (lg_cmp (S.2.2.1 78 v6.toNatClampNeg) 0) ≤ 0 then (bfX6_flow_54_65 x k21 k38 S v3 v4 v5 v6) else (match gfX6_flowFrom_54 x S v6 v4 with
    | none => none
    | some (r6, S7) => (bfX6_flow_54_65 x k21 k38 S7 v3 v4 v5 v6))) else none)
def lfX6_flow_54_38 (x : XT) (k21 : ST → Int32 → Int32 → Int32 → Option (Unit × ST)) : Nat → ST → Int32 → Int32 → Int32 → Int32 → Option (Unit × ST)
  | 0, _, _, _, _, _ => none
  | n + 1, S, v3, v4, v5, v6 => bfX6_flow_54_38 x k21 (lfX6_flow_54_38 x k21 n) S v3 v4 v5 v6
def bfX6_flow_54_21 (x : XT) (k21 : ST → Int32 → Int32 → Int32 → Option (Unit × ST)) (S : ST) (v3 : Int32) (v4 : Int32) (v5 : Int32) : Option (Unit × ST) :=
  if v3 ≤ v5 then (some ((), S)) else (match gfJ7_fill_d0a16_79 x S 0 with
    | none => none
    | some (r4, S5) => (lfX6_flow_54_38 x k21 20000 S5 v3 v4 v5 0))
def lfX6_flow_54_21 (x : XT)  : Nat → ST → Int32 → Int32 → Int32 → Option (Unit × ST)
  | 0, _, _, _, _ => none
  | n + 1, S, v3, v4, v5 => bfX6_flow_54_21 x (lfX6_flow_54_21 x  n) S v3 v4 v5
def bfX6_flow_54_0 (x : XT)  (S : ST) (p1 : Int64) (p3 : Int32) (p4 : Int32) : Option (Unit × ST) :=
  match gfJ7_fill_d0a16_78 x S 0 with
    | none => none
    | some (r3, S4) => (match gfX6_start_54 x S4 with
    | none => none
    | some (r7, S8) => (bif inb r7 120 then (lfX6_flow_54_21 x  20000 (S8.1, S8.2.1, (u2 S8.2.2.1 78 r7.toNatClampNeg p1), S8.2.2.2) p3 p4 0) else none))
def gfX6_flow_54 (x : XT) (S : ST) (p1 : Int64) (p3 : Int32) (p4 : Int32) : Option (Unit × ST) := bfX6_flow_54_0 x S p1 p3 p4
def bfX6_flowed_54_34 (x : XT) (k5 : ST → Int32 → Int32 → Int64 → Int32 → Option (Int64 × ST)) (S : ST) (v1 : Int32) (v2 : Int32) (v5 : Int32) (t0 : Int64) (t1 : Int64) : Option (Int64 × ST) :=
  k5 S v1 v2 (t0 + t1) (v5 + 1)
def bfX6_flowed_54_5 (x : XT) (k5 : ST → Int32 → Int32 → Int64 → Int32 → Option (Int64 × ST)) (S : ST) (v1 : Int32) (v2 : Int32) (v3 : Int64) (v5 : Int32) : Option (Int64 × ST) :=
  if 120 ≤ v5 then (some (v3, S)) else (match gfX6_isAt x S v5 v1 v2 with
    | none => none
    | some (r4, S5) => (if r4 = 0 then (bfX6_flowed_54_34 x k5 S5 v1 v2 v5 v3 0) else (bif inb v5 120 then (bfX6_flowed_54_34 x k5 S5 v1 v2 v5 v3 (S5.2.2.1 78 v5.toNatClampNeg)) else none)))
def lfX6_flowed_54_5 (x : XT)  : Nat → ST → Int32 → Int32 → Int64 → Int32 → Option (Int64 × ST)
  | 0, _, _, _, _, _ => none
  | n + 1, S, v1, v2, v3, v5 => bfX6_flowed_54_5 x (lfX6_flowed_54_5 x  n) S v1 v2 v3 v5
def bfX6_flowed_54_0 (x : XT)  (S : ST) (p1 : Int32) (p2 : Int32) : Option (Int64 × ST) :=
  lfX6_flowed_54_5 x  20000 S p1 p2 0 0
def gfX6_flowed_54 (x : XT) (S : ST) (p1 : Int32) (p2 : Int32) : Option (Int64 × ST) := bfX6_flowed_54_0 x S p1 p2
def bfX10_ways_0_22 (x : XT)  (S : ST)  : Option (Int64 × ST) :=
  some ((-1), S)
def bfX10_ways_0_0 (x : XT)  (S : ST) (p1 : Int32) (p2 : Int32) (p3 : Int32) (p4 : Int32) : Option (Int64 × ST) :=
  match gfX10_canSeek_0 x S p1 p2 p3 with
    | none => none
    | some (r3, S4) => (if r3 = 0 then (bfX10_ways_0_22 x S4) else (if p4 < 0 then (bfX10_ways_0_22 x S4) else (if p4 ≤ 12 then (match gfX6_begin_54_1 x S4 p1 with
    | none => none
    | some (r10, S11) => (match gfX6_flow_54 x S11 1 p4 0 with
    | none => none
    | some (r14, S15) => (match gfX6_flowed_54 x S15 p2 p3 with
    | none => none
    | some (r18, S19) => (some (r18, S19))))) else (bfX10_ways_0_22 x S4))))
def gfX10_ways_0 (x : XT) (S : ST) (p1 : Int32) (p2 : Int32) (p3 : Int32) (p4 : Int32) : Option (Int64 × ST) := bfX10_ways_0_0 x S p1 p2 p3 p4
def bfX10_likely_0_22 (x : XT)  (S : ST)  : Option (Int64 × ST) :=
  some ((-1), S)
def bfX10_likely_0_0 (x : XT)  (S : ST) (p1 : Int32) (p2 : Int32) (p3 : Int32) (p4 : Int32) : Option (Int64 × ST) :=
  match gfX10_canSeek_0 x S p1 p2 p3 with
    | none => none
    | some (r3, S4) => (if r3 = 0 then (bfX10_likely_0_22 x S4) else (if p4 < 0 then (bfX10_likely_0_22 x S4) else (if p4 ≤ 30 then (match gfX6_begin_54_1 x S4 p1 with
    | none => none
    | some (r10, S11) => (match gfX6_flow_54 x S11 1000000000000 p4 1 with
    | none => none
    | some (r14, S15) => (match gfX6_flowed_54 x S15 p2 p3 with
    | none => none
    | some (r18, S19) => (some (r18, S19))))) else (bfX10_likely_0_22 x S4))))
def gfX10_likely_0 (x : XT) (S : ST) (p1 : Int32) (p2 : Int32) (p3 : Int32) (p4 : Int32) : Option (Int64 × ST) := bfX10_likely_0_0 x S p1 p2 p3 p4
def bfJ7_fill_53178_23_5 (x : XT) (k5 : ST → Int32 → Int32 → Int32 → Option (Unit × ST)) (S : ST) (v1 : Int32) (v2 : Int32) (v3 : Int32) : Option (Unit × ST) :=
  if v3 ≤ v2 then (some ((), S)) else (bif inb v2 20 then (k5 (S.1, (u2 S.2.1 23 v2.toNatClampNeg v1), S.2.2.1, S.2.2.2) v1 (v2 + 1) v3) else none)
def lfJ7_fill_53178_23_5 (x : XT)  : Nat → ST → Int32 → Int32 → Int32 → Option (Unit × ST)
  | 0, _, _, _, _ => none
  | n + 1, S, v1, v2, v3 => bfJ7_fill_53178_23_5 x (lfJ7_fill_53178_23_5 x  n) S v1 v2 v3
def bfJ7_fill_53178_23_0 (x : XT)  (S : ST) (p1 : Int32) : Option (Unit × ST) :=
  lfJ7_fill_53178_23_5 x  20000 S p1 0 20
def gfJ7_fill_53178_23 (x : XT) (S : ST) (p1 : Int32) : Option (Unit × ST) := bfJ7_fill_53178_23_0 x S p1
def bfX0_roundAndRound_20_1_62 (x : XT)  (S : ST) (t0 : Int32) : Option (Int32 × ST) :=
  some (t0, S)
def bfX0_roundAndRound_20_1_19 (x : XT) (k19 : ST → Int32 → Int32 → Int32 → Int32 → Int32 → Option (Int32 × ST)) (S : ST) (v2 : Int32) (v3 : Int32) (v4 : Int32) (v5 : Int32) (v6 : Int32) : Option (Int32 × ST) :=
  if 20 < v6 then (some ((-1), S)) else (bif inb v5 20 then (if (S.2.1 23 v5.toNatClampNeg) = (-1) then (bif inb v5 20 then (match gfX0_regard_20_1 x (S.1, (u2 S.2.1 23 v5.toNatClampNeg v6), S.2.2.1, S.2.2.2) v2 v3 v5 with
    | none => none
    | some (r7, S8) => (match gfX0_told_20_1 x S8 260 with
    | none => none
    | some (r11, S12) => (k19 S12 v2 v3 v4 r11 (v6 + 1)))) else none) else (if v4 = 0 then (bif inb v5 20 then (bfX0_roundAndRound_20_1_62 x S (v6 - (S.2.1 23 v5.toNatClampNeg))) else none) else (bif inb v5 20 then (bfX0_roundAndRound_20_1_62 x S (S.2.1 23 v5.toNatClampNeg)) else none))) else none)
def lfX0_roundAndRound_20_1_19 (x : XT)  : Nat → ST → Int32 → Int32 → Int32 → Int32 → Int32 → Option (Int32 × ST)
  | 0, _, _, _, _, _, _ => none
  | n + 1, S, v2, v3, v4, v5, v6 => bfX0_roundAndRound_20_1_19 x (lfX0_roundAndRound_20_1_19 x  n) S v2 v3 v4 v5 v6
def bfX0_roundAndRound_20_1_0 (x : XT)  (S : ST) (p2 : Int32) (p3 : Int32) (p4 : Int32) : Option (Int32 × ST) :=
  match gfJ7_fill_53178_23 x S (-1) with
    | none => none
    | some (r3, S4) => (bif inb p2 5 then (lfX0_roundAndRound_20_1_19 x  20000 S4 p2 p3 p4 (S4.2.1 8 p2.toNatClampNeg) 0) else none)
def gfX0_roundAndRound_20_1 (x : XT) (S : ST) (p2 : Int32) (p3 : Int32) (p4 : Int32) : Option (Int32 × ST) := bfX0_roundAndRound_20_1_0 x S p2 p3 p4
def bfX10_again_0_30 (x : XT)  (S : ST)  : Option (Int32 × ST) :=
  some ((-1), S)
def bfX10_again_0_51 (x : XT)  (S : ST) (t2 : Int32) (t3 : Int32) (t4 : Int32) : Option (Int32 × ST) :=
  match gfX0_roundAndRound_20_1 x S t2 t3 t4 with
    | none => none
    | some (r3, S4) => (some (r3, S4))
def bfX10_again_0_0 (x : XT)  (S : ST) (p1 : Int32) (p2 : Int32) (p3 : Int32) : Option (Int32 × ST) :=
  match gfX7_hasGoer_1 x S p1 with
    | none => none
    | some (r3, S4) => (if r3 = 0 then (bfX10_again_0_30 x S4) else (match gfX7_hasGate_1 x S4 p2 with
    | none => none
    | some (r8, S9) => (if r8 = 0 then (bfX10_again_0_30 x S9) else (match gfX10_within x S9 p3 2 with
    | none => none
    | some (r13, S14) => (if ¬ r13 = 0 then (if ¬ p3 = 0 then (bfX10_again_0_51 x S14 p1 p2 0) else (bfX10_again_0_51 x S14 p1 p2 1)) else (bfX10_again_0_30 x S14))))))
def gfX10_again_0 (x : XT) (S : ST) (p1 : Int32) (p2 : Int32) (p3 : Int32) : Option (Int32 × ST) := bfX10_again_0_0 x S p1 p2 p3
def bfX6_tryArm_54_12 (x : XT) (k12 : ST → Int32 → Int32 → Option (Unit × ST)) (S : ST) (v1 : Int32) (v3 : Int32) : Option (Unit × ST) :=
  if 20 ≤ v3 then (some ((), S)) else (bif inb ((v1 * 20) + v3) 200 then (k12 (S.1, (u2 S.2.1 70 (((v1 * 20) + v3).toNatClampNeg) (-2)), S.2.2.1, S.2.2.2) v1 (v3 + 1)) else none)
def lfX6_tryArm_54_12 (x : XT)  : Nat → ST → Int32 → Int32 → Option (Unit × ST)
  | 0, _, _, _ => none
  | n + 1, S, v1, v3 => bfX6_tryArm_54_12 x (lfX6_tryArm_54_12 x  n) S v1 v3
def bfX6_tryArm_54_0 (x : XT)  (S : ST) (p1 : Int32) (p2 : Int32) : Option (Unit × ST) :=
  bif inb p1 10 then (lfX6_tryArm_54_12 x  20000 (S.1, (u2 S.2.1 59 p1.toNatClampNeg p2), S.2.2.1, S.2.2.2) p1 0) else none
def gfX6_tryArm_54 (x : XT) (S : ST) (p1 : Int32) (p2 : Int32) : Option (Unit × ST) := bfX6_tryArm_54_0 x S p1 p2
def bfX6_firstFix_54_79 (x : XT) (k15 : ST → Int32 → Int32 → Int32 → Option (Int32 × ST)) (k40 : ST → Int32 → Int32 → Int32 → Int32 → Int32 → Option (Int32 × ST)) (S : ST) (v1 : Int32) (v2 : Int32) (v3 : Int32) (v4 : Int32) (v5 : Int32) : Option (Int32 × ST) :=
  k40 S v1 v2 v3 v4 (v5 + 1)
def bfX6_firstFix_54_40 (x : XT) (k15 : ST → Int32 → Int32 → Int32 → Option (Int32 × ST)) (k40 : ST → Int32 → Int32 → Int32 → Int32 → Int32 → Option (Int32 × ST)) (S : ST) (v1 : Int32) (v2 : Int32) (v3 : Int32) (v4 : Int32) (v5 : Int32) : Option (Int32 × ST) :=
  if 10 ≤ v5 then (match gfX6_tryArm_54 x S v3 v4 with
    | none => none
    | some (r4, S5) => (k15 S5 v1 v2 (v3 + 1))) else (match gfX6_tryArm_54 x S v3 v5 with
    | none => none
    | some (r8, S9) => (if v5 = v4 then (bfX6_firstFix_54_79 x k15 k40 S9 v1 v2 v3 v4 v5) else (match gfX6_find_54 x S9 v1 v2 with
    | none => none
    | some (r13, S14) => (if r13 = (-1) then (bfX6_firstFix_54_79 x k15 k40 S14 v1 v2 v3 v4 v5) else (some ((10 * v3) + v5, S14))))))
def lfX6_firstFix_54_40 (x : XT) (k15 : ST → Int32 → Int32 → Int32 → Option (Int32 × ST)) : Nat → ST → Int32 → Int32 → Int32 → Int32 → Int32 → Option (Int32 × ST)
  | 0, _, _, _, _, _, _ => none
  | n + 1, S, v1, v2, v3, v4, v5 => bfX6_firstFix_54_40 x k15 (lfX6_firstFix_54_40 x k15 n) S v1 v2 v3 v4 v5
def bfX6_firstFix_54_15 (x : XT) (k15 : ST → Int32 → Int32 → Int32 → Option (Int32 × ST)) (S : ST) (v1 : Int32) (v2 : Int32) (v3 : Int32) : Option (Int32 × ST) :=
  if (S.1 55 0) ≤ v3 then (some ((-1), S)) else (bif inb v3 10 then (lfX6_firstFix_54_40 x k15 20000 S v1 v2 v3 (S.2.1 59 v3.toNatClampNeg) 0) else none)
def lfX6_firstFix_54_15 (x : XT)  : Nat → ST → Int32 → Int32 → Int32 → Option (Int32 × ST)
  | 0, _, _, _, _ => none
  | n + 1, S, v1, v2, v3 => bfX6_firstFix_54_15 x (lfX6_firstFix_54_15 x  n) S v1 v2 v3
def bfX6_firstFix_54_0 (x : XT)  (S : ST) (p1 : Int32) (p2 : Int32) : Option (Int32 × ST) :=
  match gfX6_find_54 x S p1 p2 with
    | none => none
    | some (r3, S4) => (if r3 = (-1) then (lfX6_firstFix_54_15 x  20000 S4 p1 p2 0) else (some (100, S4)))
def gfX6_firstFix_54 (x : XT) (S : ST) (p1 : Int32) (p2 : Int32) : Option (Int32 × ST) := bfX6_firstFix_54_0 x S p1 p2
def bfX10_fixed_0_0 (x : XT)  (S : ST) (p1 : Int32) (p2 : Int32) (p3 : Int32) : Option (Int32 × ST) :=
  match gfX10_canSeek_0 x S p1 p2 p3 with
    | none => none
    | some (r3, S4) => (if ¬ r3 = 0 then (match gfX6_begin_54_1 x S4 p1 with
    | none => none
    | some (r8, S9) => (match gfX6_firstFix_54 x S9 p2 p3 with
    | none => none
    | some (r12, S13) => (some (r12, S13)))) else (some ((-1), S4)))
def gfX10_fixed_0 (x : XT) (S : ST) (p1 : Int32) (p2 : Int32) (p3 : Int32) : Option (Int32 × ST) := bfX10_fixed_0_0 x S p1 p2 p3
def bfJ6_bitCount_0f7a4_0 (x : XT)  (S : ST) (p0 : Int32) : Option (Int32 × ST) :=
  some ((((((((p0 - (((p0.toUInt32 >>> ((1 : Int32).toUInt32 &&& Int32.toUInt32 31)).toInt32) &&& 1431655765)) &&& 858993459) + ((((p0 - (((p0.toUInt32 >>> ((1 : Int32).toUInt32 &&& Int32.toUInt32 31)).toInt32) &&& 1431655765)).toUInt32 >>> ((2 : Int32).toUInt32 &&& Int32.toUInt32 31)).toInt32) &&& 858993459)) + (((((p0 - (((p0.toUInt32 >>> ((1 : Int32).toUInt32 &&& Int32.toUInt32 31)).toInt32) &&& 1431655765)) &&& 858993459) + ((((p0 - (((p0.toUInt32 >>> ((1 : Int32).toUInt32 &&& Int32.toUInt32 31)).toInt32) &&& 1431655765)).toUInt32 >>> ((2 : Int32).toUInt32 &&& Int32.toUInt32 31)).toInt32) &&& 858993459)).toUInt32 >>> ((4 : Int32).toUInt32 &&& Int32.toUInt32 31)).toInt32)) &&& 252645135) + (((((((p0 - (((p0.toUInt32 >>> ((1 : Int32).toUInt32 &&& Int32.toUInt32 31)).toInt32) &&& 1431655765)) &&& 858993459) + ((((p0 - (((p0.toUInt32 >>> ((1 : Int32).toUInt32 &&& Int32.toUInt32 31)).toInt32) &&& 1431655765)).toUInt32 >>> ((2 : Int32).toUInt32 &&& Int32.toUInt32 31)).toInt32) &&& 858993459)) + (((((p0 - (((p0.toUInt32 >>> ((1 : Int32).toUInt32 &&& Int32.toUInt32 31)).toInt32) &&& 1431655765)) &&& 858993459) + ((((p0 - (((p0.toUInt32 >>> ((1 : Int32).toUInt32 &&& Int32.toUInt32 31)).toInt32) &&& 1431655765)).toUInt32 >>> ((2 : Int32).toUInt32 &&& Int32.toUInt32 31)).toInt32) &&& 858993459)).toUInt32 >>> ((4 : Int32).toUInt32 &&& Int32.toUInt32 31)).toInt32)) &&& 252645135).toUInt32 >>> ((8 : Int32).toUInt32 &&& Int32.toUInt32 31)).toInt32)) + ((((((((p0 - (((p0.toUInt32 >>> ((1 : Int32).toUInt32 &&& Int32.toUInt32 31)).toInt32) &&& 1431655765)) &&& 858993459) + ((((p0 - (((p0.toUInt32 >>> ((1 : Int32).toUInt32 &&& Int32.toUInt32 31)).toInt32) &&& 1431655765)).toUInt32 >>> ((2 : Int32).toUInt32 &&& Int32.toUInt32 31)).toInt32) &&& 858993459)) + (((((p0 - (((p0.toUInt32 >>> ((1 : Int32).toUInt32 &&& Int32.toUInt32 31)).toInt32) &&& 1431655765)) &&& 858993459) + ((((p0 - (((p0.toUInt32 >>> ((1 : Int32).toUInt32 &&& Int32.toUInt32 31)).toInt32) &&& 1431655765)).toUInt32 >>> ((2 : Int32).toUInt32 &&& Int32.toUInt32 31)).toInt32) &&& 858993459)).toUInt32 >>> ((4 : Int32).toUInt32 &&& Int32.toUInt32 31)).toInt32)) &&& 252645135) + (((((((p0 - (((p0.toUInt32 >>> ((1 : Int32).toUInt32 &&& Int32.toUInt32 31)).toInt32) &&& 1431655765)) &&& 858993459) + ((((p0 - (((p0.toUInt32 >>> ((1 : Int32).toUInt32 &&& Int32.toUInt32 31)).toInt32) &&& 1431655765)).toUInt32 >>> ((2 : Int32).toUInt32 &&& Int32.toUInt32 31)).toInt32) &&& 858993459)) + (((((p0 - (((p0.toUInt32 >>> ((1 : Int32).toUInt32 &&& Int32.toUInt32 31)).toInt32) &&& 1431655765)) &&& 858993459) + ((((p0 - (((p0.toUInt32 >>> ((1 : Int32).toUInt32 &&& Int32.toUInt32 31)).toInt32) &&& 1431655765)).toUInt32 >>> ((2 : Int32).toUInt32 &&& Int32.toUInt32 31)).toInt32) &&& 858993459)).toUInt32 >>> ((4 : Int32).toUInt32 &&& Int32.toUInt32 31)).toInt32)) &&& 252645135).toUInt32 >>> ((8 : Int32).toUInt32 &&& Int32.toUInt32 31)).toInt32)).toUInt32 >>> ((16 : Int32).toUInt32 &&& Int32.toUInt32 31)).toInt32)) &&& 63, S)
def gfJ6_bitCount_0f7a4 (x : XT) (S : ST) (p0 : Int32) : Option (Int32 × ST) := bfJ6_bitCount_0f7a4_0 x S p0
def bfX6_shuts_54_57 (x : XT)  (S : ST) (t0 : Int32) : Option (Int32 × ST) :=
  bif bbz t0 then (some (t0, S)) else none
def bfX6_shuts_54_35 (x : XT) (k2 : ST → Int32 → Int32 → Int32 → Option (Int32 × ST)) (S : ST) (v1 : Int32) (v2 : Int32) (v3 : Int32) (t1 : Int32) (t2 : Int32) : Option (Int32 × ST) :=
  bif inb t1 10 then (k2 (S.1, (u2 S.2.1 60 t1.toNatClampNeg (vp_nar .boolean t2)), S.2.2.1, S.2.2.2) v1 v2 (v3 + 1)) else none
def bfX6_shuts_54_2 (x : XT) (k2 : ST → Int32 → Int32 → Int32 → Option (Int32 × ST)) (S : ST) (v1 : Int32) (v2 : Int32) (v3 : Int32) : Option (Int32 × ST) :=
  if (S.1 55 0) ≤ v3 then (match gfX6_find_54 x S v2 (-1) with
    | none => none
    | some (r4, S5) => (if ¬ r4 = (-1) then (bfX6_shuts_54_57 x S5 0) else (bfX6_shuts_54_57 x S5 1))) else (if ¬ ((v1 >>> (v3 &&& 31)) &&& 1) = 1 then (bfX6_shuts_54_35 x k2 S v1 v2 v3 v3 0) else (bfX6_shuts_54_35 x k2 S v1 v2 v3 v3 1))
def lfX6_shuts_54_2 (x : XT)  : Nat → ST → Int32 → Int32 → Int32 → Option (Int32 × ST)
  | 0, _, _, _, _ => none
  | n + 1, S, v1, v2, v3 => bfX6_shuts_54_2 x (lfX6_shuts_54_2 x  n) S v1 v2 v3
def bfX6_shuts_54_0 (x : XT)  (S : ST) (p1 : Int32) (p2 : Int32) : Option (Int32 × ST) :=
  lfX6_shuts_54_2 x  20000 S p1 p2 0
def gfX6_shuts_54 (x : XT) (S : ST) (p1 : Int32) (p2 : Int32) : Option (Int32 × ST) := bfX6_shuts_54_0 x S p1 p2
def bfX6_fewestShut_54_95 (x : XT) (k45 : ST → Int32 → Int32 → Int32 → Option (Int32 × ST)) (k54 : ST → Int32 → Int32 → Int32 → Int32 → Option (Int32 × ST)) (S : ST) (v1 : Int32) (v2 : Int32) (v3 : Int32) (v4 : Int32) : Option (Int32 × ST) :=
  k54 S v1 v2 v3 (v4 + 1)
def bfX6_fewestShut_54_54 (x : XT) (k45 : ST → Int32 → Int32 → Int32 → Option (Int32 × ST)) (k54 : ST → Int32 → Int32 → Int32 → Int32 → Option (Int32 × ST)) (S : ST) (v1 : Int32) (v2 : Int32) (v3 : Int32) (v4 : Int32) : Option (Int32 × ST) :=
  if v2 < v4 then (k45 S v1 v2 (v3 + 1)) else (if ¬ (v4 &&& v2) = v4 then (bfX6_fewestShut_54_95 x k45 k54 S v1 v2 v3 v4) else (match gfJ6_bitCount_0f7a4 x S v4 with
    | none => none
    | some (r5, S6) => (if ¬ r5 = v3 then (bfX6_fewestShut_54_95 x k45 k54 S6 v1 v2 v3 v4) else (match gfX6_shuts_54 x S6 (v2 &&& (v4 ^^^ (-1))) v1 with
    | none => none
    | some (r10, S11) => (if r10 = 0 then (bfX6_fewestShut_54_95 x k45 k54 S11 v1 v2 v3 v4) else (some (v4, S11)))))))
def lfX6_fewestShut_54_54 (x : XT) (k45 : ST → Int32 → Int32 → Int32 → Option (Int32 × ST)) : Nat → ST → Int32 → Int32 → Int32 → Int32 → Option (Int32 × ST)
  | 0, _, _, _, _, _ => none
  | n + 1, S, v1, v2, v3, v4 => bfX6_fewestShut_54_54 x k45 (lfX6_fewestShut_54_54 x k45 n) S v1 v2 v3 v4
def bfX6_fewestShut_54_45 (x : XT) (k45 : ST → Int32 → Int32 → Int32 → Option (Int32 × ST)) (S : ST) (v1 : Int32) (v2 : Int32) (v3 : Int32) : Option (Int32 × ST) :=
  if 10 ≤ v3 then (some (v2, S)) else (lfX6_fewestShut_54_54 x k45 20000 S v1 v2 v3 0)
def lfX6_fewestShut_54_45 (x : XT)  : Nat → ST → Int32 → Int32 → Int32 → Option (Int32 × ST)
  | 0, _, _, _, _ => none
  | n + 1, S, v1, v2, v3 => bfX6_fewestShut_54_45 x (lfX6_fewestShut_54_45 x  n) S v1 v2 v3
def bfX6_fewestShut_54_35 (x : XT) (k4 : ST → Int32 → Int32 → Int32 → Option (Int32 × ST)) (S : ST) (v1 : Int32) (v3 : Int32) (t0 : Int32) (t1 : Int32) : Option (Int32 × ST) :=
  k4 S v1 (t0 ||| t1) (v3 + 1)
def bfX6_fewestShut_54_4 (x : XT) (k4 : ST → Int32 → Int32 → Int32 → Option (Int32 × ST)) (S : ST) (v1 : Int32) (v2 : Int32) (v3 : Int32) : Option (Int32 × ST) :=
  if (S.1 55 0) ≤ v3 then (lfX6_fewestShut_54_45 x  20000 S v1 v2 0) else (bif inb v3 10 then (if (S.2.1 60 v3.toNatClampNeg) = 0 then (bfX6_fewestShut_54_35 x k4 S v1 v3 v2 0) else (bfX6_fewestShut_54_35 x k4 S v1 v3 v2 (1 <<< (v3 &&& 31)))) else none)
def lfX6_fewestShut_54_4 (x : XT)  : Nat → ST → Int32 → Int32 → Int32 → Option (Int32 × ST)
  | 0, _, _, _, _ => none
  | n + 1, S, v1, v2, v3 => bfX6_fewestShut_54_4 x (lfX6_fewestShut_54_4 x  n) S v1 v2 v3
def bfX6_fewestShut_54_0 (x : XT)  (S : ST) (p1 : Int32) : Option (Int32 × ST) :=
  lfX6_fewestShut_54_4 x  20000 S p1 0 0
def gfX6_fewestShut_54 (x : XT) (S : ST) (p1 : Int32) : Option (Int32 × ST) := bfX6_fewestShut_54_0 x S p1
def bfX10_cut_0_31 (x : XT)  (S : ST)  : Option (Int32 × ST) :=
  some ((-1), S)
def bfX10_cut_0_69 (x : XT)  (S : ST) (t0 : Int32) : Option (Int32 × ST) :=
  some (t0, S)
def bfX10_cut_0_0 (x : XT)  (S : ST) (p1 : Int32) (p2 : Int32) (p3 : Int32) : Option (Int32 × ST) :=
  match gfX10_canSeek_0 x S p1 p2 (-1) with
    | none => none
    | some (r3, S4) => (if r3 = 0 then (bfX10_cut_0_31 x S4) else (match gfX10_within x S4 p3 2 with
    | none => none
    | some (r8, S9) => (if r8 = 0 then (bfX10_cut_0_31 x S9) else (bif inb p1 5 then (if ¬ (S9.2.1 7 p1.toNatClampNeg) = p2 then (match gfX6_begin_54_1 x S9 p1 with
    | none => none
    | some (r15, S16) => (match gfX6_fewestShut_54 x S16 p2 with
    | none => none
    | some (r19, S20) => (if ¬ p3 = 0 then (bfX10_cut_0_69 x S20 r19) else (match gfJ6_bitCount_0f7a4 x S20 r19 with
    | none => none
    | some (r24, S25) => (bfX10_cut_0_69 x S25 r24))))) else (bfX10_cut_0_31 x S9)) else none))))
def gfX10_cut_0 (x : XT) (S : ST) (p1 : Int32) (p2 : Int32) (p3 : Int32) : Option (Int32 × ST) := bfX10_cut_0_0 x S p1 p2 p3
def bfX6_keepSteps_54_0 (x : XT)  (S : ST)  : Option (Unit × ST) :=
  match gfX6_findAll_54 x S with
    | none => none
    | some (r3, S4) => (some ((), (S4.1, (u1 S4.2.1 75 (va_cpy (S4.2.1 72) (S4.2.1 75) 0 0 120)), S4.2.2.1, S4.2.2.2)))
def gfX6_keepSteps_54 (x : XT) (S : ST)  : Option (Unit × ST) := bfX6_keepSteps_54_0 x S 
def bfX6_longerSteps_54_28 (x : XT)  (S : ST) (t0 : Int32) : Option (Int32 × ST) :=
  some (t0, S)
def bfX6_longerSteps_54_0 (x : XT)  (S : ST) (p1 : Int32) : Option (Int32 × ST) :=
  match gfX10_within x S p1 120 with
    | none => none
    | some (r3, S4) => (if r3 = 0 then (bfX6_longerSteps_54_28 x S4 (-1)) else (bif inb p1 120 then (bif inb p1 120 then (bfX6_longerSteps_54_28 x S4 (if (S4.2.1 72 p1.toNatClampNeg) < (S4.2.1 75 p1.toNatClampNeg) then (S4.2.1 75 p1.toNatClampNeg) else (S4.2.1 72 p1.toNatClampNeg))) else none) else none))
def gfX6_longerSteps_54 (x : XT) (S : ST) (p1 : Int32) : Option (Int32 × ST) := bfX6_longerSteps_54_0 x S p1
def bfX6_meetingPlace_54_54 (x : XT) (k8 : ST → Int32 → Int32 → Option (Int32 × ST)) (S : ST) (v1 : Int32) (v2 : Int32) : Option (Int32 × ST) :=
  k8 S v1 (v2 + 1)
def bfX6_meetingPlace_54_52 (x : XT) (k8 : ST → Int32 → Int32 → Option (Int32 × ST)) (S : ST) (v2 : Int32) : Option (Int32 × ST) :=
  bfX6_meetingPlace_54_54 x k8 S v2 v2
def bfX6_meetingPlace_54_8 (x : XT) (k8 : ST → Int32 → Int32 → Option (Int32 × ST)) (S : ST) (v1 : Int32) (v2 : Int32) : Option (Int32 × ST) :=
  if 120 ≤ v2 then (some (v1, S)) else (bif inb v2 120 then (if (S.2.1 72 v2.toNatClampNeg) = (-1) then (bfX6_meetingPlace_54_54 x k8 S v1 v2) else (bif inb v2 120 then (if (S.2.1 75 v2.toNatClampNeg) = (-1) then (bfX6_meetingPlace_54_54 x k8 S v1 v2) else (if v1 = (-1) then (bfX6_meetingPlace_54_52 x k8 S v2) else (match gfX6_longerSteps_54 x S v2 with
    | none => none
    | some (r9, S10) => (match gfX6_longerSteps_54 x S10 v1 with
    | none => none
    | some (r13, S14) => (if r13 ≤ r9 then (bfX6_meetingPlace_54_54 x k8 S14 v1 v2) else (bfX6_meetingPlace_54_52 x k8 S14 v2)))))) else none)) else none)
def lfX6_meetingPlace_54_8 (x : XT)  : Nat → ST → Int32 → Int32 → Option (Int32 × ST)
  | 0, _, _, _ => none
  | n + 1, S, v1, v2 => bfX6_meetingPlace_54_8 x (lfX6_meetingPlace_54_8 x  n) S v1 v2
def bfX6_meetingPlace_54_0 (x : XT)  (S : ST)  : Option (Int32 × ST) :=
  match gfX6_findAll_54 x S with
    | none => none
    | some (r3, S4) => (lfX6_meetingPlace_54_8 x  20000 S4 (-1) 0)
def gfX6_meetingPlace_54 (x : XT) (S : ST)  : Option (Int32 × ST) := bfX6_meetingPlace_54_0 x S 
def bfX10_meet_0_35 (x : XT)  (S : ST)  : Option (Int32 × ST) :=
  some ((-1), S)
def bfX10_meet_0_101 (x : XT)  (S : ST) (t0 : Int32) : Option (Int32 × ST) :=
  some (t0, S)
def bfX10_meet_0_87 (x : XT)  (S : ST) (v4 : Int32) : Option (Int32 × ST) :=
  bfX10_meet_0_101 x S v4
def bfX10_meet_0_0 (x : XT)  (S : ST) (p1 : Int32) (p2 : Int32) (p3 : Int32) : Option (Int32 × ST) :=
  match gfX7_hasGoer_1 x S p1 with
    | none => none
    | some (r3, S4) => (if r3 = 0 then (bfX10_meet_0_35 x S4) else (match gfX7_hasGoer_1 x S4 p2 with
    | none => none
    | some (r8, S9) => (if r8 = 0 then (bfX10_meet_0_35 x S9) else (if p1 = p2 then (bfX10_meet_0_35 x S9) else (match gfX10_within x S9 p3 2 with
    | none => none
    | some (r14, S15) => (if ¬ r14 = 0 then (match gfX6_begin_54_1 x S15 p1 with
    | none => none
    | some (r19, S20) => (match gfX6_keepSteps_54 x S20 with
    | none => none
    | some (r23, S24) => (match gfX6_begin_54_1 x S24 p2 with
    | none => none
    | some (r27, S28) => (match gfX6_meetingPlace_54 x S28 with
    | none => none
    | some (r31, S32) => (if p3 = 0 then (bfX10_meet_0_87 x S32 r31) else (if ¬ r31 = (-1) then (match gfX6_longerSteps_54 x S32 r31 with
    | none => none
    | some (r37, S38) => (bfX10_meet_0_101 x S38 r37)) else (bfX10_meet_0_87 x S32 r31))))))) else (bfX10_meet_0_35 x S15)))))))
end DEFS
