section DEFS
def lfX11_image_130_17 (x : XT)  : Nat → ST → Int32 → Int32 → Option (Int32 × ST)
  | 0, _, _, _ => none
  | n + 1, S, v1, v2 => bfX11_image_130_17 x (lfX11_image_130_17 x  n) S v1 v2
def bfX11_image_130_0 (x : XT)  (S : ST) (p1 : Int32) : Option (Int32 × ST) :=
  match gfX11_lies x S p1 0 1 with
    | none => none
    | some (r3, S4) => (if ¬ r3 = 0 then (lfX11_image_130_17 x  20000 S4 p1 0) else (match gfX11_refuses_130 x S4 (-1) with
    | none => none
    | some (r8, S9) => (some (r8, S9))))
def gfX11_image_130 (x : XT) (S : ST) (p1 : Int32) : Option (Int32 × ST) := bfX11_image_130_0 x S p1
def bfX11_back_130_33 (x : XT) (k33 : ST → Int32 → Int32 → Option (Int32 × ST)) (S : ST) (v1 : Int32) (v2 : Int32) : Option (Int32 × ST) :=
  if 5703 ≤ v2 then (match gfX11_settled_130 x S 0 with
    | none => none
    | some (r4, S5) => (some (r4, S5))) else (bif inb ((5703 * v1) + v2) 11406 then (bif inb v2 5703 then (k33 (S.1, (u2 S.2.1 132 v2.toNatClampNeg (S.2.1 133 (((5703 * v1) + v2).toNatClampNeg))), S.2.2.1, S.2.2.2) v1 (v2 + 1)) else none) else none)
def lfX11_back_130_33 (x : XT)  : Nat → ST → Int32 → Int32 → Option (Int32 × ST)
  | 0, _, _, _ => none
  | n + 1, S, v1, v2 => bfX11_back_130_33 x (lfX11_back_130_33 x  n) S v1 v2
def bfX11_back_130_0 (x : XT)  (S : ST) (p1 : Int32) : Option (Int32 × ST) :=
  match gfX11_lies x S p1 0 1 with
    | none => none
    | some (r3, S4) => (if ¬ r3 = 0 then (bif inb p1 2 then (if ¬ (S4.2.1 134 p1.toNatClampNeg) = 0 then (lfX11_back_130_33 x  20000 S4 p1 0) else (match gfX11_refuses_130 x S4 (-2) with
    | none => none
    | some (r10, S11) => (some (r10, S11)))) else none) else (match gfX11_refuses_130 x S4 (-1) with
    | none => none
    | some (r14, S15) => (some (r14, S15))))
def gfX11_back_130 (x : XT) (S : ST) (p1 : Int32) : Option (Int32 × ST) := bfX11_back_130_0 x S p1
def bfX11_gateMany_130_0 (x : XT)  (S : ST)  : Option (Int32 × ST) :=
  some ((S.2.1 132 91), S)
def gfX11_gateMany_130 (x : XT) (S : ST)  : Option (Int32 × ST) := bfX11_gateMany_130_0 x S 
def bfX11_isGate_130_0 (x : XT)  (S : ST) (p1 : Int32) : Option (Int32 × ST) :=
  match gfX11_gateMany_130 x S with
    | none => none
    | some (r3, S4) => (match gfX11_lies x S4 p1 0 (r3 - 1) with
    | none => none
    | some (r7, S8) => (bif bbz r7 then (some (r7, S8)) else none))
def gfX11_isGate_130 (x : XT) (S : ST) (p1 : Int32) : Option (Int32 × ST) := bfX11_isGate_130_0 x S p1
def bfX11_isGoer_130_0 (x : XT)  (S : ST) (p1 : Int32) : Option (Int32 × ST) :=
  match gfX11_lies x S p1 0 ((S.2.1 132 92) - 1) with
    | none => none
    | some (r3, S4) => (bif bbz r3 then (some (r3, S4)) else none)
def gfX11_isGoer_130 (x : XT) (S : ST) (p1 : Int32) : Option (Int32 × ST) := bfX11_isGoer_130_0 x S p1
def bfX11_canGate_36 (x : XT)  (S : ST) (t0 : Int32) : Option (Int32 × ST) :=
  bif bbz t0 then (some (t0, S)) else none
def bfX11_canGate_35 (x : XT)  (S : ST)  : Option (Int32 × ST) :=
  bfX11_canGate_36 x S 0
def bfX11_canGate_0 (x : XT)  (S : ST) (p0 : Int32) (p1 : Int32) (p2 : Int32) (p3 : Int32) : Option (Int32 × ST) :=
  match gfX11_isPark x S p0 with
    | none => none
    | some (r3, S4) => (if r3 = 0 then (bfX11_canGate_35 x S4) else (match gfX11_isPark x S4 p1 with
    | none => none
    | some (r8, S9) => (if r8 = 0 then (bfX11_canGate_35 x S9) else (match gfX11_lies x S9 p2 0 7 with
    | none => none
    | some (r13, S14) => (if r13 = 0 then (bfX11_canGate_35 x S14) else (match gfX11_isArm x S14 p3 with
    | none => none
    | some (r18, S19) => (if r18 = 0 then (bfX11_canGate_35 x S19) else (bfX11_canGate_36 x S19 1))))))))
def gfX11_canGate (x : XT) (S : ST) (p0 : Int32) (p1 : Int32) (p2 : Int32) (p3 : Int32) : Option (Int32 × ST) := bfX11_canGate_0 x S p0 p1 p2 p3
def bfX11_adds_130_0 (x : XT)  (S : ST) (p1 : Int32) (p2 : Int32) (p3 : Int32) (p4 : Int32) : Option (Unit × ST) :=
  match gfX11_gateMany_130 x S with
    | none => none
    | some (r3, S4) => (bif inb (36 + r3) 5703 then (bif inb (46 + r3) 5703 then (bif inb (56 + r3) 5703 then (bif inb (15 + r3) 5703 then (bif inb (25 + r3) 5703 then (some ((), (S4.1, (u2 (u2 (u2 (u2 (u2 (u2 S4.2.1 132 ((36 + r3).toNatClampNeg) p1) 132 ((46 + r3).toNatClampNeg) p2) 132 ((56 + r3).toNatClampNeg) p3) 132 ((15 + r3).toNatClampNeg) p4) 132 ((25 + r3).toNatClampNeg) 1) 132 91 (((u2 (u2 (u2 (u2 (u2 S4.2.1 132 ((36 + r3).toNatClampNeg) p1) 132 ((46 + r3).toNatClampNeg) p2) 132 ((56 + r3).toNatClampNeg) p3) 132 ((15 + r3).toNatClampNeg) p4) 132 ((25 + r3).toNatClampNeg) 1) 132 91) + 1)), S4.2.2.1, S4.2.2.2))) else none) else none) else none) else none) else none)
def gfX11_adds_130 (x : XT) (S : ST) (p1 : Int32) (p2 : Int32) (p3 : Int32) (p4 : Int32) : Option (Unit × ST) := bfX11_adds_130_0 x S p1 p2 p3 p4
def bfX11_gate_130_0 (x : XT)  (S : ST) (p1 : Int32) (p2 : Int32) (p3 : Int32) (p4 : Int32) : Option (Int32 × ST) :=
  match gfX11_canGate x S p1 p2 p3 p4 with
    | none => none
    | some (r3, S4) => (if ¬ r3 = 0 then (match gfX11_gateMany_130 x S4 with
    | none => none
    | some (r8, S9) => (if ¬ r8 = 10 then (match gfX11_adds_130 x S9 p1 p2 p3 p4 with
    | none => none
    | some (r13, S14) => (match gfX11_gateMany_130 x S14 with
    | none => none
    | some (r17, S18) => (match gfX11_settled_130 x S18 (r17 - 1) with
    | none => none
    | some (r21, S22) => (some (r21, S22))))) else (match gfX11_refuses_130 x S9 (-5) with
    | none => none
    | some (r25, S26) => (some (r25, S26))))) else (match gfX11_refuses_130 x S4 (-1) with
    | none => none
    | some (r29, S30) => (some (r29, S30))))
def gfX11_gate_130 (x : XT) (S : ST) (p1 : Int32) (p2 : Int32) (p3 : Int32) (p4 : Int32) : Option (Int32 × ST) := bfX11_gate_130_0 x S p1 p2 p3 p4
def bfX11_at_130_0 (x : XT)  (S : ST) (p1 : Int32) (p2 : Int32) : Option (Int32 × ST) :=
  match gfX11_isGate_130 x S p1 with
    | none => none
    | some (r3, S4) => (if ¬ r3 = 0 then (if p2 = 0 then (bif inb (36 + p1) 5703 then (some ((S4.2.1 132 ((36 + p1).toNatClampNeg)), S4)) else none) else (if p2 = 1 then (bif inb (46 + p1) 5703 then (some ((S4.2.1 132 ((46 + p1).toNatClampNeg)), S4)) else none) else (if p2 = 2 then (bif inb (56 + p1) 5703 then (some ((S4.2.1 132 ((56 + p1).toNatClampNeg)), S4)) else none) else (if p2 = 3 then (bif inb (15 + p1) 5703 then (some ((S4.2.1 132 ((15 + p1).toNatClampNeg)), S4)) else none) else (if p2 = 4 then (bif inb (25 + p1) 5703 then (some ((S4.2.1 132 ((25 + p1).toNatClampNeg)), S4)) else none) else (some ((-1), S4))))))) else (some ((-1), S4)))
def gfX11_at_130 (x : XT) (S : ST) (p1 : Int32) (p2 : Int32) : Option (Int32 × ST) := bfX11_at_130_0 x S p1 p2
def bfX11_goer_130_23 (x : XT)  (S : ST)  : Option (Int32 × ST) :=
  match gfX11_refuses_130 x S (-1) with
    | none => none
    | some (r3, S4) => (some (r3, S4))
def bfX11_goer_130_0 (x : XT)  (S : ST) (p1 : Int32) (p2 : Int32) (p3 : Int32) : Option (Int32 × ST) :=
  match gfX11_isPark x S p1 with
    | none => none
    | some (r3, S4) => (if r3 = 0 then (bfX11_goer_130_23 x S4) else (match gfX11_isMany x S4 p2 with
    | none => none
    | some (r8, S9) => (if r8 = 0 then (bfX11_goer_130_23 x S9) else (match gfX11_lies x S9 p3 0 3 with
    | none => none
    | some (r13, S14) => (if ¬ r13 = 0 then (if ¬ (S14.2.1 132 92) = 5 then (bif inb (0 + (S14.2.1 132 92)) 5703 then (bif inb (5 + (S14.2.1 132 92)) 5703 then (bif inb (10 + (S14.2.1 132 92)) 5703 then (bif inb (66 + (S14.2.1 132 92)) 5703 then (match gfX11_settled_130 x (S14.1, (u2 (u2 (u2 (u2 (u2 S14.2.1 132 ((0 + (S14.2.1 132 92)).toNatClampNeg) p1) 132 ((5 + (S14.2.1 132 92)).toNatClampNeg) p2) 132 ((10 + (S14.2.1 132 92)).toNatClampNeg) 0) 132 ((66 + (S14.2.1 132 92)).toNatClampNeg) p3) 132 92 (((u2 (u2 (u2 (u2 S14.2.1 132 ((0 + (S14.2.1 132 92)).toNatClampNeg) p1) 132 ((5 + (S14.2.1 132 92)).toNatClampNeg) p2) 132 ((10 + (S14.2.1 132 92)).toNatClampNeg) 0) 132 ((66 + (S14.2.1 132 92)).toNatClampNeg) p3) 132 92) + 1)), S14.2.2.1, S14.2.2.2) (S14.2.1 132 92) with
    | none => none
    | some (r23, S24) => (some (r23, S24))) else none) else none) else none) else none) else (match gfX11_refuses_130 x S14 (-5) with
    | none => none
    | some (r27, S28) => (some (r27, S28)))) else (bfX11_goer_130_23 x S14))))))
def gfX11_goer_130 (x : XT) (S : ST) (p1 : Int32) (p2 : Int32) (p3 : Int32) : Option (Int32 × ST) := bfX11_goer_130_0 x S p1 p2 p3
def bfX11_setsAsked_130_0 (x : XT)  (S : ST) (p1 : Int32) (p2 : Int32) (p3 : Int32) (p4 : Int32) (p5 : Int32) (p6 : Int32) : Option (Unit × ST) :=
  some ((), (S.1, (u2 (u2 (u2 (u2 (u2 (u2 (u2 (u2 S.2.1 142 0 p1) 142 1 p4) 142 2 p5) 142 3 p6) 142 4 (S.2.1 132 90)) 142 5 p2) 142 6 p3) 142 7 (S.2.1 132 35)), S.2.2.1, S.2.2.2))
def gfX11_setsAsked_130 (x : XT) (S : ST) (p1 : Int32) (p2 : Int32) (p3 : Int32) (p4 : Int32) (p5 : Int32) (p6 : Int32) : Option (Unit × ST) := bfX11_setsAsked_130_0 x S p1 p2 p3 p4 p5 p6
def bfX11_setsGate_130_0 (x : XT)  (S : ST) (p1 : Int32) (p2 : Int32) (p3 : Int32) : Option (Unit × ST) :=
  bif inb (56 + p2) 5703 then (bif inb (15 + p2) 5703 then (bif inb (66 + p1) 5703 then (match gfX11_setsAsked_130 x S (S.2.1 132 ((56 + p2).toNatClampNeg)) (S.2.1 132 ((15 + p2).toNatClampNeg)) p3 (S.2.1 132 ((66 + p1).toNatClampNeg)) p2 p1 with
    | none => none
    | some (r6, S7) => (some ((), S7))) else none) else none) else none
def gfX11_setsGate_130 (x : XT) (S : ST) (p1 : Int32) (p2 : Int32) (p3 : Int32) : Option (Unit × ST) := bfX11_setsGate_130_0 x S p1 p2 p3
def bfX11_codeAt_130_21 (x : XT)  (S : ST) (t0 : Int32) : Option (Int32 × ST) :=
  some (t0, S)
def bfX11_codeAt_130_0 (x : XT)  (S : ST) (p1 : Int32) : Option (Int32 × ST) :=
  if (S.1 130 23) ≤ p1 then (bfX11_codeAt_130_21 x S 0) else (bif inb (103 + p1) 5703 then (bfX11_codeAt_130_21 x S (S.2.1 132 ((103 + p1).toNatClampNeg))) else none)
def gfX11_codeAt_130 (x : XT) (S : ST) (p1 : Int32) : Option (Int32 × ST) := bfX11_codeAt_130_0 x S p1
def bfX11_passes0_130_32 (x : XT)  (S : ST) (v2 : Int32) : Option (Int32 × ST) :=
  bif bbz v2 then (some (v2, S)) else none
def bfX11_passes0_130_17 (x : XT)  (S : ST) (t0 : Int32) : Option (Int32 × ST) :=
  if t0 = 0 then (bfX11_passes0_130_32 x S t0) else (bfX11_passes0_130_32 x ((u2 S.1 130 22 ((S.1 130 22) + 1)), S.2.1, S.2.2.1, S.2.2.2) t0)
def bfX11_passes0_130_0 (x : XT)  (S : ST) (p1 : Int32) : Option (Int32 × ST) :=
  match gfX11_codeAt_130 x S (S.1 130 22) with
    | none => none
    | some (r3, S4) => (if ¬ r3 = p1 then (bfX11_passes0_130_17 x S4 0) else (bfX11_passes0_130_17 x S4 1))
def gfX11_passes0_130 (x : XT) (S : ST) (p1 : Int32) : Option (Int32 × ST) := bfX11_passes0_130_0 x S p1
def bfX11_sign_0 (x : XT)  (S : ST) (p0 : Int32) : Option (Int32 × ST) :=
  some (100 + p0, S)
def gfX11_sign (x : XT) (S : ST) (p0 : Int32) : Option (Int32 × ST) := bfX11_sign_0 x S p0
def bfX11_bounded_130_37 (x : XT)  (S : ST) (t0 : Int64) : Option (Int64 × ST) :=
  some (t0, S)
def bfX11_bounded_130_25 (x : XT)  (S : ST) (v1 : Int64) : Option (Int64 × ST) :=
  if (S.1 130 24) = 0 then (bfX11_bounded_130_37 x S v1) else (bfX11_bounded_130_37 x S 0)
def bfX11_bounded_130_20 (x : XT)  (S : ST) (v1 : Int64) : Option (Int64 × ST) :=
  bfX11_bounded_130_25 x ((u2 S.1 130 24 1), S.2.1, S.2.2.1, S.2.2.2) v1
def bfX11_bounded_130_0 (x : XT)  (S : ST) (p1 : Int64) (p3 : Int32) : Option (Int64 × ST) :=
  if p3 = 0 then (bfX11_bounded_130_25 x S p1) else (if 0 < (lg_cmp p1 1000000000) then (bfX11_bounded_130_20 x S p1) else (if 0 ≤ (lg_cmp p1 (-1000000000)) then (bfX11_bounded_130_25 x S p1) else (bfX11_bounded_130_20 x S p1)))
def gfX11_bounded_130 (x : XT) (S : ST) (p1 : Int64) (p3 : Int32) : Option (Int64 × ST) := bfX11_bounded_130_0 x S p1 p3
def bfX11_wholeMany_130_33 (x : XT) (k4 : ST → Int32 → Int32 → Option (Int32 × ST)) (S : ST) (v2 : Int32) (t0 : Int32) (t1 : Int32) : Option (Int32 × ST) :=
  k4 S (t0 + t1) (v2 + 1)
def bfX11_wholeMany_130_4 (x : XT) (k4 : ST → Int32 → Int32 → Option (Int32 × ST)) (S : ST) (v1 : Int32) (v2 : Int32) : Option (Int32 × ST) :=
  if (S.2.1 132 92) ≤ v2 then (some (v1, S)) else (bif inb (5 + v2) 5703 then (if ¬ (S.2.1 132 ((5 + v2).toNatClampNeg)) = 1 then (bfX11_wholeMany_130_33 x k4 S v2 v1 0) else (bfX11_wholeMany_130_33 x k4 S v2 v1 1)) else none)
def lfX11_wholeMany_130_4 (x : XT)  : Nat → ST → Int32 → Int32 → Option (Int32 × ST)
  | 0, _, _, _ => none
  | n + 1, S, v1, v2 => bfX11_wholeMany_130_4 x (lfX11_wholeMany_130_4 x  n) S v1 v2
def bfX11_wholeMany_130_0 (x : XT)  (S : ST)  : Option (Int32 × ST) :=
  lfX11_wholeMany_130_4 x  20000 S 0 0
def gfX11_wholeMany_130 (x : XT) (S : ST)  : Option (Int32 × ST) := bfX11_wholeMany_130_0 x S 
def bfX11_orderValue_130_65 (x : XT)  (S : ST) (t0 : Int32) : Option (Int32 × ST) :=
  some (t0, S)
def bfX11_orderValue_130_86 (x : XT)  (S : ST) (t0 : Int32) : Option (Int32 × ST) :=
  some (t0, S)
def bfX11_orderValue_130_107 (x : XT)  (S : ST) (t0 : Int32) : Option (Int32 × ST) :=
  some (t0, S)
def bfX11_orderValue_130_0 (x : XT)  (S : ST) (p1 : Int32) (p2 : Int32) : Option (Int32 × ST) :=
  if p1 = 13 then (match gfX11_isGate_130 x S p2 with
    | none => none
    | some (r4, S5) => (if r4 = 0 then (bfX11_orderValue_130_65 x S5 (-1)) else (bif inb (15 + p2) 5703 then (bfX11_orderValue_130_65 x S5 (S5.2.1 132 ((15 + p2).toNatClampNeg))) else none))) else (if p1 = 14 then (match gfX11_isGoer_130 x S p2 with
    | none => none
    | some (r11, S12) => (if r11 = 0 then (bfX11_orderValue_130_86 x S12 (-1)) else (bif inb (5 + p2) 5703 then (bfX11_orderValue_130_86 x S12 (S12.2.1 132 ((5 + p2).toNatClampNeg))) else none))) else (if p1 = 15 then (some ((S.2.1 132 35), S)) else (if p1 = 16 then (some ((S.1 130 27), S)) else (if p1 = 17 then (some ((S.1 130 28), S)) else (if p1 = 18 then (match gfX11_wholeMany_130 x S with
    | none => none
    | some (r21, S22) => (some (r21, S22))) else (if p1 = 19 then (match gfX11_isGoer_130 x S p2 with
    | none => none
    | some (r26, S27) => (if r26 = 0 then (bfX11_orderValue_130_107 x S27 (-1)) else (bif inb (0 + p2) 5703 then (bfX11_orderValue_130_107 x S27 (S27.2.1 132 ((0 + p2).toNatClampNeg))) else none))) else (match gfX11_wholeMany_130 x S with
    | none => none
    | some (r32, S33) => (some (r32, S33)))))))))
def gfX11_orderValue_130 (x : XT) (S : ST) (p1 : Int32) (p2 : Int32) : Option (Int32 × ST) := bfX11_orderValue_130_0 x S p1 p2
def bfX11_sumOf_130_95 (x : XT) (rec_X11_sumOf : ST → Int32 → Option (Int64 × ST)) (rec_X11_termOf : ST → Int32 → Option (Int64 × ST)) (rec_X11_partOf : ST → Int32 → Option (Int64 × ST)) (k6 : ST → Int32 → Int64 → Option (Int64 × ST)) (S : ST) (v1 : Int32) (t1 : Int64) : Option (Int64 × ST) :=
  match gfX11_bounded_130 x S t1 v1 with
    | none => none
    | some (r3, S4) => (k6 S4 v1 r3)
def bfX11_sumOf_130_59 (x : XT) (rec_X11_sumOf : ST → Int32 → Option (Int64 × ST)) (rec_X11_termOf : ST → Int32 → Option (Int64 × ST)) (rec_X11_partOf : ST → Int32 → Option (Int64 × ST)) (k6 : ST → Int32 → Int64 → Option (Int64 × ST)) (S : ST) (v1 : Int32) (v2 : Int64) (t0 : Int32) : Option (Int64 × ST) :=
  match rec_X11_termOf ((u2 S.1 130 22 ((S.1 130 22) + 1)), S.2.1, S.2.2.1, S.2.2.2) v1 with
    | none => none
    | some (r3, S4) => (if t0 = 0 then (bfX11_sumOf_130_95 x rec_X11_sumOf rec_X11_termOf rec_X11_partOf k6 S4 v1 (v2 - r3)) else (bfX11_sumOf_130_95 x rec_X11_sumOf rec_X11_termOf rec_X11_partOf k6 S4 v1 (v2 + r3)))
def bfX11_sumOf_130_38 (x : XT) (rec_X11_sumOf : ST → Int32 → Option (Int64 × ST)) (rec_X11_termOf : ST → Int32 → Option (Int64 × ST)) (rec_X11_partOf : ST → Int32 → Option (Int64 × ST)) (k6 : ST → Int32 → Int64 → Option (Int64 × ST)) (S : ST) (v1 : Int32) (v2 : Int64) : Option (Int64 × ST) :=
  match gfX11_codeAt_130 x S (S.1 130 22) with
    | none => none
    | some (r3, S4) => (match gfX11_sign x S4 43 with
    | none => none
    | some (r7, S8) => (if ¬ r3 = r7 then (bfX11_sumOf_130_59 x rec_X11_sumOf rec_X11_termOf rec_X11_partOf k6 S8 v1 v2 0) else (bfX11_sumOf_130_59 x rec_X11_sumOf rec_X11_termOf rec_X11_partOf k6 S8 v1 v2 1)))
def bfX11_sumOf_130_6 (x : XT) (rec_X11_sumOf : ST → Int32 → Option (Int64 × ST)) (rec_X11_termOf : ST → Int32 → Option (Int64 × ST)) (rec_X11_partOf : ST → Int32 → Option (Int64 × ST)) (k6 : ST → Int32 → Int64 → Option (Int64 × ST)) (S : ST) (v1 : Int32) (v2 : Int64) : Option (Int64 × ST) :=
  match gfX11_codeAt_130 x S (S.1 130 22) with
    | none => none
    | some (r3, S4) => (match gfX11_sign x S4 43 with
    | none => none
    | some (r7, S8) => (if r3 = r7 then (bfX11_sumOf_130_38 x rec_X11_sumOf rec_X11_termOf rec_X11_partOf k6 S8 v1 v2) else (match gfX11_codeAt_130 x S8 (S8.1 130 22) with
    | none => none
    | some (r12, S13) => (match gfX11_sign x S13 45 with
    | none => none
    | some (r16, S17) => (if ¬ r12 = r16 then (some (v2, S17)) else (bfX11_sumOf_130_38 x rec_X11_sumOf rec_X11_termOf rec_X11_partOf k6 S17 v1 v2))))))
def lfX11_sumOf_130_6 (x : XT) (rec_X11_sumOf : ST → Int32 → Option (Int64 × ST)) (rec_X11_termOf : ST → Int32 → Option (Int64 × ST)) (rec_X11_partOf : ST → Int32 → Option (Int64 × ST))  : Nat → ST → Int32 → Int64 → Option (Int64 × ST)
  | 0, _, _, _ => none
  | n + 1, S, v1, v2 => bfX11_sumOf_130_6 x rec_X11_sumOf rec_X11_termOf rec_X11_partOf (lfX11_sumOf_130_6 x rec_X11_sumOf rec_X11_termOf rec_X11_partOf  n) S v1 v2
def bfX11_sumOf_130_0 (x : XT) (rec_X11_sumOf : ST → Int32 → Option (Int64 × ST)) (rec_X11_termOf : ST → Int32 → Option (Int64 × ST)) (rec_X11_partOf : ST → Int32 → Option (Int64 × ST))  (S : ST) (p1 : Int32) : Option (Int64 × ST) :=
  match rec_X11_termOf S p1 with
    | none => none
    | some (r3, S4) => (lfX11_sumOf_130_6 x rec_X11_sumOf rec_X11_termOf rec_X11_partOf  20000 S4 p1 r3)
def grfX11_sumOf_130 (x : XT) (rec_X11_sumOf : ST → Int32 → Option (Int64 × ST)) (rec_X11_termOf : ST → Int32 → Option (Int64 × ST)) (rec_X11_partOf : ST → Int32 → Option (Int64 × ST)) (S : ST) (p1 : Int32) : Option (Int64 × ST) := bfX11_sumOf_130_0 x rec_X11_sumOf rec_X11_termOf rec_X11_partOf S p1
def bfX11_termOf_130_160 (x : XT) (rec_X11_sumOf : ST → Int32 → Option (Int64 × ST)) (rec_X11_termOf : ST → Int32 → Option (Int64 × ST)) (rec_X11_partOf : ST → Int32 → Option (Int64 × ST)) (k6 : ST → Int32 → Int64 → Option (Int64 × ST)) (S : ST) (v1 : Int32) (t1 : Int64) : Option (Int64 × ST) :=
  match gfX11_bounded_130 x S t1 v1 with
    | none => none
    | some (r3, S4) => (k6 S4 v1 r3)
def bfX11_termOf_130_121 (x : XT) (rec_X11_sumOf : ST → Int32 → Option (Int64 × ST)) (rec_X11_termOf : ST → Int32 → Option (Int64 × ST)) (rec_X11_partOf : ST → Int32 → Option (Int64 × ST)) (k6 : ST → Int32 → Int64 → Option (Int64 × ST)) (S : ST) (v1 : Int32) (v2 : Int64) (v4 : Int32) (v5 : Int64) : Option (Int64 × ST) :=
  match gfX11_sign x S 42 with
    | none => none
    | some (r3, S4) => (if ¬ v4 = r3 then (match gfX11_sign x S4 47 with
    | none => none
    | some (r8, S9) => (if ¬ v4 = r8 then (bif nzl v5 then (bfX11_termOf_130_160 x rec_X11_sumOf rec_X11_termOf rec_X11_partOf k6 S9 v1 (v2 - v2 / v5 * v5)) else none) else (bif nzl v5 then (bfX11_termOf_130_160 x rec_X11_sumOf rec_X11_termOf rec_X11_partOf k6 S9 v1 (v2 / v5)) else none))) else (bfX11_termOf_130_160 x rec_X11_sumOf rec_X11_termOf rec_X11_partOf k6 S4 v1 (v2 * v5)))
def bfX11_termOf_130_115 (x : XT) (rec_X11_sumOf : ST → Int32 → Option (Int64 × ST)) (rec_X11_termOf : ST → Int32 → Option (Int64 × ST)) (rec_X11_partOf : ST → Int32 → Option (Int64 × ST)) (k6 : ST → Int32 → Int64 → Option (Int64 × ST)) (S : ST) (v1 : Int32) (v2 : Int64) (v4 : Int32) (t1 : Int32) : Option (Int64 × ST) :=
  bif bbz t1 then (bfX11_termOf_130_121 x rec_X11_sumOf rec_X11_termOf rec_X11_partOf k6 ((u2 S.1 130 24 t1), S.2.1, S.2.2.1, S.2.2.2) v1 v2 v4 1) else none
def bfX11_termOf_130_110 (x : XT) (rec_X11_sumOf : ST → Int32 → Option (Int64 × ST)) (rec_X11_termOf : ST → Int32 → Option (Int64 × ST)) (rec_X11_partOf : ST → Int32 → Option (Int64 × ST)) (k6 : ST → Int32 → Int64 → Option (Int64 × ST)) (S : ST) (v1 : Int32) (v2 : Int64) (v4 : Int32) : Option (Int64 × ST) :=
  bfX11_termOf_130_115 x rec_X11_sumOf rec_X11_termOf rec_X11_partOf k6 S v1 v2 v4 1
def bfX11_termOf_130_54 (x : XT) (rec_X11_sumOf : ST → Int32 → Option (Int64 × ST)) (rec_X11_termOf : ST → Int32 → Option (Int64 × ST)) (rec_X11_partOf : ST → Int32 → Option (Int64 × ST)) (k6 : ST → Int32 → Int64 → Option (Int64 × ST)) (S : ST) (v1 : Int32) (v2 : Int64) : Option (Int64 × ST) :=
  match gfX11_codeAt_130 x S (S.1 130 22) with
    | none => none
    | some (r3, S4) => (match rec_X11_partOf ((u2 S4.1 130 22 ((S4.1 130 22) + 1)), S4.2.1, S4.2.2.1, S4.2.2.2) v1 with
    | none => none
    | some (r7, S8) => (match gfX11_sign x S8 42 with
    | none => none
    | some (r11, S12) => (if r3 = r11 then (bfX11_termOf_130_121 x rec_X11_sumOf rec_X11_termOf rec_X11_partOf k6 S12 v1 v2 r3 r7) else (if ¬ (lg_cmp r7 0) = 0 then (bfX11_termOf_130_121 x rec_X11_sumOf rec_X11_termOf rec_X11_partOf k6 S12 v1 v2 r3 r7) else (if ¬ (S12.1 130 24) = 0 then (bfX11_termOf_130_110 x rec_X11_sumOf rec_X11_termOf rec_X11_partOf k6 S12 v1 v2 r3) else (if v1 = 0 then (bfX11_termOf_130_115 x rec_X11_sumOf rec_X11_termOf rec_X11_partOf k6 S12 v1 v2 r3 0) else (bfX11_termOf_130_110 x rec_X11_sumOf rec_X11_termOf rec_X11_partOf k6 S12 v1 v2 r3)))))))
def bfX11_termOf_130_6 (x : XT) (rec_X11_sumOf : ST → Int32 → Option (Int64 × ST)) (rec_X11_termOf : ST → Int32 → Option (Int64 × ST)) (rec_X11_partOf : ST → Int32 → Option (Int64 × ST)) (k6 : ST → Int32 → Int64 → Option (Int64 × ST)) (S : ST) (v1 : Int32) (v2 : Int64) : Option (Int64 × ST) :=
  match gfX11_codeAt_130 x S (S.1 130 22) with
    | none => none
    | some (r3, S4) => (match gfX11_sign x S4 42 with
    | none => none
    | some (r7, S8) => (if r3 = r7 then (bfX11_termOf_130_54 x rec_X11_sumOf rec_X11_termOf rec_X11_partOf k6 S8 v1 v2) else (match gfX11_codeAt_130 x S8 (S8.1 130 22) with
    | none => none
    | some (r12, S13) => (match gfX11_sign x S13 47 with
    | none => none
    | some (r16, S17) => (if r12 = r16 then (bfX11_termOf_130_54 x rec_X11_sumOf rec_X11_termOf rec_X11_partOf k6 S17 v1 v2) else (match gfX11_codeAt_130 x S17 (S17.1 130 22) with
    | none => none
    | some (r21, S22) => (match gfX11_sign x S22 37 with
    | none => none
    | some (r25, S26) => (if ¬ r21 = r25 then (some (v2, S26)) else (bfX11_termOf_130_54 x rec_X11_sumOf rec_X11_termOf rec_X11_partOf k6 S26 v1 v2)))))))))
def lfX11_termOf_130_6 (x : XT) (rec_X11_sumOf : ST → Int32 → Option (Int64 × ST)) (rec_X11_termOf : ST → Int32 → Option (Int64 × ST)) (rec_X11_partOf : ST → Int32 → Option (Int64 × ST))  : Nat → ST → Int32 → Int64 → Option (Int64 × ST)
  | 0, _, _, _ => none
  | n + 1, S, v1, v2 => bfX11_termOf_130_6 x rec_X11_sumOf rec_X11_termOf rec_X11_partOf (lfX11_termOf_130_6 x rec_X11_sumOf rec_X11_termOf rec_X11_partOf  n) S v1 v2
def bfX11_termOf_130_0 (x : XT) (rec_X11_sumOf : ST → Int32 → Option (Int64 × ST)) (rec_X11_termOf : ST → Int32 → Option (Int64 × ST)) (rec_X11_partOf : ST → Int32 → Option (Int64 × ST))  (S : ST) (p1 : Int32) : Option (Int64 × ST) :=
  match rec_X11_partOf S p1 with
    | none => none
    | some (r3, S4) => (lfX11_termOf_130_6 x rec_X11_sumOf rec_X11_termOf rec_X11_partOf  20000 S4 p1 r3)
def grfX11_termOf_130 (x : XT) (rec_X11_sumOf : ST → Int32 → Option (Int64 × ST)) (rec_X11_termOf : ST → Int32 → Option (Int64 × ST)) (rec_X11_partOf : ST → Int32 → Option (Int64 × ST)) (S : ST) (p1 : Int32) : Option (Int64 × ST) := bfX11_termOf_130_0 x rec_X11_sumOf rec_X11_termOf rec_X11_partOf S p1
def bfX11_partOf_130_111 (x : XT) (rec_X11_sumOf : ST → Int32 → Option (Int64 × ST)) (rec_X11_termOf : ST → Int32 → Option (Int64 × ST)) (rec_X11_partOf : ST → Int32 → Option (Int64 × ST))  (S : ST)  : Option (Int64 × ST) :=
  some (0, S)
def bfX11_partOf_130_163 (x : XT) (rec_X11_sumOf : ST → Int32 → Option (Int64 × ST)) (rec_X11_termOf : ST → Int32 → Option (Int64 × ST)) (rec_X11_partOf : ST → Int32 → Option (Int64 × ST))  (S : ST) (t0 : Int64) : Option (Int64 × ST) :=
  some (t0, S)
def bfX11_partOf_130_100 (x : XT) (rec_X11_sumOf : ST → Int32 → Option (Int64 × ST)) (rec_X11_termOf : ST → Int32 → Option (Int64 × ST)) (rec_X11_partOf : ST → Int32 → Option (Int64 × ST))  (S : ST) (v1 : Int32) (v2 : Int32) (v3 : Int32) : Option (Int64 × ST) :=
  if v1 = 0 then (bfX11_partOf_130_111 x rec_X11_sumOf rec_X11_termOf rec_X11_partOf S) else (if (S.1 130 24) = 0 then (if ¬ v2 = 50 then (if (S.1 130 25) = 0 then (bif inb (v2 - 8) 8 then (bfX11_partOf_130_163 x rec_X11_sumOf rec_X11_termOf rec_X11_partOf S ((S.2.1 142 ((v2 - 8).toNatClampNeg)).toInt64)) else none) else (match gfX11_orderValue_130 x S v2 v3 with
    | none => none
    | some (r8, S9) => (bfX11_partOf_130_163 x rec_X11_sumOf rec_X11_termOf rec_X11_partOf S9 r8.toInt64))) else (bif inb ((2903 + (S.1 130 22)) - 1) 5703 then (some ((S.2.1 132 (((2903 + (S.1 130 22)) - 1).toNatClampNeg)).toInt64, S)) else none)) else (bfX11_partOf_130_111 x rec_X11_sumOf rec_X11_termOf rec_X11_partOf S))
def bfX11_partOf_130_76 (x : XT) (rec_X11_sumOf : ST → Int32 → Option (Int64 × ST)) (rec_X11_termOf : ST → Int32 → Option (Int64 × ST)) (rec_X11_partOf : ST → Int32 → Option (Int64 × ST))  (S : ST) (v1 : Int32) (v2 : Int32) : Option (Int64 × ST) :=
  bif inb (2903 + (S.1 130 22)) 5703 then (bfX11_partOf_130_100 x rec_X11_sumOf rec_X11_termOf rec_X11_partOf ((u2 S.1 130 22 ((S.1 130 22) + 1)), S.2.1, S.2.2.1, S.2.2.2) v1 v2 (S.2.1 132 ((2903 + (S.1 130 22)).toNatClampNeg))) else none
def bfX11_partOf_130_0 (x : XT) (rec_X11_sumOf : ST → Int32 → Option (Int64 × ST)) (rec_X11_termOf : ST → Int32 → Option (Int64 × ST)) (rec_X11_partOf : ST → Int32 → Option (Int64 × ST))  (S : ST) (p1 : Int32) : Option (Int64 × ST) :=
  match gfX11_sign x S 91 with
    | none => none
    | some (r3, S4) => (match gfX11_passes0_130 x S4 r3 with
    | none => none
    | some (r7, S8) => (if r7 = 0 then (match gfX11_codeAt_130 x S8 (S8.1 130 22) with
    | none => none
    | some (r12, S13) => (if (S13.1 130 25) = 0 then (bfX11_partOf_130_100 x rec_X11_sumOf rec_X11_termOf rec_X11_partOf ((u2 S13.1 130 22 ((S13.1 130 22) + 1)), S13.2.1, S13.2.2.1, S13.2.2.2) p1 r12 0) else (if r12 = 13 then (bfX11_partOf_130_76 x rec_X11_sumOf rec_X11_termOf rec_X11_partOf ((u2 S13.1 130 22 ((S13.1 130 22) + 1)), S13.2.1, S13.2.2.1, S13.2.2.2) p1 r12) else (if r12 = 14 then (bfX11_partOf_130_76 x rec_X11_sumOf rec_X11_termOf rec_X11_partOf ((u2 S13.1 130 22 ((S13.1 130 22) + 1)), S13.2.1, S13.2.2.1, S13.2.2.2) p1 r12) else (if ¬ r12 = 19 then (bfX11_partOf_130_100 x rec_X11_sumOf rec_X11_termOf rec_X11_partOf ((u2 S13.1 130 22 ((S13.1 130 22) + 1)), S13.2.1, S13.2.2.1, S13.2.2.2) p1 r12 0) else (bfX11_partOf_130_76 x rec_X11_sumOf rec_X11_termOf rec_X11_partOf ((u2 S13.1 130 22 ((S13.1 130 22) + 1)), S13.2.1, S13.2.2.1, S13.2.2.2) p1 r12)))))) else (match rec_X11_sumOf S8 p1 with
    | none => none
    | some (r20, S21) => (some (r20, ((u2 S21.1 130 22 ((S21.1 130 22) + 1)), S21.2.1, S21.2.2.1, S21.2.2.2))))))
def grfX11_partOf_130 (x : XT) (rec_X11_sumOf : ST → Int32 → Option (Int64 × ST)) (rec_X11_termOf : ST → Int32 → Option (Int64 × ST)) (rec_X11_partOf : ST → Int32 → Option (Int64 × ST)) (S : ST) (p1 : Int32) : Option (Int64 × ST) := bfX11_partOf_130_0 x rec_X11_sumOf rec_X11_termOf rec_X11_partOf S p1
def gqX11_sumOf_130 (x : XT) : Nat → Nat → ST → Int32 → Int32 → Option (Int64 × ST)
  | 0, _, _, _, _ => none
  | n + 1, tag, S, a, b => bif Nat.beq tag 0 then grfX11_sumOf_130 x (fun S z0 => gqX11_sumOf_130 x n 0 S z0 0) (fun S z0 => gqX11_sumOf_130 x n 1 S z0 0) (fun S z0 => gqX11_sumOf_130 x n 2 S z0 0) S a else (bif Nat.beq tag 1 then grfX11_termOf_130 x (fun S z0 => gqX11_sumOf_130 x n 0 S z0 0) (fun S z0 => gqX11_sumOf_130 x n 1 S z0 0) (fun S z0 => gqX11_sumOf_130 x n 2 S z0 0) S a else (bif Nat.beq tag 2 then grfX11_partOf_130 x (fun S z0 => gqX11_sumOf_130 x n 0 S z0 0) (fun S z0 => gqX11_sumOf_130 x n 1 S z0 0) (fun S z0 => gqX11_sumOf_130 x n 2 S z0 0) S a else (none)))
def gfX11_sumOf_130 (x : XT) (S : ST) (p1 : Int32) : Option (Int64 × ST) := gqX11_sumOf_130 x 60 0 S p1 0
def gfX11_termOf_130 (x : XT) (S : ST) (p1 : Int32) : Option (Int64 × ST) := gqX11_sumOf_130 x 60 1 S p1 0
def gfX11_partOf_130 (x : XT) (S : ST) (p1 : Int32) : Option (Int64 × ST) := gqX11_sumOf_130 x 60 2 S p1 0
def bfX11_testOf_130_45 (x : XT) (rec_X11_testOf : ST → Int32 → Option (Int32 × ST)) (rec_X11_bothOf : ST → Int32 → Option (Int32 × ST)) (rec_X11_plainOf : ST → Int32 → Option (Int32 × ST)) (rec_X11_positiveOf : ST → Int32 → Option (Int32 × ST)) (k6 : ST → Int32 → Int32 → Option (Int32 × ST)) (S : ST) (v1 : Int32) (t0 : Int32) : Option (Int32 × ST) :=
  k6 S v1 t0
def bfX11_testOf_130_40 (x : XT) (rec_X11_testOf : ST → Int32 → Option (Int32 × ST)) (rec_X11_bothOf : ST → Int32 → Option (Int32 × ST)) (rec_X11_plainOf : ST → Int32 → Option (Int32 × ST)) (rec_X11_positiveOf : ST → Int32 → Option (Int32 × ST)) (k6 : ST → Int32 → Int32 → Option (Int32 × ST)) (S : ST) (v1 : Int32) : Option (Int32 × ST) :=
  bfX11_testOf_130_45 x rec_X11_testOf rec_X11_bothOf rec_X11_plainOf rec_X11_positiveOf k6 S v1 1
def bfX11_testOf_130_28 (x : XT) (rec_X11_testOf : ST → Int32 → Option (Int32 × ST)) (rec_X11_bothOf : ST → Int32 → Option (Int32 × ST)) (rec_X11_plainOf : ST → Int32 → Option (Int32 × ST)) (rec_X11_positiveOf : ST → Int32 → Option (Int32 × ST)) (k6 : ST → Int32 → Int32 → Option (Int32 × ST)) (S : ST) (v1 : Int32) (v2 : Int32) (t1 : Int32) : Option (Int32 × ST) :=
  match rec_X11_bothOf S t1 with
    | none => none
    | some (r3, S4) => (if ¬ v2 = 0 then (bfX11_testOf_130_40 x rec_X11_testOf rec_X11_bothOf rec_X11_plainOf rec_X11_positiveOf k6 S4 v1) else (if r3 = 0 then (bfX11_testOf_130_45 x rec_X11_testOf rec_X11_bothOf rec_X11_plainOf rec_X11_positiveOf k6 S4 v1 0) else (bfX11_testOf_130_40 x rec_X11_testOf rec_X11_bothOf rec_X11_plainOf rec_X11_positiveOf k6 S4 v1)))
def bfX11_testOf_130_27 (x : XT) (rec_X11_testOf : ST → Int32 → Option (Int32 × ST)) (rec_X11_bothOf : ST → Int32 → Option (Int32 × ST)) (rec_X11_plainOf : ST → Int32 → Option (Int32 × ST)) (rec_X11_positiveOf : ST → Int32 → Option (Int32 × ST)) (k6 : ST → Int32 → Int32 → Option (Int32 × ST)) (S : ST) (v1 : Int32) (v2 : Int32) : Option (Int32 × ST) :=
  bfX11_testOf_130_28 x rec_X11_testOf rec_X11_bothOf rec_X11_plainOf rec_X11_positiveOf k6 S v1 v2 0
def bfX11_testOf_130_6 (x : XT) (rec_X11_testOf : ST → Int32 → Option (Int32 × ST)) (rec_X11_bothOf : ST → Int32 → Option (Int32 × ST)) (rec_X11_plainOf : ST → Int32 → Option (Int32 × ST)) (rec_X11_positiveOf : ST → Int32 → Option (Int32 × ST)) (k6 : ST → Int32 → Int32 → Option (Int32 × ST)) (S : ST) (v1 : Int32) (v2 : Int32) : Option (Int32 × ST) :=
  match gfX11_passes0_130 x S 5 with
    | none => none
    | some (r3, S4) => (if r3 = 0 then (bif bbz v2 then (some (v2, S4)) else none) else (if v1 = 0 then (bfX11_testOf_130_27 x rec_X11_testOf rec_X11_bothOf rec_X11_plainOf rec_X11_positiveOf k6 S4 v1 v2) else (if ¬ v2 = 0 then (bfX11_testOf_130_27 x rec_X11_testOf rec_X11_bothOf rec_X11_plainOf rec_X11_positiveOf k6 S4 v1 v2) else (bfX11_testOf_130_28 x rec_X11_testOf rec_X11_bothOf rec_X11_plainOf rec_X11_positiveOf k6 S4 v1 v2 1))))
def lfX11_testOf_130_6 (x : XT) (rec_X11_testOf : ST → Int32 → Option (Int32 × ST)) (rec_X11_bothOf : ST → Int32 → Option (Int32 × ST)) (rec_X11_plainOf : ST → Int32 → Option (Int32 × ST)) (rec_X11_positiveOf : ST → Int32 → Option (Int32 × ST))  : Nat → ST → Int32 → Int32 → Option (Int32 × ST)
  | 0, _, _, _ => none
  | n + 1, S, v1, v2 => bfX11_testOf_130_6 x rec_X11_testOf rec_X11_bothOf rec_X11_plainOf rec_X11_positiveOf (lfX11_testOf_130_6 x rec_X11_testOf rec_X11_bothOf rec_X11_plainOf rec_X11_positiveOf  n) S v1 v2
def bfX11_testOf_130_0 (x : XT) (rec_X11_testOf : ST → Int32 → Option (Int32 × ST)) (rec_X11_bothOf : ST → Int32 → Option (Int32 × ST)) (rec_X11_plainOf : ST → Int32 → Option (Int32 × ST)) (rec_X11_positiveOf : ST → Int32 → Option (Int32 × ST))  (S : ST) (p1 : Int32) : Option (Int32 × ST) :=
  match rec_X11_bothOf S p1 with
    | none => none
    | some (r3, S4) => (lfX11_testOf_130_6 x rec_X11_testOf rec_X11_bothOf rec_X11_plainOf rec_X11_positiveOf  20000 S4 p1 r3)
def grfX11_testOf_130 (x : XT) (rec_X11_testOf : ST → Int32 → Option (Int32 × ST)) (rec_X11_bothOf : ST → Int32 → Option (Int32 × ST)) (rec_X11_plainOf : ST → Int32 → Option (Int32 × ST)) (rec_X11_positiveOf : ST → Int32 → Option (Int32 × ST)) (S : ST) (p1 : Int32) : Option (Int32 × ST) := bfX11_testOf_130_0 x rec_X11_testOf rec_X11_bothOf rec_X11_plainOf rec_X11_positiveOf S p1
def bfX11_bothOf_130_46 (x : XT) (rec_X11_testOf : ST → Int32 → Option (Int32 × ST)) (rec_X11_bothOf : ST → Int32 → Option (Int32 × ST)) (rec_X11_plainOf : ST → Int32 → Option (Int32 × ST)) (rec_X11_positiveOf : ST → Int32 → Option (Int32 × ST)) (k6 : ST → Int32 → Int32 → Option (Int32 × ST)) (S : ST) (v1 : Int32) (t0 : Int32) : Option (Int32 × ST) :=
  k6 S v1 t0
def bfX11_bothOf_130_45 (x : XT) (rec_X11_testOf : ST → Int32 → Option (Int32 × ST)) (rec_X11_bothOf : ST → Int32 → Option (Int32 × ST)) (rec_X11_plainOf : ST → Int32 → Option (Int32 × ST)) (rec_X11_positiveOf : ST → Int32 → Option (Int32 × ST)) (k6 : ST → Int32 → Int32 → Option (Int32 × ST)) (S : ST) (v1 : Int32) : Option (Int32 × ST) :=
  bfX11_bothOf_130_46 x rec_X11_testOf rec_X11_bothOf rec_X11_plainOf rec_X11_positiveOf k6 S v1 0
def bfX11_bothOf_130_29 (x : XT) (rec_X11_testOf : ST → Int32 → Option (Int32 × ST)) (rec_X11_bothOf : ST → Int32 → Option (Int32 × ST)) (rec_X11_plainOf : ST → Int32 → Option (Int32 × ST)) (rec_X11_positiveOf : ST → Int32 → Option (Int32 × ST)) (k6 : ST → Int32 → Int32 → Option (Int32 × ST)) (S : ST) (v1 : Int32) (v2 : Int32) (t1 : Int32) : Option (Int32 × ST) :=
  match rec_X11_plainOf S t1 with
    | none => none
    | some (r3, S4) => (if v2 = 0 then (bfX11_bothOf_130_45 x rec_X11_testOf rec_X11_bothOf rec_X11_plainOf rec_X11_positiveOf k6 S4 v1) else (if r3 = 0 then (bfX11_bothOf_130_45 x rec_X11_testOf rec_X11_bothOf rec_X11_plainOf rec_X11_positiveOf k6 S4 v1) else (bfX11_bothOf_130_46 x rec_X11_testOf rec_X11_bothOf rec_X11_plainOf rec_X11_positiveOf k6 S4 v1 1)))
def bfX11_bothOf_130_28 (x : XT) (rec_X11_testOf : ST → Int32 → Option (Int32 × ST)) (rec_X11_bothOf : ST → Int32 → Option (Int32 × ST)) (rec_X11_plainOf : ST → Int32 → Option (Int32 × ST)) (rec_X11_positiveOf : ST → Int32 → Option (Int32 × ST)) (k6 : ST → Int32 → Int32 → Option (Int32 × ST)) (S : ST) (v1 : Int32) (v2 : Int32) : Option (Int32 × ST) :=
  bfX11_bothOf_130_29 x rec_X11_testOf rec_X11_bothOf rec_X11_plainOf rec_X11_positiveOf k6 S v1 v2 0
def bfX11_bothOf_130_6 (x : XT) (rec_X11_testOf : ST → Int32 → Option (Int32 × ST)) (rec_X11_bothOf : ST → Int32 → Option (Int32 × ST)) (rec_X11_plainOf : ST → Int32 → Option (Int32 × ST)) (rec_X11_positiveOf : ST → Int32 → Option (Int32 × ST)) (k6 : ST → Int32 → Int32 → Option (Int32 × ST)) (S : ST) (v1 : Int32) (v2 : Int32) : Option (Int32 × ST) :=
  match gfX11_passes0_130 x S 6 with
    | none => none
    | some (r3, S4) => (if r3 = 0 then (bif bbz v2 then (some (v2, S4)) else none) else (if v1 = 0 then (bfX11_bothOf_130_28 x rec_X11_testOf rec_X11_bothOf rec_X11_plainOf rec_X11_positiveOf k6 S4 v1 v2) else (if v2 = 0 then (bfX11_bothOf_130_28 x rec_X11_testOf rec_X11_bothOf rec_X11_plainOf rec_X11_positiveOf k6 S4 v1 v2) else (bfX11_bothOf_130_29 x rec_X11_testOf rec_X11_bothOf rec_X11_plainOf rec_X11_positiveOf k6 S4 v1 v2 1))))
def lfX11_bothOf_130_6 (x : XT) (rec_X11_testOf : ST → Int32 → Option (Int32 × ST)) (rec_X11_bothOf : ST → Int32 → Option (Int32 × ST)) (rec_X11_plainOf : ST → Int32 → Option (Int32 × ST)) (rec_X11_positiveOf : ST → Int32 → Option (Int32 × ST))  : Nat → ST → Int32 → Int32 → Option (Int32 × ST)
  | 0, _, _, _ => none
  | n + 1, S, v1, v2 => bfX11_bothOf_130_6 x rec_X11_testOf rec_X11_bothOf rec_X11_plainOf rec_X11_positiveOf (lfX11_bothOf_130_6 x rec_X11_testOf rec_X11_bothOf rec_X11_plainOf rec_X11_positiveOf  n) S v1 v2
def bfX11_bothOf_130_0 (x : XT) (rec_X11_testOf : ST → Int32 → Option (Int32 × ST)) (rec_X11_bothOf : ST → Int32 → Option (Int32 × ST)) (rec_X11_plainOf : ST → Int32 → Option (Int32 × ST)) (rec_X11_positiveOf : ST → Int32 → Option (Int32 × ST))  (S : ST) (p1 : Int32) : Option (Int32 × ST) :=
  match rec_X11_plainOf S p1 with
    | none => none
    | some (r3, S4) => (lfX11_bothOf_130_6 x rec_X11_testOf rec_X11_bothOf rec_X11_plainOf rec_X11_positiveOf  20000 S4 p1 r3)
def grfX11_bothOf_130 (x : XT) (rec_X11_testOf : ST → Int32 → Option (Int32 × ST)) (rec_X11_bothOf : ST → Int32 → Option (Int32 × ST)) (rec_X11_plainOf : ST → Int32 → Option (Int32 × ST)) (rec_X11_positiveOf : ST → Int32 → Option (Int32 × ST)) (S : ST) (p1 : Int32) : Option (Int32 × ST) := bfX11_bothOf_130_0 x rec_X11_testOf rec_X11_bothOf rec_X11_plainOf rec_X11_positiveOf S p1
def bfX11_plainOf_130_38 (x : XT) (rec_X11_testOf : ST → Int32 → Option (Int32 × ST)) (rec_X11_bothOf : ST → Int32 → Option (Int32 × ST)) (rec_X11_plainOf : ST → Int32 → Option (Int32 × ST)) (rec_X11_positiveOf : ST → Int32 → Option (Int32 × ST))  (S : ST) (t0 : Int32) : Option (Int32 × ST) :=
  bif bbz t0 then (some (t0, S)) else none
def bfX11_plainOf_130_20 (x : XT) (rec_X11_testOf : ST → Int32 → Option (Int32 × ST)) (rec_X11_bothOf : ST → Int32 → Option (Int32 × ST)) (rec_X11_plainOf : ST → Int32 → Option (Int32 × ST)) (rec_X11_positiveOf : ST → Int32 → Option (Int32 × ST)) (k2 : ST → Int32 → Int32 → Option (Int32 × ST)) (S : ST) (v1 : Int32) (t0 : Int32) : Option (Int32 × ST) :=
  k2 S v1 t0
def bfX11_plainOf_130_2 (x : XT) (rec_X11_testOf : ST → Int32 → Option (Int32 × ST)) (rec_X11_bothOf : ST → Int32 → Option (Int32 × ST)) (rec_X11_plainOf : ST → Int32 → Option (Int32 × ST)) (rec_X11_positiveOf : ST → Int32 → Option (Int32 × ST)) (k2 : ST → Int32 → Int32 → Option (Int32 × ST)) (S : ST) (v1 : Int32) (v2 : Int32) : Option (Int32 × ST) :=
  match gfX11_passes0_130 x S 7 with
    | none => none
    | some (r3, S4) => (if r3 = 0 then (match rec_X11_positiveOf S4 v1 with
    | none => none
    | some (r8, S9) => (if r8 = v2 then (bfX11_plainOf_130_38 x rec_X11_testOf rec_X11_bothOf rec_X11_plainOf rec_X11_positiveOf S9 0) else (bfX11_plainOf_130_38 x rec_X11_testOf rec_X11_bothOf rec_X11_plainOf rec_X11_positiveOf S9 1))) else (if ¬ v2 = 0 then (bfX11_plainOf_130_20 x rec_X11_testOf rec_X11_bothOf rec_X11_plainOf rec_X11_positiveOf k2 S4 v1 0) else (bfX11_plainOf_130_20 x rec_X11_testOf rec_X11_bothOf rec_X11_plainOf rec_X11_positiveOf k2 S4 v1 1)))
def lfX11_plainOf_130_2 (x : XT) (rec_X11_testOf : ST → Int32 → Option (Int32 × ST)) (rec_X11_bothOf : ST → Int32 → Option (Int32 × ST)) (rec_X11_plainOf : ST → Int32 → Option (Int32 × ST)) (rec_X11_positiveOf : ST → Int32 → Option (Int32 × ST))  : Nat → ST → Int32 → Int32 → Option (Int32 × ST)
  | 0, _, _, _ => none
  | n + 1, S, v1, v2 => bfX11_plainOf_130_2 x rec_X11_testOf rec_X11_bothOf rec_X11_plainOf rec_X11_positiveOf (lfX11_plainOf_130_2 x rec_X11_testOf rec_X11_bothOf rec_X11_plainOf rec_X11_positiveOf  n) S v1 v2
def bfX11_plainOf_130_0 (x : XT) (rec_X11_testOf : ST → Int32 → Option (Int32 × ST)) (rec_X11_bothOf : ST → Int32 → Option (Int32 × ST)) (rec_X11_plainOf : ST → Int32 → Option (Int32 × ST)) (rec_X11_positiveOf : ST → Int32 → Option (Int32 × ST))  (S : ST) (p1 : Int32) : Option (Int32 × ST) :=
  lfX11_plainOf_130_2 x rec_X11_testOf rec_X11_bothOf rec_X11_plainOf rec_X11_positiveOf  20000 S p1 0
def grfX11_plainOf_130 (x : XT) (rec_X11_testOf : ST → Int32 → Option (Int32 × ST)) (rec_X11_bothOf : ST → Int32 → Option (Int32 × ST)) (rec_X11_plainOf : ST → Int32 → Option (Int32 × ST)) (rec_X11_positiveOf : ST → Int32 → Option (Int32 × ST)) (S : ST) (p1 : Int32) : Option (Int32 × ST) := bfX11_plainOf_130_0 x rec_X11_testOf rec_X11_bothOf rec_X11_plainOf rec_X11_positiveOf S p1
def bfX11_positiveOf_130_126 (x : XT) (rec_X11_testOf : ST → Int32 → Option (Int32 × ST)) (rec_X11_bothOf : ST → Int32 → Option (Int32 × ST)) (rec_X11_plainOf : ST → Int32 → Option (Int32 × ST)) (rec_X11_positiveOf : ST → Int32 → Option (Int32 × ST))  (S : ST) (t0 : Int32) : Option (Int32 × ST) :=
  bif bbz t0 then (some (t0, S)) else none
def bfX11_positiveOf_130_125 (x : XT) (rec_X11_testOf : ST → Int32 → Option (Int32 × ST)) (rec_X11_bothOf : ST → Int32 → Option (Int32 × ST)) (rec_X11_plainOf : ST → Int32 → Option (Int32 × ST)) (rec_X11_positiveOf : ST → Int32 → Option (Int32 × ST))  (S : ST)  : Option (Int32 × ST) :=
  bfX11_positiveOf_130_126 x rec_X11_testOf rec_X11_bothOf rec_X11_plainOf rec_X11_positiveOf S 0
def bfX11_positiveOf_130_121 (x : XT) (rec_X11_testOf : ST → Int32 → Option (Int32 × ST)) (rec_X11_bothOf : ST → Int32 → Option (Int32 × ST)) (rec_X11_plainOf : ST → Int32 → Option (Int32 × ST)) (rec_X11_positiveOf : ST → Int32 → Option (Int32 × ST))  (S : ST)  : Option (Int32 × ST) :=
  bfX11_positiveOf_130_126 x rec_X11_testOf rec_X11_bothOf rec_X11_plainOf rec_X11_positiveOf S 1
def bfX11_positiveOf_130_0 (x : XT) (rec_X11_testOf : ST → Int32 → Option (Int32 × ST)) (rec_X11_bothOf : ST → Int32 → Option (Int32 × ST)) (rec_X11_plainOf : ST → Int32 → Option (Int32 × ST)) (rec_X11_positiveOf : ST → Int32 → Option (Int32 × ST))  (S : ST) (p1 : Int32) : Option (Int32 × ST) :=
  match gfX11_sign x S 40 with
    | none => none
    | some (r3, S4) => (match gfX11_passes0_130 x S4 r3 with
    | none => none
    | some (r7, S8) => (if r7 = 0 then (match gfX11_sumOf_130 x S8 p1 with
    | none => none
    | some (r12, S13) => (match gfX11_codeAt_130 x S13 (S13.1 130 22) with
    | none => none
    | some (r16, S17) => (match gfX11_sumOf_130 x ((u2 S17.1 130 22 ((S17.1 130 22) + 1)), S17.2.1, S17.2.2.1, S17.2.2.2) p1 with
    | none => none
    | some (r20, S21) => (if p1 = 0 then (bfX11_positiveOf_130_125 x rec_X11_testOf rec_X11_bothOf rec_X11_plainOf rec_X11_positiveOf S21) else (if ¬ (S21.1 130 24) = 0 then (bfX11_positiveOf_130_125 x rec_X11_testOf rec_X11_bothOf rec_X11_plainOf rec_X11_positiveOf S21) else (match gfX11_sign x S21 60 with
    | none => none
    | some (r26, S27) => (if ¬ r16 = r26 then (match gfX11_sign x S27 62 with
    | none => none
    | some (r31, S32) => (if ¬ r16 = r31 then (if ¬ (lg_cmp r12 r20) = 0 then (bfX11_positiveOf_130_125 x rec_X11_testOf rec_X11_bothOf rec_X11_plainOf rec_X11_positiveOf S32) else (bfX11_positiveOf_130_121 x rec_X11_testOf rec_X11_bothOf rec_X11_plainOf rec_X11_positiveOf S32)) else (if (lg_cmp r12 r20) ≤ 0 then (bfX11_positiveOf_130_125 x rec_X11_testOf rec_X11_bothOf rec_X11_plainOf rec_X11_positiveOf S32) else (bfX11_positiveOf_130_121 x rec_X11_testOf rec_X11_bothOf rec_X11_plainOf rec_X11_positiveOf S32)))) else (if 0 ≤ (lg_cmp r12 r20) then (bfX11_positiveOf_130_125 x rec_X11_testOf rec_X11_bothOf rec_X11_plainOf rec_X11_positiveOf S27) else (bfX11_positiveOf_130_121 x rec_X11_testOf rec_X11_bothOf rec_X11_plainOf rec_X11_positiveOf S27))))))))) else (match rec_X11_testOf S8 p1 with
    | none => none
    | some (r39, S40) => (bif bbz r39 then (some (r39, ((u2 S40.1 130 22 ((S40.1 130 22) + 1)), S40.2.1, S40.2.2.1, S40.2.2.2))) else none))))
def grfX11_positiveOf_130 (x : XT) (rec_X11_testOf : ST → Int32 → Option (Int32 × ST)) (rec_X11_bothOf : ST → Int32 → Option (Int32 × ST)) (rec_X11_plainOf : ST → Int32 → Option (Int32 × ST)) (rec_X11_positiveOf : ST → Int32 → Option (Int32 × ST)) (S : ST) (p1 : Int32) : Option (Int32 × ST) := bfX11_positiveOf_130_0 x rec_X11_testOf rec_X11_bothOf rec_X11_plainOf rec_X11_positiveOf S p1
def gqX11_testOf_130 (x : XT) : Nat → Nat → ST → Int32 → Int32 → Option (Int32 × ST)
  | 0, _, _, _, _ => none
  | n + 1, tag, S, a, b => bif Nat.beq tag 0 then grfX11_testOf_130 x (fun S z0 => gqX11_testOf_130 x n 0 S z0 0) (fun S z0 => gqX11_testOf_130 x n 1 S z0 0) (fun S z0 => gqX11_testOf_130 x n 2 S z0 0) (fun S z0 => gqX11_testOf_130 x n 3 S z0 0) S a else (bif Nat.beq tag 1 then grfX11_bothOf_130 x (fun S z0 => gqX11_testOf_130 x n 0 S z0 0) (fun S z0 => gqX11_testOf_130 x n 1 S z0 0) (fun S z0 => gqX11_testOf_130 x n 2 S z0 0) (fun S z0 => gqX11_testOf_130 x n 3 S z0 0) S a else (bif Nat.beq tag 2 then grfX11_plainOf_130 x (fun S z0 => gqX11_testOf_130 x n 0 S z0 0) (fun S z0 => gqX11_testOf_130 x n 1 S z0 0) (fun S z0 => gqX11_testOf_130 x n 2 S z0 0) (fun S z0 => gqX11_testOf_130 x n 3 S z0 0) S a else (bif Nat.beq tag 3 then grfX11_positiveOf_130 x (fun S z0 => gqX11_testOf_130 x n 0 S z0 0) (fun S z0 => gqX11_testOf_130 x n 1 S z0 0) (fun S z0 => gqX11_testOf_130 x n 2 S z0 0) (fun S z0 => gqX11_testOf_130 x n 3 S z0 0) S a else (none))))
def gfX11_testOf_130 (x : XT) (S : ST) (p1 : Int32) : Option (Int32 × ST) := gqX11_testOf_130 x 60 0 S p1 0
def gfX11_bothOf_130 (x : XT) (S : ST) (p1 : Int32) : Option (Int32 × ST) := gqX11_testOf_130 x 60 1 S p1 0
def gfX11_plainOf_130 (x : XT) (S : ST) (p1 : Int32) : Option (Int32 × ST) := gqX11_testOf_130 x 60 2 S p1 0
def gfX11_positiveOf_130 (x : XT) (S : ST) (p1 : Int32) : Option (Int32 × ST) := gqX11_testOf_130 x 60 3 S p1 0
def bfX11_tells_130_199 (x : XT) (k61 : ST → Int32 → Int32 → Int64 → Option (Int32 × ST)) (S : ST) (v1 : Int32) (v2 : Int32) (v4 : Int64) : Option (Int32 × ST) :=
  k61 ((u2 S.1 130 22 ((S.1 130 22) + 1)), S.2.1, S.2.2.1, S.2.2.2) v1 v2 v4
def bfX11_tells_130_197 (x : XT) (k61 : ST → Int32 → Int32 → Int64 → Option (Int32 × ST)) (S : ST) (v1 : Int32) (v2 : Int32) (t0 : Int64) : Option (Int32 × ST) :=
  bfX11_tells_130_199 x k61 S v1 v2 t0
def bfX11_tells_130_146 (x : XT) (k61 : ST → Int32 → Int32 → Int64 → Option (Int32 × ST)) (S : ST) (v1 : Int32) (v2 : Int32) (v4 : Int64) (v6 : Int32) (v7 : Int64) (v9 : Int32) (t0 : Int32) : Option (Int32 × ST) :=
  if ¬ v6 = v1 then (bfX11_tells_130_199 x k61 S v1 v2 v4) else (if t0 = 0 then (bfX11_tells_130_199 x k61 S v1 v2 v4) else (if ¬ (S.1 130 24) = 0 then (bfX11_tells_130_199 x k61 S v1 v2 v4) else (if ¬ v9 = 0 then (bfX11_tells_130_199 x k61 S v1 v2 v4) else (if 0 ≤ (lg_cmp v7 0) then (if (lg_cmp v7 v2.toInt64) ≤ 0 then (bfX11_tells_130_197 x k61 S v1 v2 v7) else (bfX11_tells_130_197 x k61 S v1 v2 v2.toInt64)) else (bfX11_tells_130_197 x k61 S v1 v2 0)))))
def bfX11_tells_130_141 (x : XT) (k61 : ST → Int32 → Int32 → Int64 → Option (Int32 × ST)) (S : ST) (v1 : Int32) (v2 : Int32) (v4 : Int64) (v6 : Int32) (v7 : Int64) (v9 : Int32) : Option (Int32 × ST) :=
  bfX11_tells_130_146 x k61 S v1 v2 v4 v6 v7 v9 1
def bfX11_tells_130_112 (x : XT) (k61 : ST → Int32 → Int32 → Int64 → Option (Int32 × ST)) (S : ST) (v1 : Int32) (v2 : Int32) (v4 : Int64) (v6 : Int32) (t0 : Int64) : Option (Int32 × ST) :=
  match gfX11_passes0_130 x ((u2 S.1 130 24 0), S.2.1, S.2.2.1, S.2.2.2) 4 with
    | none => none
    | some (r3, S4) => (if r3 = 0 then (bfX11_tells_130_141 x k61 S4 v1 v2 v4 v6 t0 (S.1 130 24)) else (match gfX11_testOf_130 x S4 1 with
    | none => none
    | some (r8, S9) => (if r8 = 0 then (bfX11_tells_130_146 x k61 S9 v1 v2 v4 v6 t0 (S.1 130 24) 0) else (bfX11_tells_130_141 x k61 S9 v1 v2 v4 v6 t0 (S.1 130 24)))))
def bfX11_tells_130_61 (x : XT) (k61 : ST → Int32 → Int32 → Int64 → Option (Int32 × ST)) (S : ST) (v1 : Int32) (v2 : Int32) (v4 : Int64) : Option (Int32 × ST) :=
  if (S.1 130 23) ≤ (S.1 130 22) then (some (v4.toInt32, S)) else (match gfX11_codeAt_130 x S (S.1 130 22) with
    | none => none
    | some (r4, S5) => (if ¬ r4 = 3 then (match gfX11_sumOf_130 x ((u2 (u2 S5.1 130 24 0) 130 22 ((S5.1 130 22) + 1)), S5.2.1, S5.2.2.1, S5.2.2.2) 1 with
    | none => none
    | some (r9, S10) => (bfX11_tells_130_112 x k61 S10 v1 v2 v4 r4 r9)) else (bfX11_tells_130_112 x k61 ((u2 (u2 S5.1 130 24 0) 130 22 ((S5.1 130 22) + 1)), S5.2.1, S5.2.2.1, S5.2.2.2) v1 v2 v4 r4 1)))
def lfX11_tells_130_61 (x : XT)  : Nat → ST → Int32 → Int32 → Int64 → Option (Int32 × ST)
  | 0, _, _, _, _ => none
  | n + 1, S, v1, v2, v4 => bfX11_tells_130_61 x (lfX11_tells_130_61 x  n) S v1 v2 v4
def bfX11_tells_130_0 (x : XT)  (S : ST) (p1 : Int32) (p2 : Int32) (p3 : Int32) : Option (Int32 × ST) :=
  if ¬ (S.2.1 132 95) = (-1) then (bif inb (96 + (S.2.1 132 95)) 5703 then (lfX11_tells_130_61 x  20000 ((u2 (u2 (u2 S.1 130 25 0) 130 22 (400 * (S.2.1 132 95))) 130 23 ((400 * (S.2.1 132 95)) + (S.2.1 132 ((96 + (S.2.1 132 95)).toNatClampNeg)))), S.2.1, S.2.2.1, S.2.2.2) p1 p2 p3.toInt64) else none) else (some (p3, S))
def gfX11_tells_130 (x : XT) (S : ST) (p1 : Int32) (p2 : Int32) (p3 : Int32) : Option (Int32 × ST) := bfX11_tells_130_0 x S p1 p2 p3
def bfX11_isBarredNow_130_16 (x : XT)  (S : ST) (t0 : Int32) : Option (Int32 × ST) :=
  bif bbz t0 then (some (t0, S)) else none
def bfX11_isBarredNow_130_0 (x : XT)  (S : ST)  : Option (Int32 × ST) :=
  match gfX11_tells_130 x S 3 1 0 with
    | none => none
    | some (r3, S4) => (if ¬ r3 = 1 then (bfX11_isBarredNow_130_16 x S4 0) else (bfX11_isBarredNow_130_16 x S4 1))
def gfX11_isBarredNow_130 (x : XT) (S : ST)  : Option (Int32 × ST) := bfX11_isBarredNow_130_0 x S 
def bfX11_canGo_130_32 (x : XT)  (S : ST)  : Option (Int32 × ST) :=
  some (0, S)
def bfX11_canGo_130_60 (x : XT)  (S : ST) (t0 : Int32) : Option (Int32 × ST) :=
  bif bbz t0 then (some (t0, S)) else none
def bfX11_canGo_130_0 (x : XT)  (S : ST) (p1 : Int32) (p2 : Int32) : Option (Int32 × ST) :=
  bif inb (36 + p2) 5703 then (bif inb (0 + p1) 5703 then (if ¬ (S.2.1 132 ((36 + p2).toNatClampNeg)) = (S.2.1 132 ((0 + p1).toNatClampNeg)) then (bfX11_canGo_130_32 x S) else (bif inb (25 + p2) 5703 then (if ¬ (S.2.1 132 ((25 + p2).toNatClampNeg)) = 0 then (bif inb (5 + p1) 5703 then (match gfX11_setsGate_130 x S p1 p2 (S.2.1 132 ((5 + p1).toNatClampNeg)) with
    | none => none
    | some (r9, S10) => (match gfX11_isBarredNow_130 x S10 with
    | none => none
    | some (r13, S14) => (if ¬ r13 = 0 then (bfX11_canGo_130_60 x S14 0) else (bfX11_canGo_130_60 x S14 1)))) else none) else (bfX11_canGo_130_32 x S)) else none)) else none) else none
def gfX11_canGo_130 (x : XT) (S : ST) (p1 : Int32) (p2 : Int32) : Option (Int32 × ST) := bfX11_canGo_130_0 x S p1 p2
def bfX11_gatesOf_130_29 (x : XT) (k4 : ST → Int32 → Int32 → Int32 → Option (Int32 × ST)) (S : ST) (v1 : Int32) (v3 : Int32) (t0 : Int32) (t1 : Int32) : Option (Int32 × ST) :=
  k4 S v1 (t0 ||| t1) (v3 + 1)
def bfX11_gatesOf_130_4 (x : XT) (k4 : ST → Int32 → Int32 → Int32 → Option (Int32 × ST)) (S : ST) (v1 : Int32) (v2 : Int32) (v3 : Int32) : Option (Int32 × ST) :=
  match gfX11_gateMany_130 x S with
    | none => none
    | some (r3, S4) => (if r3 ≤ v3 then (some (v2, S4)) else (match gfX11_canGo_130 x S4 v1 v3 with
    | none => none
    | some (r8, S9) => (if r8 = 0 then (bfX11_gatesOf_130_29 x k4 S9 v1 v3 v2 0) else (bfX11_gatesOf_130_29 x k4 S9 v1 v3 v2 (1 <<< (v3 &&& 31))))))
def lfX11_gatesOf_130_4 (x : XT)  : Nat → ST → Int32 → Int32 → Int32 → Option (Int32 × ST)
  | 0, _, _, _, _ => none
  | n + 1, S, v1, v2, v3 => bfX11_gatesOf_130_4 x (lfX11_gatesOf_130_4 x  n) S v1 v2 v3
def bfX11_gatesOf_130_0 (x : XT)  (S : ST) (p1 : Int32) : Option (Int32 × ST) :=
  lfX11_gatesOf_130_4 x  20000 S p1 0 0
def gfX11_gatesOf_130 (x : XT) (S : ST) (p1 : Int32) : Option (Int32 × ST) := bfX11_gatesOf_130_0 x S p1
def bfX11_of_130_0 (x : XT)  (S : ST) (p1 : Int32) (p2 : Int32) : Option (Int32 × ST) :=
  match gfX11_isGoer_130 x S p1 with
    | none => none
    | some (r3, S4) => (if ¬ r3 = 0 then (if p2 = 0 then (bif inb (0 + p1) 5703 then (some ((S4.2.1 132 ((0 + p1).toNatClampNeg)), S4)) else none) else (if p2 = 1 then (bif inb (5 + p1) 5703 then (some ((S4.2.1 132 ((5 + p1).toNatClampNeg)), S4)) else none) else (if p2 = 2 then (bif inb (66 + p1) 5703 then (some ((S4.2.1 132 ((66 + p1).toNatClampNeg)), S4)) else none) else (if p2 = 3 then (bif inb (10 + p1) 5703 then (some ((S4.2.1 132 ((10 + p1).toNatClampNeg)), S4)) else none) else (if p2 = 4 then (match gfX11_gatesOf_130 x S4 p1 with
    | none => none
    | some (r17, S18) => (some (r17, S18))) else (some ((-1), S4))))))) else (some ((-1), S4)))
def gfX11_of_130 (x : XT) (S : ST) (p1 : Int32) (p2 : Int32) : Option (Int32 × ST) := bfX11_of_130_0 x S p1 p2
def bfX11_turnsNow_130_0 (x : XT)  (S : ST)  : Option (Int32 × ST) :=
  match gfX11_greater x S 0 ((S.2.1 142 6) - 1) with
    | none => none
    | some (r3, S4) => (match gfX11_tells_130 x S4 1 19 r3 with
    | none => none
    | some (r7, S8) => (some (r7, S8)))
def gfX11_turnsNow_130 (x : XT) (S : ST)  : Option (Int32 × ST) := bfX11_turnsNow_130_0 x S 
def bfX11_paysNow_130_0 (x : XT)  (S : ST)  : Option (Int32 × ST) :=
  match gfX11_tells_130 x S 2 9 1 with
    | none => none
    | some (r3, S4) => (some (r3, S4))
def gfX11_paysNow_130 (x : XT) (S : ST)  : Option (Int32 × ST) := bfX11_paysNow_130_0 x S 
def bfX11_asks_130_23 (x : XT)  (S : ST)  : Option (Int32 × ST) :=
  some ((-1), S)
def bfX11_asks_130_82 (x : XT)  (S : ST) (t0 : Int32) : Option (Int32 × ST) :=
  some (t0, S)
def bfX11_asks_130_0 (x : XT)  (S : ST) (p1 : Int32) (p2 : Int32) (p3 : Int32) (p4 : Int32) : Option (Int32 × ST) :=
  match gfX11_isGoer_130 x S p1 with
    | none => none
    | some (r3, S4) => (if r3 = 0 then (bfX11_asks_130_23 x S4) else (match gfX11_isGate_130 x S4 p2 with
    | none => none
    | some (r8, S9) => (if r8 = 0 then (bfX11_asks_130_23 x S9) else (match gfX11_isMany x S9 p3 with
    | none => none
    | some (r13, S14) => (if ¬ r13 = 0 then (match gfX11_setsGate_130 x S14 p1 p2 p3 with
    | none => none
    | some (r18, S19) => (if p4 = 0 then (match gfX11_turnsNow_130 x S19 with
    | none => none
    | some (r23, S24) => (some (r23, S24))) else (if p4 = 1 then (match gfX11_paysNow_130 x S19 with
    | none => none
    | some (r28, S29) => (some (r28, S29))) else (if p4 = 2 then (match gfX11_isBarredNow_130 x S19 with
    | none => none
    | some (r33, S34) => (if r33 = 0 then (bfX11_asks_130_82 x S34 0) else (bfX11_asks_130_82 x S34 1))) else (some ((-1), S19)))))) else (bfX11_asks_130_23 x S14))))))
def gfX11_asks_130 (x : XT) (S : ST) (p1 : Int32) (p2 : Int32) (p3 : Int32) (p4 : Int32) : Option (Int32 × ST) := bfX11_asks_130_0 x S p1 p2 p3 p4
def bfX11_isTerm_0 (x : XT)  (S : ST) (p0 : Int32) (p1 : Int32) : Option (Int32 × ST) :=
  if p0 = 0 then (match gfX11_lies x S p1 0 999 with
    | none => none
    | some (r4, S5) => (bif bbz r4 then (some (r4, S5)) else none)) else (if p0 = 1 then (match gfX11_lies x S p1 0 10 with
    | none => none
    | some (r10, S11) => (bif bbz r10 then (some (r10, S11)) else none)) else (if p0 = 2 then (match gfX11_lies x S p1 0 9 with
    | none => none
    | some (r16, S17) => (bif bbz r16 then (some (r16, S17)) else none)) else (some (0, S))))
def gfX11_isTerm (x : XT) (S : ST) (p0 : Int32) (p1 : Int32) : Option (Int32 × ST) := bfX11_isTerm_0 x S p0 p1
def bfX11_termAt_21 (x : XT)  (S : ST) (t0 : Int32) : Option (Int32 × ST) :=
  some (t0, S)
def bfX11_termAt_0 (x : XT)  (S : ST) (p0 : Int32) : Option (Int32 × ST) :=
  if ¬ p0 = 0 then (if ¬ p0 = 1 then (bfX11_termAt_21 x S 90) else (bfX11_termAt_21 x S 89)) else (bfX11_termAt_21 x S 35)
def gfX11_termAt (x : XT) (S : ST) (p0 : Int32) : Option (Int32 × ST) := bfX11_termAt_0 x S p0
def bfX11_terms_130_0 (x : XT)  (S : ST) (p1 : Int32) (p2 : Int32) : Option (Int32 × ST) :=
  match gfX11_isTerm x S p1 p2 with
    | none => none
    | some (r3, S4) => (if ¬ r3 = 0 then (match gfX11_termAt x S4 p1 with
    | none => none
    | some (r8, S9) => (bif inb r8 5703 then (match gfX11_termAt x S9 p1 with
    | none => none
    | some (r13, S14) => (bif inb r13 5703 then (match gfX11_settled_130 x (S14.1, (u2 S14.2.1 132 r13.toNatClampNeg p2), S14.2.2.1, S14.2.2.2) (S9.2.1 132 r8.toNatClampNeg) with
    | none => none
    | some (r18, S19) => (some (r18, S19))) else none)) else none)) else (match gfX11_refuses_130 x S4 (-1) with
    | none => none
    | some (r22, S23) => (some (r22, S23))))
def gfX11_terms_130 (x : XT) (S : ST) (p1 : Int32) (p2 : Int32) : Option (Int32 × ST) := bfX11_terms_130_0 x S p1 p2
def bfX11_row_130_166 (x : XT) (k40 : ST → Int32 → Int32 → Int32 → Option (Int32 × ST)) (S : ST) (v1 : Int32) (v2 : Int32) (v3 : Int32) (t1 : Int32) (t2 : Int32) : Option (Int32 × ST) :=
  k40 ((u2 S.1 130 6 (t1 + t2)), S.2.1, S.2.2.1, S.2.2.2) v1 v2 (v3 + 4)
def bfX11_row_130_149 (x : XT) (k40 : ST → Int32 → Int32 → Int32 → Option (Int32 × ST)) (S : ST) (v1 : Int32) (v3 : Int32) (v4 : Int32) (t0 : Int32) (t1 : Int32) : Option (Int32 × ST) :=
  if v4 = 0 then (bfX11_row_130_166 x k40 S v1 (t0 + t1) v3 (S.1 130 6) 1) else (bfX11_row_130_166 x k40 S v1 (t0 + t1) v3 (S.1 130 6) 0)
def bfX11_row_130_138 (x : XT) (k40 : ST → Int32 → Int32 → Int32 → Option (Int32 × ST)) (S : ST) (v1 : Int32) (v2 : Int32) (v3 : Int32) (v4 : Int32) : Option (Int32 × ST) :=
  if v4 = 0 then (bfX11_row_130_149 x k40 S v1 v3 v4 v2 0) else (bfX11_row_130_149 x k40 S v1 v3 v4 v2 1)
def bfX11_row_130_97 (x : XT) (k40 : ST → Int32 → Int32 → Int32 → Option (Int32 × ST)) (S : ST) (v1 : Int32) (v2 : Int32) (v3 : Int32) (t0 : Int32) : Option (Int32 × ST) :=
  if t0 = 0 then (bfX11_row_130_138 x k40 S v1 v2 v3 t0) else (bif inb v3 400 then (bif inb (v3 + 1) 400 then (bif inb (v3 + 2) 400 then (bif inb (v3 + 3) 400 then (match gfX11_adds_130 x S (S.2.1 137 v3.toNatClampNeg) (S.2.1 137 ((v3 + 1).toNatClampNeg)) (S.2.1 137 ((v3 + 2).toNatClampNeg)) (S.2.1 137 ((v3 + 3).toNatClampNeg)) with
    | none => none
    | some (r8, S9) => (bfX11_row_130_138 x k40 S9 v1 v2 v3 t0)) else none) else none) else none) else none)
def bfX11_row_130_96 (x : XT) (k40 : ST → Int32 → Int32 → Int32 → Option (Int32 × ST)) (S : ST) (v1 : Int32) (v2 : Int32) (v3 : Int32) : Option (Int32 × ST) :=
  bfX11_row_130_97 x k40 S v1 v2 v3 0
def bfX11_row_130_40 (x : XT) (k40 : ST → Int32 → Int32 → Int32 → Option (Int32 × ST)) (S : ST) (v1 : Int32) (v2 : Int32) (v3 : Int32) : Option (Int32 × ST) :=
  if v1 < (v3 + 4) then (match gfX11_settled_130 x S v2 with
    | none => none
    | some (r4, S5) => (some (r4, S5))) else (match gfX11_gateMany_130 x S with
    | none => none
    | some (r8, S9) => (if 10 ≤ r8 then (bfX11_row_130_96 x k40 S9 v1 v2 v3) else (bif inb v3 400 then (bif inb (v3 + 1) 400 then (bif inb (v3 + 2) 400 then (bif inb (v3 + 3) 400 then (match gfX11_canGate x S9 (S9.2.1 137 v3.toNatClampNeg) (S9.2.1 137 ((v3 + 1).toNatClampNeg)) (S9.2.1 137 ((v3 + 2).toNatClampNeg)) (S9.2.1 137 ((v3 + 3).toNatClampNeg)) with
    | none => none
    | some (r17, S18) => (if r17 = 0 then (bfX11_row_130_96 x k40 S18 v1 v2 v3) else (bfX11_row_130_97 x k40 S18 v1 v2 v3 1))) else none) else none) else none) else none)))
def lfX11_row_130_40 (x : XT)  : Nat → ST → Int32 → Int32 → Int32 → Option (Int32 × ST)
  | 0, _, _, _, _ => none
  | n + 1, S, v1, v2, v3 => bfX11_row_130_40 x (lfX11_row_130_40 x  n) S v1 v2 v3
def bfX11_row_130_35 (x : XT)  (S : ST) (v1 : Int32) (v2 : Int32) (t1 : Int32) : Option (Int32 × ST) :=
  lfX11_row_130_40 x  20000 ((u2 S.1 130 6 t1), S.2.1, S.2.2.1, S.2.2.2) v1 v2 0
def bfX11_row_130_0 (x : XT)  (S : ST)  : Option (Int32 × ST) :=
  if ¬ (S.1 130 13) = 0 then (if ¬ ((S.1 130 13) - (S.1 130 13) / 4 * 4) = 0 then (bfX11_row_130_35 x ((u2 S.1 130 13 0), S.2.1, S.2.2.1, S.2.2.2) (S.1 130 13) 0 1) else (bfX11_row_130_35 x ((u2 S.1 130 13 0), S.2.1, S.2.2.1, S.2.2.2) (S.1 130 13) 0 0)) else (match gfX11_refuses_130 x ((u2 S.1 130 13 0), S.2.1, S.2.2.1, S.2.2.2) (-6) with
    | none => none
    | some (r5, S6) => (some (r5, S6)))
def gfX11_row_130 (x : XT) (S : ST)  : Option (Int32 × ST) := bfX11_row_130_0 x S 
def bfX11_rust_130_0 (x : XT)  (S : ST)  : Option (Int32 × ST) :=
  some ((S.1 130 6), S)
def gfX11_rust_130 (x : XT) (S : ST)  : Option (Int32 × ST) := bfX11_rust_130_0 x S 
def bfX11_feed_130_55 (x : XT) (k55 : ST → Int32 → Option (Int32 × ST)) (S : ST) (v6 : Int32) : Option (Int32 × ST) :=
  if 20 ≤ v6 then (some ((S.1 130 13) + 20, ((u2 S.1 130 13 ((S.1 130 13) + 20)), S.2.1, S.2.2.1, S.2.2.2))) else (bif inb (v6 / 4) 5 then (bif inb ((S.1 130 13) + v6) 400 then (k55 (S.1, (u2 S.2.1 137 (((S.1 130 13) + v6).toNatClampNeg) ((((S.2.1 138 ((v6 / 4).toNatClampNeg)) >>> ((24 - (8 * (v6 - v6 / 4 * 4))) &&& 31)).toInt8.toInt32).toInt8.toInt32)), S.2.2.1, S.2.2.2) (v6 + 1)) else none) else none)
def lfX11_feed_130_55 (x : XT)  : Nat → ST → Int32 → Option (Int32 × ST)
  | 0, _, _ => none
  | n + 1, S, v6 => bfX11_feed_130_55 x (lfX11_feed_130_55 x  n) S v6
end DEFS
