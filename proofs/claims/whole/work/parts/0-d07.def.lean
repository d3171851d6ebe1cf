section DEFS
def gfX11_goesAlong_130 (x : XT) (S : ST) (p1 : Int32) (p2 : Int32) : Option (Unit × ST) := bfX11_goesAlong_130_0 x S p1 p2
def bfX11_small_20 (x : XT)  (S : ST) (t0 : Int32) : Option (Int32 × ST) :=
  some (t0, S)
def bfX11_small_14 (x : XT)  (S : ST)  : Option (Int32 × ST) :=
  bfX11_small_20 x S (-1)
def bfX11_small_0 (x : XT)  (S : ST) (p0 : Int64) : Option (Int32 × ST) :=
  if (lg_cmp p0 0) < 0 then (bfX11_small_14 x S) else (if (lg_cmp p0 1000000) ≤ 0 then (bfX11_small_20 x S p0.toInt32) else (bfX11_small_14 x S))
def gfX11_small (x : XT) (S : ST) (p0 : Int64) : Option (Int32 × ST) := bfX11_small_0 x S p0
def bfX11_obeys_130_98 (x : XT)  (S : ST) (v2 : Int32) (t1 : Int32) : Option (Int32 × ST) :=
  some (v2, ((u2 S.1 130 28 t1), S.2.1, S.2.2.1, S.2.2.2))
def bfX11_obeys_130_0 (x : XT)  (S : ST)  : Option (Int32 × ST) :=
  match gfX11_small x S (S.2.2.1 156 0) with
    | none => none
    | some (r3, S4) => (if (S4.1 130 46) = 22 then (match gfX11_latchesKept_130 x S4 r3 with
    | none => none
    | some (r8, S9) => (some (r8, S9))) else (if (S4.1 130 46) = 23 then (match gfX11_small x S4 (S4.2.2.1 156 1) with
    | none => none
    | some (r13, S14) => (match gfX11_setsKept_130 x S14 r3 r13 with
    | none => none
    | some (r17, S18) => (some (r17, S18)))) else (if (S4.1 130 46) = 24 then (match gfX11_small x S4 (S4.2.2.1 156 1) with
    | none => none
    | some (r22, S23) => (match gfX11_goesKept_130 x S23 r3 r22 with
    | none => none
    | some (r26, S27) => (if 0 ≤ r26 then (bfX11_obeys_130_98 x S27 r26 r26) else (bfX11_obeys_130_98 x S27 r26 (S27.1 130 28))))) else (if (S4.1 130 46) = 25 then (match gfX11_passesKept_130 x S4 with
    | none => none
    | some (r32, S33) => (some (r32, S33))) else (match gfX11_small x S4 (S4.2.2.1 156 1) with
    | none => none
    | some (r36, S37) => (match gfX11_goesKept_130 x S37 r3 r36 with
    | none => none
    | some (r40, S41) => (if 0 ≤ r40 then (bfX11_obeys_130_98 x S41 r40 r40) else (bfX11_obeys_130_98 x S41 r40 (S41.1 130 28)))))))))
def gfX11_obeys_130 (x : XT) (S : ST)  : Option (Int32 × ST) := bfX11_obeys_130_0 x S 
def bfX11_runs_130_55 (x : XT)  (S : ST)  : Option (Int32 × ST) :=
  some (0, S)
def bfX11_runs_130_67 (x : XT) (k19 : ST → Int32 → Int32 → Int32 → Int32 → Option (Int32 × ST)) (S : ST) (v1 : Int32) (v2 : Int32) (v3 : Int32) (v4 : Int32) : Option (Int32 × ST) :=
  k19 S v1 v2 v3 (v4 + 1)
def bfX11_runs_130_19 (x : XT) (k19 : ST → Int32 → Int32 → Int32 → Int32 → Option (Int32 × ST)) (S : ST) (v1 : Int32) (v2 : Int32) (v3 : Int32) (v4 : Int32) : Option (Int32 × ST) :=
  if v2 ≤ v4 then (some (1, ((u2 S.1 130 44 v3), S.2.1, S.2.2.1, S.2.2.2))) else (match gfX11_goesAlong_130 x S v1 1 with
    | none => none
    | some (r4, S5) => (if ¬ (S5.1 130 48) = 0 then (if (S5.1 130 47) = 0 then (bfX11_runs_130_55 x S5) else (match gfX11_obeys_130 x S5 with
    | none => none
    | some (r10, S11) => (if 0 ≤ r10 then (bfX11_runs_130_67 x k19 ((u2 S11.1 130 27 ((S11.1 130 27) + 1)), S11.2.1, S11.2.2.1, S11.2.2.2) v1 v2 v3 v4) else (bfX11_runs_130_55 x S11)))) else (bfX11_runs_130_67 x k19 S5 v1 v2 v3 v4)))
def lfX11_runs_130_19 (x : XT)  : Nat → ST → Int32 → Int32 → Int32 → Int32 → Option (Int32 × ST)
  | 0, _, _, _, _, _ => none
  | n + 1, S, v1, v2, v3, v4 => bfX11_runs_130_19 x (lfX11_runs_130_19 x  n) S v1 v2 v3 v4
def bfX11_runs_130_0 (x : XT)  (S : ST) (p1 : Int32) : Option (Int32 × ST) :=
  match gfX11_goesAlong_130 x S p1 0 with
    | none => none
    | some (r3, S4) => (lfX11_runs_130_19 x  20000 S4 p1 (S4.1 130 45) (S4.1 130 22) 0)
def gfX11_runs_130 (x : XT) (S : ST) (p1 : Int32) : Option (Int32 × ST) := bfX11_runs_130_0 x S p1
def bfX11_orders_130_122 (x : XT) (k122 : ST → Int32 → Int32 → Int32 → Option (Int32 × ST)) (S : ST) (v1 : Int32) (v3 : Int32) (v4 : Int32) : Option (Int32 × ST) :=
  if 592 ≤ v4 then (match gfX11_refuses_130 x ((u2 (u2 S.1 130 31 v1) 130 43 v3), S.2.1, S.2.2.1, S.2.2.2) (-3) with
    | none => none
    | some (r4, S5) => (some (r4, S5))) else (bif inb v4 592 then (bif inb v4 592 then (k122 (S.1, (u2 S.2.1 143 v4.toNatClampNeg (S.2.1 144 v4.toNatClampNeg)), S.2.2.1, S.2.2.2) v1 v3 (v4 + 1)) else none) else none)
def lfX11_orders_130_122 (x : XT)  : Nat → ST → Int32 → Int32 → Int32 → Option (Int32 × ST)
  | 0, _, _, _, _ => none
  | n + 1, S, v1, v3, v4 => bfX11_orders_130_122 x (lfX11_orders_130_122 x  n) S v1 v3 v4
def bfX11_orders_130_95 (x : XT) (k95 : ST → Int32 → Int32 → Int32 → Option (Int32 × ST)) (S : ST) (v1 : Int32) (v2 : Int32) (v3 : Int32) : Option (Int32 × ST) :=
  if v2 ≤ (S.1 130 44) then (match gfX11_good_130 x S (S.1 130 27) with
    | none => none
    | some (r4, S5) => (some (r4, S5))) else (match gfX11_runs_130 x S v2 with
    | none => none
    | some (r8, S9) => (if r8 = 0 then (match gfX11_takesBack_130 x S9 1 with
    | none => none
    | some (r13, S14) => (lfX11_orders_130_122 x  20000 S14 v1 v3 0)) else (k95 S9 v1 v2 (v3 + 1))))
def lfX11_orders_130_95 (x : XT)  : Nat → ST → Int32 → Int32 → Int32 → Option (Int32 × ST)
  | 0, _, _, _, _ => none
  | n + 1, S, v1, v2, v3 => bfX11_orders_130_95 x (lfX11_orders_130_95 x  n) S v1 v2 v3
def bfX11_orders_130_27 (x : XT) (k27 : ST → Int32 → Option (Int32 × ST)) (S : ST) (v1 : Int32) : Option (Int32 × ST) :=
  if 592 ≤ v1 then (match gfX11_lays_130 x S 6 with
    | none => none
    | some (r4, S5) => (lfX11_orders_130_95 x  20000 ((u2 (u2 (u2 S5.1 130 27 0) 130 28 (-1)) 130 44 2400), S5.2.1, S5.2.2.1, S5.2.2.2) (S.1 130 31) (2400 + (S5.2.1 132 102)) 0)) else (bif inb v1 592 then (bif inb v1 592 then (k27 (S.1, (u2 S.2.1 144 v1.toNatClampNeg (S.2.1 143 v1.toNatClampNeg)), S.2.2.1, S.2.2.2) (v1 + 1)) else none) else none)
def lfX11_orders_130_27 (x : XT)  : Nat → ST → Int32 → Option (Int32 × ST)
  | 0, _, _ => none
  | n + 1, S, v1 => bfX11_orders_130_27 x (lfX11_orders_130_27 x  n) S v1
def bfX11_orders_130_0 (x : XT)  (S : ST)  : Option (Int32 × ST) :=
  match gfX11_readsAs_130 x ((u2 S.1 130 43 (-1)), S.2.1, S.2.2.1, S.2.2.2) 1 with
    | none => none
    | some (r3, S4) => (if ¬ r3 = 0 then (match gfX11_laysAside_130 x S4 1 with
    | none => none
    | some (r8, S9) => (lfX11_orders_130_27 x  20000 S9 0)) else (match gfX11_refuses_130 x S4 (-6) with
    | none => none
    | some (r12, S13) => (some (r12, S13))))
def gfX11_orders_130 (x : XT) (S : ST)  : Option (Int32 × ST) := bfX11_orders_130_0 x S 
def bfX11_draws_130_0 (x : XT)  (S : ST) (p1 : Int32) : Option (Int32 × ST) :=
  bif nzi p1 then (some (((((1103 * ((S.1 130 52).toInt64)) + 12345) - ((1103 * ((S.1 130 52).toInt64)) + 12345) / 1000003 * 1000003).toInt32) - ((((1103 * ((S.1 130 52).toInt64)) + 12345) - ((1103 * ((S.1 130 52).toInt64)) + 12345) / 1000003 * 1000003).toInt32) / p1 * p1, ((u2 S.1 130 52 ((((1103 * ((S.1 130 52).toInt64)) + 12345) - ((1103 * ((S.1 130 52).toInt64)) + 12345) / 1000003 * 1000003).toInt32)), S.2.1, S.2.2.1, S.2.2.2))) else none
def gfX11_draws_130 (x : XT) (S : ST) (p1 : Int32) : Option (Int32 × ST) := bfX11_draws_130_0 x S p1
def bfX11_days_130_20 (x : XT)  (S : ST)  : Option (Int32 × ST) :=
  match gfX11_refuses_130 x S (-1) with
    | none => none
    | some (r3, S4) => (some (r3, S4))
def bfX11_days_130_43 (x : XT)  (S : ST)  : Option (Int32 × ST) :=
  match gfX11_refuses_130 x S (-3) with
    | none => none
    | some (r3, S4) => (some (r3, S4))
def bfX11_days_130_161 (x : XT) (k161 : ST → Int32 → Int32 → Option (Int32 × ST)) (S : ST) (v3 : Int32) (v4 : Int32) : Option (Int32 × ST) :=
  if 36 ≤ v4 then (match gfX11_takesBack_130 x S 0 with
    | none => none
    | some (r4, S5) => (match gfX11_good_130 x S5 v3 with
    | none => none
    | some (r8, S9) => (some (r8, S9)))) else (bif inb v4 5703 then (bif inb v4 36 then (k161 (S.1, (u2 S.2.1 157 v4.toNatClampNeg (S.2.1 132 v4.toNatClampNeg)), S.2.2.1, S.2.2.2) v3 (v4 + 1)) else none) else none)
def lfX11_days_130_161 (x : XT)  : Nat → ST → Int32 → Int32 → Option (Int32 × ST)
  | 0, _, _, _ => none
  | n + 1, S, v3, v4 => bfX11_days_130_161 x (lfX11_days_130_161 x  n) S v3 v4
def bfX11_days_130_158 (x : XT)  (S : ST) (v3 : Int32) : Option (Int32 × ST) :=
  lfX11_days_130_161 x  20000 S v3 0
def bfX11_days_130_141 (x : XT) (k76 : ST → Int32 → Int32 → Int32 → Option (Int32 × ST)) (S : ST) (v2 : Int32) (v3 : Int32) (v4 : Int32) : Option (Int32 × ST) :=
  k76 (S.1, (u2 S.2.1 132 35 ((S.2.1 132 35) + 1)), S.2.2.1, S.2.2.2) v2 v3 (v4 + 1)
def bfX11_days_130_76 (x : XT) (k76 : ST → Int32 → Int32 → Int32 → Option (Int32 × ST)) (S : ST) (v2 : Int32) (v3 : Int32) (v4 : Int32) : Option (Int32 × ST) :=
  if v2 ≤ v4 then (bfX11_days_130_158 x S v3) else (if 999 ≤ (S.2.1 132 35) then (bfX11_days_130_158 x S v3) else (match gfX11_draws_130 x S (S.2.1 132 92) with
    | none => none
    | some (r5, S6) => (match gfX11_gateMany_130 x S6 with
    | none => none
    | some (r9, S10) => (match gfX11_draws_130 x S10 r9 with
    | none => none
    | some (r13, S14) => (match gfX11_canGo_130 x S14 r5 r13 with
    | none => none
    | some (r17, S18) => (if r17 = 0 then (bfX11_days_130_141 x k76 S18 v2 v3 v4) else (match gfX11_goesNow_130 x S18 r5 r13 with
    | none => none
    | some (r22, S23) => (bfX11_days_130_141 x k76 S23 v2 (v3 + 1) v4))))))))
def lfX11_days_130_76 (x : XT)  : Nat → ST → Int32 → Int32 → Int32 → Option (Int32 × ST)
  | 0, _, _, _, _ => none
  | n + 1, S, v2, v3, v4 => bfX11_days_130_76 x (lfX11_days_130_76 x  n) S v2 v3 v4
def bfX11_days_130_0 (x : XT)  (S : ST) (p1 : Int32) (p2 : Int32) : Option (Int32 × ST) :=
  match gfX11_lies x S p1 0 1000000 with
    | none => none
    | some (r3, S4) => (if r3 = 0 then (bfX11_days_130_20 x S4) else (match gfX11_lies x S4 p2 1 60 with
    | none => none
    | some (r8, S9) => (if ¬ r8 = 0 then (if (S9.2.1 132 92) = 0 then (bfX11_days_130_43 x S9) else (match gfX11_gateMany_130 x S9 with
    | none => none
    | some (r14, S15) => (if ¬ r14 = 0 then (match gfX11_laysAside_130 x ((u2 (u2 S15.1 130 52 p1) 130 51 (S15.2.1 132 92)), S15.2.1, S15.2.2.1, S15.2.2.2) 0 with
    | none => none
    | some (r19, S20) => (lfX11_days_130_76 x  20000 S20 p2 0 0)) else (bfX11_days_130_43 x S15)))) else (bfX11_days_130_20 x S9))))
def gfX11_days_130 (x : XT) (S : ST) (p1 : Int32) (p2 : Int32) : Option (Int32 × ST) := bfX11_days_130_0 x S p1 p2
def bfX11_drawn_130_23 (x : XT)  (S : ST)  : Option (Int32 × ST) :=
  some ((-1), S)
def bfX11_drawn_130_48 (x : XT)  (S : ST) (v1 : Int32) (t1 : Int32) : Option (Int32 × ST) :=
  bif inb (t1 + v1) 36 then (some ((S.2.1 157 ((t1 + v1).toNatClampNeg)), S)) else none
def bfX11_drawn_130_0 (x : XT)  (S : ST) (p1 : Int32) (p2 : Int32) : Option (Int32 × ST) :=
  match gfX11_lies x S p1 0 ((S.1 130 51) - 1) with
    | none => none
    | some (r3, S4) => (if r3 = 0 then (bfX11_drawn_130_23 x S4) else (match gfX11_lies x S4 p2 0 2 with
    | none => none
    | some (r8, S9) => (if ¬ r8 = 0 then (if ¬ p2 = 0 then (if ¬ p2 = 1 then (bfX11_drawn_130_48 x S9 p1 10) else (bfX11_drawn_130_48 x S9 p1 5)) else (bfX11_drawn_130_48 x S9 p1 0)) else (bfX11_drawn_130_23 x S9))))
def gfX11_drawn_130 (x : XT) (S : ST) (p1 : Int32) (p2 : Int32) : Option (Int32 × ST) := bfX11_drawn_130_0 x S p1 p2
def bfX11_allMany_130_4 (x : XT) (k4 : ST → Int32 → Int32 → Option (Int32 × ST)) (S : ST) (v1 : Int32) (v2 : Int32) : Option (Int32 × ST) :=
  if (S.2.1 132 92) ≤ v2 then (some (v1, S)) else (bif inb (5 + v2) 5703 then (k4 S (v1 + (S.2.1 132 ((5 + v2).toNatClampNeg))) (v2 + 1)) else none)
def lfX11_allMany_130_4 (x : XT)  : Nat → ST → Int32 → Int32 → Option (Int32 × ST)
  | 0, _, _, _ => none
  | n + 1, S, v1, v2 => bfX11_allMany_130_4 x (lfX11_allMany_130_4 x  n) S v1 v2
def bfX11_allMany_130_0 (x : XT)  (S : ST)  : Option (Int32 × ST) :=
  lfX11_allMany_130_4 x  20000 S 0 0
def gfX11_allMany_130 (x : XT) (S : ST)  : Option (Int32 × ST) := bfX11_allMany_130_0 x S 
def bfX11_count_130_0 (x : XT)  (S : ST) (p1 : Int32) : Option (Int32 × ST) :=
  if p1 = 0 then (match gfX11_gateMany_130 x S with
    | none => none
    | some (r4, S5) => (some (r4, S5))) else (if p1 = 1 then (some ((S.2.1 132 92), S)) else (if p1 = 2 then (match gfX11_allMany_130 x S with
    | none => none
    | some (r10, S11) => (some (r10, S11))) else (if p1 = 3 then (some ((S.2.1 132 93), S)) else (if p1 = 4 then (some ((S.2.1 132 94), S)) else (if p1 = 5 then (some ((S.1 130 31), S)) else (if p1 = 6 then (some ((S.1 130 13), S)) else (if p1 = 7 then (bif inb (p1 - 6) 7 then (some ((S.2.1 131 ((p1 - 6).toNatClampNeg)), S)) else none) else (if p1 = 8 then (bif inb (p1 - 6) 7 then (some ((S.2.1 131 ((p1 - 6).toNatClampNeg)), S)) else none) else (if p1 = 9 then (bif inb (p1 - 6) 7 then (some ((S.2.1 131 ((p1 - 6).toNatClampNeg)), S)) else none) else (if p1 = 10 then (some ((S.2.1 131 5), S)) else (if p1 = 11 then (some ((S.2.1 131 6), S)) else (if p1 = 12 then (some ((S.2.1 132 95), S)) else (if p1 = 13 then (match gfX11_termAt x S (p1 - 13) with
    | none => none
    | some (r28, S29) => (bif inb r28 5703 then (some ((S29.2.1 132 r28.toNatClampNeg), S29)) else none)) else (if p1 = 14 then (match gfX11_termAt x S (p1 - 13) with
    | none => none
    | some (r34, S35) => (bif inb r34 5703 then (some ((S35.2.1 132 r34.toNatClampNeg), S35)) else none)) else (if p1 = 15 then (match gfX11_termAt x S (p1 - 13) with
    | none => none
    | some (r40, S41) => (bif inb r40 5703 then (some ((S41.2.1 132 r40.toNatClampNeg), S41)) else none)) else (some ((-1), S)))))))))))))))))
def gfX11_count_130 (x : XT) (S : ST) (p1 : Int32) : Option (Int32 × ST) := bfX11_count_130_0 x S p1
def bfX11_status_130_0 (x : XT)  (S : ST)  : Option (Int32 × ST) :=
  some ((S.1 130 0), S)
def gfX11_status_130 (x : XT) (S : ST)  : Option (Int32 × ST) := bfX11_status_130_0 x S 
def bfX7_addLaw_1_T_0 (x : XT)  (S : ST) (p1 : Nat) : Option (Int32 × ST) :=
  bif tx x p1 then (if (S.1 1 16) < 6 then (bif inb (S.1 1 16) 6 then (some ((S.1 1 16), ((u2 S.1 1 16 ((S.1 1 16) + 1)), S.2.1, S.2.2.1, (u2 S.2.2.2 15 ((S.1 1 16).toNatClampNeg) (some p1))))) else none) else (some ((-5), S))) else none
def gfX7_addLaw_1_T (x : XT) (S : ST) (p1 : Nat) : Option (Int32 × ST) := bfX7_addLaw_1_T_0 x S p1
end DEFS
