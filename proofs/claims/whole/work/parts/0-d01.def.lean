section DEFS
def bfX4_term_24_8 (x : XT) (rec_X4_test : ST → Int32 → Int32 → Option (Int32 × ST)) (rec_X4_plain : ST → Int32 → Option (Int32 × ST)) (rec_X4_comparison : ST → Int32 → Option (Int32 × ST)) (rec_X4_inBrackets : ST → Int32 → Int32 → Option (Int32 × ST)) (rec_X4_sum : ST → Int32 → Option (Int32 × ST)) (rec_X4_term : ST → Int32 → Option (Int32 × ST)) (rec_X4_part : ST → Int32 → Option (Int32 × ST)) (k8 : ST → Int32 → Int32 → Int32 → Option (Int32 × ST)) (S : ST) (v1 : Int32) (v2 : Int32) (v3 : Int32) : Option (Int32 × ST) :=
  if 400 < v3 then (bfX4_term_24_85 x rec_X4_test rec_X4_plain rec_X4_comparison rec_X4_inBrackets rec_X4_sum rec_X4_term rec_X4_part S v2) else (if v2 = 0 then (bfX4_term_24_85 x rec_X4_test rec_X4_plain rec_X4_comparison rec_X4_inBrackets rec_X4_sum rec_X4_term rec_X4_part S v2) else (match gfX4_here_24 x S with
    | none => none
    | some (r5, S6) => (if r5 = 42 then (bfX4_term_24_46 x rec_X4_test rec_X4_plain rec_X4_comparison rec_X4_inBrackets rec_X4_sum rec_X4_term rec_X4_part k8 S6 v1 v3) else (match gfX4_here_24 x S6 with
    | none => none
    | some (r10, S11) => (if r10 = 47 then (bfX4_term_24_46 x rec_X4_test rec_X4_plain rec_X4_comparison rec_X4_inBrackets rec_X4_sum rec_X4_term rec_X4_part k8 S11 v1 v3) else (match gfX4_here_24 x S11 with
    | none => none
    | some (r15, S16) => (if ¬ r15 = 37 then (bfX4_term_24_85 x rec_X4_test rec_X4_plain rec_X4_comparison rec_X4_inBrackets rec_X4_sum rec_X4_term rec_X4_part S16 v2) else (bfX4_term_24_46 x rec_X4_test rec_X4_plain rec_X4_comparison rec_X4_inBrackets rec_X4_sum rec_X4_term rec_X4_part k8 S16 v1 v3))))))))
def lfX4_term_24_8 (x : XT) (rec_X4_test : ST → Int32 → Int32 → Option (Int32 × ST)) (rec_X4_plain : ST → Int32 → Option (Int32 × ST)) (rec_X4_comparison : ST → Int32 → Option (Int32 × ST)) (rec_X4_inBrackets : ST → Int32 → Int32 → Option (Int32 × ST)) (rec_X4_sum : ST → Int32 → Option (Int32 × ST)) (rec_X4_term : ST → Int32 → Option (Int32 × ST)) (rec_X4_part : ST → Int32 → Option (Int32 × ST))  : Nat → ST → Int32 → Int32 → Int32 → Option (Int32 × ST)
  | 0, _, _, _, _ => none
  | n + 1, S, v1, v2, v3 => bfX4_term_24_8 x rec_X4_test rec_X4_plain rec_X4_comparison rec_X4_inBrackets rec_X4_sum rec_X4_term rec_X4_part (lfX4_term_24_8 x rec_X4_test rec_X4_plain rec_X4_comparison rec_X4_inBrackets rec_X4_sum rec_X4_term rec_X4_part  n) S v1 v2 v3
def bfX4_term_24_0 (x : XT) (rec_X4_test : ST → Int32 → Int32 → Option (Int32 × ST)) (rec_X4_plain : ST → Int32 → Option (Int32 × ST)) (rec_X4_comparison : ST → Int32 → Option (Int32 × ST)) (rec_X4_inBrackets : ST → Int32 → Int32 → Option (Int32 × ST)) (rec_X4_sum : ST → Int32 → Option (Int32 × ST)) (rec_X4_term : ST → Int32 → Option (Int32 × ST)) (rec_X4_part : ST → Int32 → Option (Int32 × ST))  (S : ST) (p1 : Int32) : Option (Int32 × ST) :=
  match rec_X4_part S p1 with
    | none => none
    | some (r3, S4) => (lfX4_term_24_8 x rec_X4_test rec_X4_plain rec_X4_comparison rec_X4_inBrackets rec_X4_sum rec_X4_term rec_X4_part  20000 S4 p1 r3 0)
def grfX4_term_24 (x : XT) (rec_X4_test : ST → Int32 → Int32 → Option (Int32 × ST)) (rec_X4_plain : ST → Int32 → Option (Int32 × ST)) (rec_X4_comparison : ST → Int32 → Option (Int32 × ST)) (rec_X4_inBrackets : ST → Int32 → Int32 → Option (Int32 × ST)) (rec_X4_sum : ST → Int32 → Option (Int32 × ST)) (rec_X4_term : ST → Int32 → Option (Int32 × ST)) (rec_X4_part : ST → Int32 → Option (Int32 × ST)) (S : ST) (p1 : Int32) : Option (Int32 × ST) := bfX4_term_24_0 x rec_X4_test rec_X4_plain rec_X4_comparison rec_X4_inBrackets rec_X4_sum rec_X4_term rec_X4_part S p1
def bfX4_part_24_121 (x : XT) (rec_X4_test : ST → Int32 → Int32 → Option (Int32 × ST)) (rec_X4_plain : ST → Int32 → Option (Int32 × ST)) (rec_X4_comparison : ST → Int32 → Option (Int32 × ST)) (rec_X4_inBrackets : ST → Int32 → Int32 → Option (Int32 × ST)) (rec_X4_sum : ST → Int32 → Option (Int32 × ST)) (rec_X4_term : ST → Int32 → Option (Int32 × ST)) (rec_X4_part : ST → Int32 → Option (Int32 × ST))  (S : ST) (t0 : Int32) : Option (Int32 × ST) :=
  if ¬ t0 = (-1) then (match gfX9_add_25 x S 259 t0 with
    | none => none
    | some (r4, S5) => (some (1, ((u2 S5.1 24 6 ((S5.1 24 6) + 1)), S5.2.1, S5.2.2.1, S5.2.2.2)))) else (match gfX4_faulty_24 x S with
    | none => none
    | some (r8, S9) => (bif bbz r8 then (some (r8, S9)) else none))
def bfX4_part_24_0 (x : XT) (rec_X4_test : ST → Int32 → Int32 → Option (Int32 × ST)) (rec_X4_plain : ST → Int32 → Option (Int32 × ST)) (rec_X4_comparison : ST → Int32 → Option (Int32 × ST)) (rec_X4_inBrackets : ST → Int32 → Int32 → Option (Int32 × ST)) (rec_X4_sum : ST → Int32 → Option (Int32 × ST)) (rec_X4_term : ST → Int32 → Option (Int32 × ST)) (rec_X4_part : ST → Int32 → Option (Int32 × ST))  (S : ST) (p1 : Int32) : Option (Int32 × ST) :=
  match gfX4_here_24 x S with
    | none => none
    | some (r3, S4) => (if ¬ r3 = 91 then (if (S4.1 24 7) < 50 then (match gfX4_here_24 x ((u2 S4.1 24 7 ((S4.1 24 7) + 1)), S4.2.1, S4.2.2.1, S4.2.2.2) with
    | none => none
    | some (r9, S10) => (if ¬ r9 = 256 then (if (S10.1 24 8) = 0 then (match gfX4_lawWord_24 x S10 with
    | none => none
    | some (r15, S16) => (bfX4_part_24_121 x rec_X4_test rec_X4_plain rec_X4_comparison rec_X4_inBrackets rec_X4_sum rec_X4_term rec_X4_part S16 r15)) else (match gfX4_orderWord_24 x S10 with
    | none => none
    | some (r19, S20) => (bfX4_part_24_121 x rec_X4_test rec_X4_plain rec_X4_comparison rec_X4_inBrackets rec_X4_sum rec_X4_term rec_X4_part S20 r19))) else (bif inb (S10.1 24 6) 401 then (if (S10.2.1 31 ((S10.1 24 6).toNatClampNeg)) ≤ 1000 then (bif inb (S10.1 24 6) 401 then (match gfX9_add_25 x S10 256 (S10.2.1 31 ((S10.1 24 6).toNatClampNeg)) with
    | none => none
    | some (r26, S27) => (some (1, ((u2 S27.1 24 6 ((S27.1 24 6) + 1)), S27.2.1, S27.2.2.1, S27.2.2.2)))) else none) else (match gfX4_faulty_24 x S10 with
    | none => none
    | some (r30, S31) => (bif bbz r30 then (some (r30, S31)) else none))) else none))) else (match gfX4_faulty_24 x S4 with
    | none => none
    | some (r35, S36) => (bif bbz r35 then (some (r35, S36)) else none))) else (match rec_X4_inBrackets S4 p1 93 with
    | none => none
    | some (r40, S41) => (bif bbz r40 then (some (r40, S41)) else none)))
def grfX4_part_24 (x : XT) (rec_X4_test : ST → Int32 → Int32 → Option (Int32 × ST)) (rec_X4_plain : ST → Int32 → Option (Int32 × ST)) (rec_X4_comparison : ST → Int32 → Option (Int32 × ST)) (rec_X4_inBrackets : ST → Int32 → Int32 → Option (Int32 × ST)) (rec_X4_sum : ST → Int32 → Option (Int32 × ST)) (rec_X4_term : ST → Int32 → Option (Int32 × ST)) (rec_X4_part : ST → Int32 → Option (Int32 × ST)) (S : ST) (p1 : Int32) : Option (Int32 × ST) := bfX4_part_24_0 x rec_X4_test rec_X4_plain rec_X4_comparison rec_X4_inBrackets rec_X4_sum rec_X4_term rec_X4_part S p1
def gqX4_test_24 (x : XT) : Nat → Nat → ST → Int32 → Int32 → Option (Int32 × ST)
  | 0, _, _, _, _ => none
  | n + 1, tag, S, a, b => bif Nat.beq tag 0 then grfX4_test_24 x (fun S z0 z1 => gqX4_test_24 x n 0 S z0 z1) (fun S z0 => gqX4_test_24 x n 1 S z0 0) (fun S z0 => gqX4_test_24 x n 2 S z0 0) (fun S z0 z1 => gqX4_test_24 x n 3 S z0 z1) (fun S z0 => gqX4_test_24 x n 4 S z0 0) (fun S z0 => gqX4_test_24 x n 5 S z0 0) (fun S z0 => gqX4_test_24 x n 6 S z0 0) S a b else (bif Nat.beq tag 1 then grfX4_plain_24 x (fun S z0 z1 => gqX4_test_24 x n 0 S z0 z1) (fun S z0 => gqX4_test_24 x n 1 S z0 0) (fun S z0 => gqX4_test_24 x n 2 S z0 0) (fun S z0 z1 => gqX4_test_24 x n 3 S z0 z1) (fun S z0 => gqX4_test_24 x n 4 S z0 0) (fun S z0 => gqX4_test_24 x n 5 S z0 0) (fun S z0 => gqX4_test_24 x n 6 S z0 0) S a else (bif Nat.beq tag 2 then grfX4_comparison_24 x (fun S z0 z1 => gqX4_test_24 x n 0 S z0 z1) (fun S z0 => gqX4_test_24 x n 1 S z0 0) (fun S z0 => gqX4_test_24 x n 2 S z0 0) (fun S z0 z1 => gqX4_test_24 x n 3 S z0 z1) (fun S z0 => gqX4_test_24 x n 4 S z0 0) (fun S z0 => gqX4_test_24 x n 5 S z0 0) (fun S z0 => gqX4_test_24 x n 6 S z0 0) S a else (bif Nat.beq tag 3 then grfX4_inBrackets_24 x (fun S z0 z1 => gqX4_test_24 x n 0 S z0 z1) (fun S z0 => gqX4_test_24 x n 1 S z0 0) (fun S z0 => gqX4_test_24 x n 2 S z0 0) (fun S z0 z1 => gqX4_test_24 x n 3 S z0 z1) (fun S z0 => gqX4_test_24 x n 4 S z0 0) (fun S z0 => gqX4_test_24 x n 5 S z0 0) (fun S z0 => gqX4_test_24 x n 6 S z0 0) S a b else (bif Nat.beq tag 4 then grfX4_sum_24 x (fun S z0 z1 => gqX4_test_24 x n 0 S z0 z1) (fun S z0 => gqX4_test_24 x n 1 S z0 0) (fun S z0 => gqX4_test_24 x n 2 S z0 0) (fun S z0 z1 => gqX4_test_24 x n 3 S z0 z1) (fun S z0 => gqX4_test_24 x n 4 S z0 0) (fun S z0 => gqX4_test_24 x n 5 S z0 0) (fun S z0 => gqX4_test_24 x n 6 S z0 0) S a else (bif Nat.beq tag 5 then grfX4_term_24 x (fun S z0 z1 => gqX4_test_24 x n 0 S z0 z1) (fun S z0 => gqX4_test_24 x n 1 S z0 0) (fun S z0 => gqX4_test_24 x n 2 S z0 0) (fun S z0 z1 => gqX4_test_24 x n 3 S z0 z1) (fun S z0 => gqX4_test_24 x n 4 S z0 0) (fun S z0 => gqX4_test_24 x n 5 S z0 0) (fun S z0 => gqX4_test_24 x n 6 S z0 0) S a else (bif Nat.beq tag 6 then grfX4_part_24 x (fun S z0 z1 => gqX4_test_24 x n 0 S z0 z1) (fun S z0 => gqX4_test_24 x n 1 S z0 0) (fun S z0 => gqX4_test_24 x n 2 S z0 0) (fun S z0 z1 => gqX4_test_24 x n 3 S z0 z1) (fun S z0 => gqX4_test_24 x n 4 S z0 0) (fun S z0 => gqX4_test_24 x n 5 S z0 0) (fun S z0 => gqX4_test_24 x n 6 S z0 0) S a else (none)))))))
def gfX4_test_24 (x : XT) (S : ST) (p1 : Int32) (p2 : Int32) : Option (Int32 × ST) := gqX4_test_24 x 60 0 S p1 p2
def gfX4_plain_24 (x : XT) (S : ST) (p1 : Int32) : Option (Int32 × ST) := gqX4_test_24 x 60 1 S p1 0
def gfX4_comparison_24 (x : XT) (S : ST) (p1 : Int32) : Option (Int32 × ST) := gqX4_test_24 x 60 2 S p1 0
def gfX4_inBrackets_24 (x : XT) (S : ST) (p1 : Int32) (p2 : Int32) : Option (Int32 × ST) := gqX4_test_24 x 60 3 S p1 p2
def gfX4_sum_24 (x : XT) (S : ST) (p1 : Int32) : Option (Int32 × ST) := gqX4_test_24 x 60 4 S p1 0
def gfX4_term_24 (x : XT) (S : ST) (p1 : Int32) : Option (Int32 × ST) := gqX4_test_24 x 60 5 S p1 0
def gfX4_part_24 (x : XT) (S : ST) (p1 : Int32) : Option (Int32 × ST) := gqX4_test_24 x 60 6 S p1 0
def bfX4_times_24_47 (x : XT)  (S : ST)  : Option (Int32 × ST) :=
  match gfX4_faulty_24 x S with
    | none => none
    | some (r3, S4) => (bif bbz r3 then (some (r3, S4)) else none)
def bfX4_times_24_0 (x : XT)  (S : ST) (p1 : Int32) : Option (Int32 × ST) :=
  match gfX4_here_24 x ((u2 S.1 24 6 ((S.1 24 6) + 1)), S.2.1, S.2.2.1, S.2.2.2) with
    | none => none
    | some (r3, S4) => (if ¬ r3 = 256 then (bfX4_times_24_47 x S4) else (bif inb (S4.1 24 6) 401 then (if (S4.2.1 31 ((S4.1 24 6).toNatClampNeg)) < 1 then (bfX4_times_24_47 x S4) else (bif inb (S4.1 24 6) 401 then (if (S4.2.1 31 ((S4.1 24 6).toNatClampNeg)) ≤ 20 then (bif inb (S4.1 24 6) 401 then (bif inb p1 12 then (some (1, ((u2 S4.1 24 6 ((S4.1 24 6) + 1)), (u2 S4.2.1 27 p1.toNatClampNeg (S4.2.1 31 ((S4.1 24 6).toNatClampNeg))), S4.2.2.1, S4.2.2.2))) else none) else none) else (bfX4_times_24_47 x S4)) else none)) else none))
def gfX4_times_24 (x : XT) (S : ST) (p1 : Int32) : Option (Int32 × ST) := bfX4_times_24_0 x S p1
def bfX4_clause_24_57 (x : XT)  (S : ST)  : Option (Int32 × ST) :=
  match gfX4_faulty_24 x S with
    | none => none
    | some (r3, S4) => (bif bbz r3 then (some (r3, S4)) else none)
def bfX4_clause_24_286 (x : XT)  (S : ST) (v1 : Int32) : Option (Int32 × ST) :=
  bif inb ((4 * v1) + 3) 48 then (some (1, ((u2 S.1 25 0 ((S.1 25 0) + 1)), (u2 S.2.1 28 (((4 * v1) + 3).toNatClampNeg) (S.1 25 1)), S.2.2.1, S.2.2.2))) else none
def bfX4_clause_24_253 (x : XT)  (S : ST) (v1 : Int32) : Option (Int32 × ST) :=
  match gfX4_here_24 x S with
    | none => none
    | some (r3, S4) => (if ¬ r3 = 267 then (bfX4_clause_24_286 x S4 v1) else (match gfX4_test_24 x ((u2 S4.1 24 6 ((S4.1 24 6) + 1)), S4.2.1, S4.2.2.1, S4.2.2.2) 0 271 with
    | none => none
    | some (r8, S9) => (if ¬ r8 = 0 then (bfX4_clause_24_286 x S9 v1) else (some (0, S9)))))
def bfX4_clause_24_206 (x : XT)  (S : ST) (v1 : Int32) : Option (Int32 × ST) :=
  bif inb ((4 * v1) + 2) 48 then (if (S.1 24 8) = 0 then (bfX4_clause_24_253 x (S.1, (u2 S.2.1 28 (((4 * v1) + 2).toNatClampNeg) (S.1 25 1)), S.2.2.1, S.2.2.2) v1) else (match gfX4_here_24 x (S.1, (u2 S.2.1 28 (((4 * v1) + 2).toNatClampNeg) (S.1 25 1)), S.2.2.1, S.2.2.2) with
    | none => none
    | some (r5, S6) => (if ¬ r5 = 270 then (bfX4_clause_24_253 x S6 v1) else (match gfX4_times_24 x S6 v1 with
    | none => none
    | some (r10, S11) => (if ¬ r10 = 0 then (bfX4_clause_24_253 x S11 v1) else (some (0, S11))))))) else none
def bfX4_clause_24_204 (x : XT)  (S : ST)  : Option (Int32 × ST) :=
  some (0, S)
def bfX4_clause_24_179 (x : XT)  (S : ST) (v1 : Int32) (v2 : Int32) : Option (Int32 × ST) :=
  if ¬ v2 = 265 then (bfX4_clause_24_206 x S v1) else (match gfX4_take_24 x S 269 with
    | none => none
    | some (r4, S5) => (if r4 = 0 then (bfX4_clause_24_204 x S5) else (match gfX4_sum_24 x S5 0 with
    | none => none
    | some (r9, S10) => (if ¬ r9 = 0 then (bfX4_clause_24_206 x S10 v1) else (bfX4_clause_24_204 x S10)))))
def bfX4_clause_24_134 (x : XT)  (S : ST) (v1 : Int32) (v2 : Int32) : Option (Int32 × ST) :=
  bif inb ((4 * v1) + 1) 48 then (if ¬ v2 = 263 then (bfX4_clause_24_179 x (S.1, (u2 S.2.1 28 (((4 * v1) + 1).toNatClampNeg) (S.1 25 1)), S.2.2.1, S.2.2.2) v1 v2) else (match gfX4_take_24 x (S.1, (u2 S.2.1 28 (((4 * v1) + 1).toNatClampNeg) (S.1 25 1)), S.2.2.1, S.2.2.2) 268 with
    | none => none
    | some (r5, S6) => (if r5 = 0 then (bfX4_clause_24_204 x S6) else (match gfX4_sum_24 x S6 0 with
    | none => none
    | some (r10, S11) => (if r10 = 0 then (bfX4_clause_24_204 x S11) else (bfX4_clause_24_179 x S11 v1 v2)))))) else none
def bfX4_clause_24_62 (x : XT)  (S : ST) (v1 : Int32) (v2 : Int32) : Option (Int32 × ST) :=
  bif inb v1 12 then (bif inb v1 12 then (bif inb (4 * v1) 48 then (if v2 = 262 then (bfX4_clause_24_134 x ((u2 S.1 24 6 ((S.1 24 6) + 1)), (u2 (u2 (u2 S.2.1 26 v1.toNatClampNeg v2) 27 v1.toNatClampNeg 1) 28 ((4 * v1).toNatClampNeg) (S.1 25 1)), S.2.2.1, S.2.2.2) v1 v2) else (if v2 = 266 then (bfX4_clause_24_134 x ((u2 S.1 24 6 ((S.1 24 6) + 1)), (u2 (u2 (u2 S.2.1 26 v1.toNatClampNeg v2) 27 v1.toNatClampNeg 1) 28 ((4 * v1).toNatClampNeg) (S.1 25 1)), S.2.2.1, S.2.2.2) v1 v2) else (match gfX4_sum_24 x ((u2 S.1 24 6 ((S.1 24 6) + 1)), (u2 (u2 (u2 S.2.1 26 v1.toNatClampNeg v2) 27 v1.toNatClampNeg 1) 28 ((4 * v1).toNatClampNeg) (S.1 25 1)), S.2.2.1, S.2.2.2) 0 with
    | none => none
    | some (r8, S9) => (if ¬ r8 = 0 then (bfX4_clause_24_134 x S9 v1 v2) else (some (0, S9)))))) else none) else none) else none
def bfX4_clause_24_0 (x : XT)  (S : ST)  : Option (Int32 × ST) :=
  match gfX4_here_24 x S with
    | none => none
    | some (r3, S4) => (if 12 ≤ (S.1 25 0) then (bfX4_clause_24_57 x S4) else (if (S4.1 24 8) = 0 then (if r3 < 260 then (bfX4_clause_24_57 x S4) else (if r3 ≤ 262 then (bfX4_clause_24_62 x S4 (S.1 25 0) r3) else (bfX4_clause_24_57 x S4))) else (if r3 < 263 then (bfX4_clause_24_57 x S4) else (if r3 ≤ 266 then (bfX4_clause_24_62 x S4 (S.1 25 0) r3) else (bfX4_clause_24_57 x S4)))))
def gfX4_clause_24 (x : XT) (S : ST)  : Option (Int32 × ST) := bfX4_clause_24_0 x S 
def bfX4_sortOf_33 (x : XT)  (S : ST) (t0 : Int32) : Option (Int32 × ST) :=
  some (t0, S)
def bfX4_sortOf_32 (x : XT)  (S : ST)  : Option (Int32 × ST) :=
  bfX4_sortOf_33 x S 3
def bfX4_sortOf_16 (x : XT)  (S : ST) (v0 : Int32) : Option (Int32 × ST) :=
  if v0 < 48 then (bfX4_sortOf_32 x S) else (if 57 < v0 then (bfX4_sortOf_32 x S) else (bfX4_sortOf_33 x S 2))
def bfX4_sortOf_0 (x : XT)  (S : ST) (p0 : Int32) : Option (Int32 × ST) :=
  if p0 < 97 then (bfX4_sortOf_16 x S p0) else (if 122 < p0 then (bfX4_sortOf_16 x S p0) else (bfX4_sortOf_33 x S 1))
def gfX4_sortOf (x : XT) (S : ST) (p0 : Int32) : Option (Int32 × ST) := bfX4_sortOf_0 x S p0
def bfX4_behindToken_24_18_49 (x : XT)  (S : ST) (v4 : Int32) : Option (Int32 × ST) :=
  some (v4, S)
def bfX4_behindToken_24_18_15 (x : XT) (k15 : ST → Int32 → Int32 → Option (Int32 × ST)) (S : ST) (v3 : Int32) (v4 : Int32) : Option (Int32 × ST) :=
  if v3 = 3 then (bfX4_behindToken_24_18_49 x S v4) else (if (S.1 18 1) ≤ v4 then (bfX4_behindToken_24_18_49 x S v4) else (bif inb v4 400 then (match gfX4_sortOf x S (S.2.1 19 v4.toNatClampNeg) with
    | none => none
    | some (r6, S7) => (if ¬ r6 = v3 then (bfX4_behindToken_24_18_49 x S7 v4) else (k15 S7 v3 (v4 + 1)))) else none))
def lfX4_behindToken_24_18_15 (x : XT)  : Nat → ST → Int32 → Int32 → Option (Int32 × ST)
  | 0, _, _, _ => none
  | n + 1, S, v3, v4 => bfX4_behindToken_24_18_15 x (lfX4_behindToken_24_18_15 x  n) S v3 v4
def bfX4_behindToken_24_18_0 (x : XT)  (S : ST) (p2 : Int32) : Option (Int32 × ST) :=
  bif inb p2 400 then (match gfX4_sortOf x S (S.2.1 19 p2.toNatClampNeg) with
    | none => none
    | some (r4, S5) => (lfX4_behindToken_24_18_15 x  20000 S5 r4 (p2 + 1))) else none
def gfX4_behindToken_24_18 (x : XT) (S : ST) (p2 : Int32) : Option (Int32 × ST) := bfX4_behindToken_24_18_0 x S p2
def bfX4_wordOf_18_97 (x : XT) (k13 : ST → Int32 → Int32 → Int32 → Int32 → Int32 → Int32 → Option (Int32 × ST)) (S : ST) (v1 : Int32) (v2 : Int32) (v3 : Int32) (v4 : Int32) (v5 : Int32) (v6 : Int32) : Option (Int32 × ST) :=
  k13 S v1 v2 v3 v4 v5 (v6 + 1)
def bfX4_wordOf_18_92 (x : XT) (k13 : ST → Int32 → Int32 → Int32 → Int32 → Int32 → Int32 → Option (Int32 × ST)) (S : ST) (v1 : Int32) (v2 : Int32) (v3 : Int32) (v4 : Int32) (v6 : Int32) (t0 : Int32) : Option (Int32 × ST) :=
  bfX4_wordOf_18_97 x k13 S v1 v2 v3 (v4 + 1) t0 v6
def bfX4_wordOf_18_91 (x : XT) (k13 : ST → Int32 → Int32 → Int32 → Int32 → Int32 → Int32 → Option (Int32 × ST)) (S : ST) (v1 : Int32) (v2 : Int32) (v3 : Int32) (v4 : Int32) (v6 : Int32) : Option (Int32 × ST) :=
  bfX4_wordOf_18_92 x k13 S v1 v2 v3 v4 v6 0
def bfX4_wordOf_18_52 (x : XT) (k13 : ST → Int32 → Int32 → Int32 → Int32 → Int32 → Int32 → Option (Int32 × ST)) (S : ST) (v1 : Int32) (v2 : Int32) (v3 : Int32) (v6 : Int32) : Option (Int32 × ST) :=
  bfX4_wordOf_18_97 x k13 S v1 v2 (v3 + 1) v1 1 v6
def bfX4_wordOf_18_13 (x : XT) (k13 : ST → Int32 → Int32 → Int32 → Int32 → Int32 → Int32 → Option (Int32 × ST)) (S : ST) (v1 : Int32) (v2 : Int32) (v3 : Int32) (v4 : Int32) (v5 : Int32) (v6 : Int32) : Option (Int32 × ST) :=
  if 122 ≤ v6 then (some (258, S)) else (bif inc v6 then (if ¬ (chA v6) = 32 then (if v5 = 0 then (bfX4_wordOf_18_91 x k13 S v1 v2 v3 v4 v6) else (if v2 ≤ v4 then (bfX4_wordOf_18_91 x k13 S v1 v2 v3 v4 v6) else (bif inb v4 400 then (if ¬ (S.2.1 19 v4.toNatClampNeg) = (chA v6) then (bfX4_wordOf_18_91 x k13 S v1 v2 v3 v4 v6) else (bfX4_wordOf_18_92 x k13 S v1 v2 v3 v4 v6 1)) else none))) else (if v5 = 0 then (bfX4_wordOf_18_52 x k13 S v1 v2 v3 v6) else (if ¬ v4 = v2 then (bfX4_wordOf_18_52 x k13 S v1 v2 v3 v6) else (some (v3, S))))) else none)
def lfX4_wordOf_18_13 (x : XT)  : Nat → ST → Int32 → Int32 → Int32 → Int32 → Int32 → Int32 → Option (Int32 × ST)
  | 0, _, _, _, _, _, _, _ => none
  | n + 1, S, v1, v2, v3, v4, v5, v6 => bfX4_wordOf_18_13 x (lfX4_wordOf_18_13 x  n) S v1 v2 v3 v4 v5 v6
def bfX4_wordOf_18_0 (x : XT)  (S : ST) (p1 : Int32) (p2 : Int32) : Option (Int32 × ST) :=
  lfX4_wordOf_18_13 x  20000 S p1 p2 260 p1 1 0
def gfX4_wordOf_18 (x : XT) (S : ST) (p1 : Int32) (p2 : Int32) : Option (Int32 × ST) := bfX4_wordOf_18_0 x S p1 p2
def bfX4_addToken_24_18_144 (x : XT)  (S : ST)  : Option (Unit × ST) :=
  some ((), ((u2 S.1 24 5 ((S.1 24 5) + 1)), S.2.1, S.2.2.1, S.2.2.2))
def bfX4_addToken_24_18_76 (x : XT) (k76 : ST → Int32 → Int32 → Option (Unit × ST)) (S : ST) (v3 : Int32) (v5 : Int32) : Option (Unit × ST) :=
  if v3 ≤ v5 then (bfX4_addToken_24_18_144 x S) else (bif inb (S.1 24 5) 401 then (bif inb v5 400 then (bif inb (S.1 24 5) 401 then (k76 (S.1, (u2 S.2.1 31 ((S.1 24 5).toNatClampNeg) (if 1001 < (((10 * (S.2.1 31 ((S.1 24 5).toNatClampNeg))) + (S.2.1 19 v5.toNatClampNeg)) - 48) then 1001 else (((10 * (S.2.1 31 ((S.1 24 5).toNatClampNeg))) + (S.2.1 19 v5.toNatClampNeg)) - 48))), S.2.2.1, S.2.2.2) v3 (v5 + 1)) else none) else none) else none)
def lfX4_addToken_24_18_76 (x : XT)  : Nat → ST → Int32 → Int32 → Option (Unit × ST)
  | 0, _, _, _ => none
  | n + 1, S, v3, v5 => bfX4_addToken_24_18_76 x (lfX4_addToken_24_18_76 x  n) S v3 v5
def bfX4_addToken_24_18_0 (x : XT)  (S : ST) (p2 : Int32) (p3 : Int32) : Option (Unit × ST) :=
  bif inb p2 400 then (match gfX4_sortOf x S (S.2.1 19 p2.toNatClampNeg) with
    | none => none
    | some (r4, S5) => (bif inb (S5.1 24 5) 401 then (bif inb (S5.1 24 5) 401 then (if ¬ r4 = 1 then (if ¬ r4 = 2 then (bif inb p2 400 then (bif inb (S5.1 24 5) 401 then (bfX4_addToken_24_18_144 x (S5.1, (u2 (u2 (u2 S5.2.1 32 ((S5.1 24 5).toNatClampNeg) p2) 31 ((S5.1 24 5).toNatClampNeg) 0) 30 ((S5.1 24 5).toNatClampNeg) (S5.2.1 19 p2.toNatClampNeg)), S5.2.2.1, S5.2.2.2)) else none) else none) else (bif inb (S5.1 24 5) 401 then (lfX4_addToken_24_18_76 x  20000 (S5.1, (u2 (u2 (u2 S5.2.1 32 ((S5.1 24 5).toNatClampNeg) p2) 31 ((S5.1 24 5).toNatClampNeg) 0) 30 ((S5.1 24 5).toNatClampNeg) 256), S5.2.2.1, S5.2.2.2) p3 p2) else none)) else (match gfX4_wordOf_18 x (S5.1, (u2 (u2 S5.2.1 32 ((S5.1 24 5).toNatClampNeg) p2) 31 ((S5.1 24 5).toNatClampNeg) 0), S5.2.2.1, S5.2.2.2) p2 p3 with
    | none => none
    | some (r15, S16) => (bif inb (S5.1 24 5) 401 then (bfX4_addToken_24_18_144 x (S16.1, (u2 S16.2.1 30 ((S5.1 24 5).toNatClampNeg) r15), S16.2.2.1, S16.2.2.2)) else none))) else none) else none)) else none
def gfX4_addToken_24_18 (x : XT) (S : ST) (p2 : Int32) (p3 : Int32) : Option (Unit × ST) := bfX4_addToken_24_18_0 x S p2 p3
def bfX4_split_24_18_65 (x : XT)  (S : ST)  : Option (Unit × ST) :=
  bif inb (S.1 24 5) 401 then (bif inb (S.1 24 5) 401 then (some ((), ((u2 S.1 24 5 ((S.1 24 5) + 1)), (u2 (u2 S.2.1 30 ((S.1 24 5).toNatClampNeg) 257) 32 ((S.1 24 5).toNatClampNeg) (S.1 18 1)), S.2.2.1, S.2.2.2))) else none) else none
def bfX4_split_24_18_56 (x : XT) (k9 : ST → Int32 → Int32 → Option (Unit × ST)) (S : ST) (v3 : Int32) (v4 : Int32) : Option (Unit × ST) :=
  k9 S v4 (v3 + 1)
def bfX4_split_24_18_9 (x : XT) (k9 : ST → Int32 → Int32 → Option (Unit × ST)) (S : ST) (v2 : Int32) (v3 : Int32) : Option (Unit × ST) :=
  if 400 ≤ v3 then (bfX4_split_24_18_65 x S) else (if (S.1 18 1) ≤ v2 then (bfX4_split_24_18_65 x S) else (bif inb v2 400 then (if (S.2.1 19 v2.toNatClampNeg) = 32 then (bfX4_split_24_18_56 x k9 S v3 (v2 + 1)) else (match gfX4_behindToken_24_18 x S v2 with
    | none => none
    | some (r7, S8) => (match gfX4_addToken_24_18 x S8 v2 r7 with
    | none => none
    | some (r11, S12) => (bfX4_split_24_18_56 x k9 S12 v3 r7)))) else none))
def lfX4_split_24_18_9 (x : XT)  : Nat → ST → Int32 → Int32 → Option (Unit × ST)
  | 0, _, _, _ => none
  | n + 1, S, v2, v3 => bfX4_split_24_18_9 x (lfX4_split_24_18_9 x  n) S v2 v3
def bfX4_split_24_18_0 (x : XT)  (S : ST)  : Option (Unit × ST) :=
  lfX4_split_24_18_9 x  20000 ((u2 S.1 24 5 0), S.2.1, S.2.2.1, S.2.2.2) 0 0
def gfX4_split_24_18 (x : XT) (S : ST)  : Option (Unit × ST) := bfX4_split_24_18_0 x S 
def bfX9_clear_25_0 (x : XT)  (S : ST)  : Option (Unit × ST) :=
  some ((), ((u2 (u2 S.1 25 0 0) 25 1 0), S.2.1, S.2.2.1, S.2.2.2))
def gfX9_clear_25 (x : XT) (S : ST)  : Option (Unit × ST) := bfX9_clear_25_0 x S 
def bfX4_read_24_18_114 (x : XT)  (S : ST) (t0 : Int32) : Option (Int32 × ST) :=
  bif bbz t0 then (some (t0, S)) else none
def bfX4_read_24_18_109 (x : XT)  (S : ST)  : Option (Int32 × ST) :=
  bfX4_read_24_18_114 x S 1
def bfX4_read_24_18_92 (x : XT)  (S : ST)  : Option (Int32 × ST) :=
  match gfX4_here_24 x S with
    | none => none
    | some (r3, S4) => (if r3 = 257 then (bfX4_read_24_18_109 x S4) else (match gfX4_faulty_24 x S4 with
    | none => none
    | some (r8, S9) => (if r8 = 0 then (bfX4_read_24_18_114 x S9 0) else (bfX4_read_24_18_109 x S9))))
def bfX4_read_24_18_86 (x : XT) (k37 : ST → Int32 → Int32 → Option (Int32 × ST)) (S : ST) (v3 : Int32) (v4 : Int32) : Option (Int32 × ST) :=
  k37 S v3 (v4 + 1)
def bfX4_read_24_18_71 (x : XT) (k37 : ST → Int32 → Int32 → Option (Int32 × ST)) (S : ST) (v4 : Int32) (t0 : Int32) : Option (Int32 × ST) :=
  if t0 = 0 then (bfX4_read_24_18_86 x k37 S t0 v4) else (bfX4_read_24_18_86 x k37 ((u2 S.1 24 6 ((S.1 24 6) + 1)), S.2.1, S.2.2.1, S.2.2.2) t0 v4)
def bfX4_read_24_18_37 (x : XT) (k37 : ST → Int32 → Int32 → Option (Int32 × ST)) (S : ST) (v3 : Int32) (v4 : Int32) : Option (Int32 × ST) :=
  if 12 < v4 then (bfX4_read_24_18_92 x S) else (if v3 = 0 then (bfX4_read_24_18_92 x S) else (match gfX4_clause_24 x S with
    | none => none
    | some (r5, S6) => (if ¬ r5 = 0 then (match gfX4_here_24 x S6 with
    | none => none
    | some (r10, S11) => (if ¬ r10 = 59 then (bfX4_read_24_18_71 x k37 S11 v4 0) else (bfX4_read_24_18_71 x k37 S11 v4 1))) else (some (0, S6)))))
def lfX4_read_24_18_37 (x : XT)  : Nat → ST → Int32 → Int32 → Option (Int32 × ST)
  | 0, _, _, _ => none
  | n + 1, S, v3, v4 => bfX4_read_24_18_37 x (lfX4_read_24_18_37 x  n) S v3 v4
def bfX4_read_24_18_0 (x : XT)  (S : ST) (p2 : Int32) : Option (Int32 × ST) :=
  match gfX4_split_24_18 x S with
    | none => none
    | some (r3, S4) => (bif bbz p2 then (match gfX9_clear_25 x ((u2 (u2 (u2 (u2 S4.1 24 8 p2) 24 6 0) 24 7 0) 24 1 (-1)), S4.2.1, S4.2.2.1, S4.2.2.2) with
    | none => none
    | some (r8, S9) => (lfX4_read_24_18_37 x  20000 S9 1 0)) else none)
def gfX4_read_24_18 (x : XT) (S : ST) (p2 : Int32) : Option (Int32 × ST) := bfX4_read_24_18_0 x S p2
def bfX10_readTape_0_0 (x : XT)  (S : ST) (p1 : Int32) : Option (Int32 × ST) :=
  match gfX4_read_24_18 x S p1 with
    | none => none
    | some (r3, S4) => (match gfX8_clear_18 x ((u2 S4.1 0 13 (S4.1 24 1)), S4.2.1, S4.2.2.1, S4.2.2.2) with
    | none => none
    | some (r7, S8) => (bif bbz r3 then (some (r3, S8)) else none))
def gfX10_readTape_0 (x : XT) (S : ST) (p1 : Int32) : Option (Int32 × ST) := bfX10_readTape_0_0 x S p1
def bfX7_copyFrom_35_1_252 (x : XT) (k252 : ST → Int32 → Option (Unit × ST)) (S : ST) (v2 : Int32) : Option (Unit × ST) :=
  if 6 ≤ v2 then (some ((), S)) else (bif inb v2 6 then (bif inb v2 6 then (bif qk x (S.2.2.2 15 v2.toNatClampNeg) then (k252 (S.1, S.2.1, S.2.2.1, (u2 S.2.2.2 49 v2.toNatClampNeg (S.2.2.2 15 v2.toNatClampNeg))) (v2 + 1)) else none) else none) else none)
def lfX7_copyFrom_35_1_252 (x : XT)  : Nat → ST → Int32 → Option (Unit × ST)
  | 0, _, _ => none
  | n + 1, S, v2 => bfX7_copyFrom_35_1_252 x (lfX7_copyFrom_35_1_252 x  n) S v2
def bfX7_copyFrom_35_1_227 (x : XT) (k227 : ST → Int32 → Option (Unit × ST)) (S : ST) (v2 : Int32) : Option (Unit × ST) :=
  if 3 ≤ v2 then (lfX7_copyFrom_35_1_252 x  20000 S 0) else (bif inb v2 3 then (bif inb v2 3 then (k227 (S.1, (u2 S.2.1 48 v2.toNatClampNeg (S.2.1 14 v2.toNatClampNeg)), S.2.2.1, S.2.2.2) (v2 + 1)) else none) else none)
def lfX7_copyFrom_35_1_227 (x : XT)  : Nat → ST → Int32 → Option (Unit × ST)
  | 0, _, _ => none
  | n + 1, S, v2 => bfX7_copyFrom_35_1_227 x (lfX7_copyFrom_35_1_227 x  n) S v2
def bfX7_copyFrom_35_1_177 (x : XT) (k177 : ST → Int32 → Option (Unit × ST)) (S : ST) (v2 : Int32) : Option (Unit × ST) :=
  if 6 ≤ v2 then (lfX7_copyFrom_35_1_227 x  20000 S 0) else (bif inb v2 6 then (bif inb v2 6 then (bif inb v2 6 then (bif inb v2 6 then (bif inb v2 6 then (bif inb v2 6 then (k177 (S.1, (u2 (u2 (u2 S.2.1 45 v2.toNatClampNeg (S.2.1 11 v2.toNatClampNeg)) 46 v2.toNatClampNeg (S.2.1 12 v2.toNatClampNeg)) 47 v2.toNatClampNeg (S.2.1 13 v2.toNatClampNeg)), S.2.2.1, S.2.2.2) (v2 + 1)) else none) else none) else none) else none) else none) else none)
def lfX7_copyFrom_35_1_177 (x : XT)  : Nat → ST → Int32 → Option (Unit × ST)
  | 0, _, _ => none
  | n + 1, S, v2 => bfX7_copyFrom_35_1_177 x (lfX7_copyFrom_35_1_177 x  n) S v2
def bfX7_copyFrom_35_1_116 (x : XT) (k116 : ST → Int32 → Option (Unit × ST)) (S : ST) (v2 : Int32) : Option (Unit × ST) :=
  if 5 ≤ v2 then (lfX7_copyFrom_35_1_177 x  20000 S 0) else (bif inb v2 5 then (bif inb v2 5 then (bif inb v2 5 then (bif inb v2 5 then (bif inb v2 5 then (bif inb v2 5 then (bif inb v2 5 then (bif inb v2 5 then (k116 (S.1, (u2 (u2 (u2 (u2 S.2.1 41 v2.toNatClampNeg (S.2.1 7 v2.toNatClampNeg)) 42 v2.toNatClampNeg (S.2.1 8 v2.toNatClampNeg)) 43 v2.toNatClampNeg (S.2.1 9 v2.toNatClampNeg)) 44 v2.toNatClampNeg (S.2.1 10 v2.toNatClampNeg)), S.2.2.1, S.2.2.2) (v2 + 1)) else none) else none) else none) else none) else none) else none) else none) else none)
def lfX7_copyFrom_35_1_116 (x : XT)  : Nat → ST → Int32 → Option (Unit × ST)
  | 0, _, _ => none
  | n + 1, S, v2 => bfX7_copyFrom_35_1_116 x (lfX7_copyFrom_35_1_116 x  n) S v2
def bfX7_copyFrom_35_1_42 (x : XT) (k42 : ST → Int32 → Option (Unit × ST)) (S : ST) (v2 : Int32) : Option (Unit × ST) :=
  if 10 ≤ v2 then (lfX7_copyFrom_35_1_116 x  20000 S 0) else (bif inb v2 10 then (bif inb v2 10 then (bif inb v2 10 then (bif inb v2 10 then (bif inb v2 10 then (bif inb v2 10 then (bif inb v2 10 then (bif inb v2 10 then (bif inb v2 10 then (bif inb v2 10 then (k42 (S.1, (u2 (u2 (u2 (u2 (u2 S.2.1 36 v2.toNatClampNeg (S.2.1 2 v2.toNatClampNeg)) 37 v2.toNatClampNeg (S.2.1 3 v2.toNatClampNeg)) 38 v2.toNatClampNeg (S.2.1 4 v2.toNatClampNeg)) 39 v2.toNatClampNeg (S.2.1 5 v2.toNatClampNeg)) 40 v2.toNatClampNeg (vp_nar .boolean (S.2.1 6 v2.toNatClampNeg))), S.2.2.1, S.2.2.2) (v2 + 1)) else none) else none) else none) else none) else none) else none) else none) else none) else none) else none)
def lfX7_copyFrom_35_1_42 (x : XT)  : Nat → ST → Int32 → Option (Unit × ST)
  | 0, _, _ => none
  | n + 1, S, v2 => bfX7_copyFrom_35_1_42 x (lfX7_copyFrom_35_1_42 x  n) S v2
def bfX7_copyFrom_35_1_0 (x : XT)  (S : ST)  : Option (Unit × ST) :=
  lfX7_copyFrom_35_1_42 x  20000 ((u2 (u2 (u2 (u2 (u2 S.1 35 0 (S.1 1 0)) 35 6 (S.1 1 6)) 35 11 (S.1 1 11)) 35 16 (S.1 1 16)) 35 18 (S.1 1 18)), S.2.1, S.2.2.1, S.2.2.2) 0
def gfX7_copyFrom_35_1 (x : XT) (S : ST)  : Option (Unit × ST) := bfX7_copyFrom_35_1_0 x S 
def bfX1_keepAhead_33_0 (x : XT)  (S : ST)  : Option (Unit × ST) :=
  match gfX7_copyFrom_35_1 x S with
    | none => none
    | some (r3, S4) => (some ((), ((u2 S4.1 33 6 (S4.1 33 0)), (u1 S4.2.1 50 (va_cpy (S4.2.1 34) (S4.2.1 50) 0 0 80)), S4.2.2.1, S4.2.2.2)))
def gfX1_keepAhead_33 (x : XT) (S : ST)  : Option (Unit × ST) := bfX1_keepAhead_33_0 x S 
def bfX1_keep_33_30 (x : XT)  (S : ST) (v1 : Int32) (v2 : Int32) (v3 : Int32) (v4 : Int32) (v5 : Int32) : Option (Unit × ST) :=
  bif inb ((S.1 33 0) * 5) 80 then (bif inb (((S.1 33 0) * 5) + 1) 80 then (bif inb (((S.1 33 0) * 5) + 2) 80 then (bif inb (((S.1 33 0) * 5) + 3) 80 then (bif inb (((S.1 33 0) * 5) + 4) 80 then (some ((), ((u2 S.1 33 0 ((S.1 33 0) + 1)), (u2 (u2 (u2 (u2 (u2 S.2.1 34 (((S.1 33 0) * 5).toNatClampNeg) v1) 34 ((((S.1 33 0) * 5) + 1).toNatClampNeg) v2) 34 ((((S.1 33 0) * 5) + 2).toNatClampNeg) v3) 34 ((((S.1 33 0) * 5) + 3).toNatClampNeg) v4) 34 ((((S.1 33 0) * 5) + 4).toNatClampNeg) v5), S.2.2.1, S.2.2.2))) else none) else none) else none) else none) else none
def bfX1_keep_33_0 (x : XT)  (S : ST) (p1 : Int32) (p2 : Int32) (p3 : Int32) (p4 : Int32) (p5 : Int32) : Option (Unit × ST) :=
  if (S.1 33 0) < 16 then (bfX1_keep_33_30 x S p1 p2 p3 p4 p5) else (bfX1_keep_33_30 x ((u2 S.1 33 0 15), (u1 S.2.1 34 (va_cpy (S.2.1 34) (S.2.1 34) 5 0 75)), S.2.2.1, S.2.2.2) p1 p2 p3 p4 p5)
def gfX1_keep_33 (x : XT) (S : ST) (p1 : Int32) (p2 : Int32) (p3 : Int32) (p4 : Int32) (p5 : Int32) : Option (Unit × ST) := bfX1_keep_33_0 x S p1 p2 p3 p4 p5
def bfX0_move_20_1_0 (x : XT)  (S : ST) (p2 : Int32) (p3 : Int32) : Option (Unit × ST) :=
  bif inb p2 5 then (match gfX0_regard_20_1 x S p2 p3 (S.2.1 8 p2.toNatClampNeg) with
    | none => none
    | some (r4, S5) => (match gfX0_told_20_1 x S5 260 with
    | none => none
    | some (r8, S9) => (match gfX0_told_20_1 x S9 261 with
    | none => none
    | some (r12, S13) => (bif inb p3 10 then (bif inb p2 5 then (bif inb p2 5 then (bif inb p2 5 then (bif inb p2 5 then (some ((), (S13.1, (u2 (u2 (u2 S13.2.1 7 p2.toNatClampNeg (S13.2.1 3 p3.toNatClampNeg)) 8 p2.toNatClampNeg r8) 10 p2.toNatClampNeg (if 9999 < ((S13.2.1 10 p2.toNatClampNeg) + r12) then 9999 else ((S13.2.1 10 p2.toNatClampNeg) + r12))), S13.2.2.1, S13.2.2.2))) else none) else none) else none) else none) else none)))) else none
def gfX0_move_20_1 (x : XT) (S : ST) (p2 : Int32) (p3 : Int32) : Option (Unit × ST) := bfX0_move_20_1_0 x S p2 p3
def bfX1_sendThrough_33_22 (x : XT)  (S : ST)  : Option (Int32 × ST) :=
  some ((-2), S)
def bfX1_sendThrough_33_0 (x : XT)  (S : ST) (p1 : Int32) (p2 : Int32) : Option (Int32 × ST) :=
  match gfX7_hasGoer_1 x S p1 with
    | none => none
    | some (r3, S4) => (if r3 = 0 then (bfX1_sendThrough_33_22 x S4) else (match gfX7_hasGate_1 x S4 p2 with
    | none => none
    | some (r8, S9) => (if ¬ r8 = 0 then (match gfX0_can_20_1 x S9 p1 p2 with
    | none => none
    | some (r13, S14) => (if ¬ r13 = 0 then (bif inb p1 5 then (bif inb p1 5 then (bif inb p1 5 then (match gfX1_keep_33 x S14 263 p1 (S14.2.1 7 p1.toNatClampNeg) (S14.2.1 8 p1.toNatClampNeg) (S14.2.1 10 p1.toNatClampNeg) with
    | none => none
    | some (r21, S22) => (match gfX0_move_20_1 x S22 p1 p2 with
    | none => none
    | some (r25, S26) => (bif inb p1 5 then (some ((S26.2.1 8 p1.toNatClampNeg), S26)) else none))) else none) else none) else none) else (some ((-3), S14)))) else (bfX1_sendThrough_33_22 x S9))))
def gfX1_sendThrough_33 (x : XT) (S : ST) (p1 : Int32) (p2 : Int32) : Option (Int32 × ST) := bfX1_sendThrough_33_0 x S p1 p2
def bfX1_flip_33_68 (x : XT)  (S : ST) (t0 : Int32) : Option (Int32 × ST) :=
  some (t0, S)
def bfX1_flip_33_50 (x : XT)  (S : ST) (v1 : Int32) (t1 : Int32) (t2 : Int32) : Option (Int32 × ST) :=
  bif inb t1 10 then (bif inb v1 10 then (if ((u2 S.2.1 6 t1.toNatClampNeg (vp_nar .boolean t2)) 6 v1.toNatClampNeg) = 0 then (bfX1_flip_33_68 x (S.1, (u2 S.2.1 6 t1.toNatClampNeg (vp_nar .boolean t2)), S.2.2.1, S.2.2.2) 0) else (bfX1_flip_33_68 x (S.1, (u2 S.2.1 6 t1.toNatClampNeg (vp_nar .boolean t2)), S.2.2.1, S.2.2.2) 1)) else none) else none
def bfX1_flip_33_0 (x : XT)  (S : ST) (p1 : Int32) : Option (Int32 × ST) :=
  match gfX7_hasGate_1 x S p1 with
    | none => none
    | some (r3, S4) => (if ¬ r3 = 0 then (match gfX1_keep_33 x S4 264 p1 0 0 0 with
    | none => none
    | some (r8, S9) => (bif inb p1 10 then (if ¬ (S9.2.1 6 p1.toNatClampNeg) = 0 then (bfX1_flip_33_50 x S9 p1 p1 0) else (bfX1_flip_33_50 x S9 p1 p1 1)) else none)) else (some ((-2), S4)))
def gfX1_flip_33 (x : XT) (S : ST) (p1 : Int32) : Option (Int32 × ST) := bfX1_flip_33_0 x S p1
def bfX1_changeArm_33_0 (x : XT)  (S : ST) (p1 : Int32) (p2 : Int32) : Option (Int32 × ST) :=
  match gfX10_within x S p2 10 with
    | none => none
    | some (r3, S4) => (if ¬ r3 = 0 then (match gfX7_hasGate_1 x S4 p1 with
    | none => none
    | some (r8, S9) => (if ¬ r8 = 0 then (bif inb p1 10 then (if ¬ (S9.2.1 5 p1.toNatClampNeg) = p2 then (match gfX1_keep_33 x S9 265 p1 (S9.2.1 5 p1.toNatClampNeg) 0 0 with
    | none => none
    | some (r15, S16) => (bif inb p1 10 then (some ((S9.2.1 5 p1.toNatClampNeg), (S16.1, (u2 S16.2.1 5 p1.toNatClampNeg p2), S16.2.2.1, S16.2.2.2))) else none)) else (some ((-3), S9))) else none) else (some ((-2), S9)))) else (some ((-1), S4)))
def gfX1_changeArm_33 (x : XT) (S : ST) (p1 : Int32) (p2 : Int32) : Option (Int32 × ST) := bfX1_changeArm_33_0 x S p1 p2
def bfX1_nextDay_33_0 (x : XT)  (S : ST)  : Option (Int32 × ST) :=
  if (S.2.1 14 0) < 999 then (match gfX1_keep_33 x S 266 0 0 0 0 with
    | none => none
    | some (r4, S5) => (some ((S5.2.1 14 0) + 1, (S5.1, (u2 S5.2.1 14 0 ((S5.2.1 14 0) + 1)), S5.2.2.1, S5.2.2.2)))) else (some ((-3), S))
def gfX1_nextDay_33 (x : XT) (S : ST)  : Option (Int32 × ST) := bfX1_nextDay_33_0 x S 
def bfX9_has_25_30 (x : XT)  (S : ST) (t0 : Int32) : Option (Int32 × ST) :=
  bif bbz t0 then (some (t0, S)) else none
def bfX9_has_25_0 (x : XT)  (S : ST) (p1 : Int32) (p2 : Int32) : Option (Int32 × ST) :=
  bif inb ((4 * p1) + p2) 48 then (bif inb (((4 * p1) + p2) + 1) 48 then (if (S.2.1 28 ((((4 * p1) + p2) + 1).toNatClampNeg)) ≤ (S.2.1 28 (((4 * p1) + p2).toNatClampNeg)) then (bfX9_has_25_30 x S 0) else (bfX9_has_25_30 x S 1)) else none) else none
def gfX9_has_25 (x : XT) (S : ST) (p1 : Int32) (p2 : Int32) : Option (Int32 × ST) := bfX9_has_25_0 x S p1 p2
def bfX9_reckon_25_52_53_298 (x : XT)  (S : ST) (t0 : Int32) : Option (Int32 × ST) :=
  some (t0, S)
def bfX9_reckon_25_52_53_111 (x : XT)  (S : ST)  : Option (Int32 × ST) :=
  some ((-2000000000), S)
def bfX9_reckon_25_52_53_278 (x : XT) (k36 : ST → Int32 → Int32 → Int32 → Option (Int32 × ST)) (S : ST) (v5 : Int32) (v6 : Int32) (v7 : Int32) : Option (Int32 × ST) :=
  k36 S v5 v6 (v7 + 1)
def bfX9_reckon_25_52_53_135 (x : XT) (k36 : ST → Int32 → Int32 → Int32 → Option (Int32 × ST)) (S : ST) (v5 : Int32) (v6 : Int32) (v7 : Int32) (t1 : Int32) (t2 : Int32) : Option (Int32 × ST) :=
  bif inb t1 50 then (bfX9_reckon_25_52_53_278 x k36 (S.1, (u2 S.2.1 53 t1.toNatClampNeg t2), S.2.2.1, S.2.2.2) v5 v6 v7) else none
def bfX9_reckon_25_52_53_114 (x : XT) (k36 : ST → Int32 → Int32 → Int32 → Option (Int32 × ST)) (S : ST) (v5 : Int32) (v6 : Int32) (v7 : Int32) (v8 : Int32) (v9 : Int32) : Option (Int32 × ST) :=
  if ¬ v8 = 256 then (bif inb v9 24 then (bfX9_reckon_25_52_53_135 x k36 S v5 v6 v7 v6 (S.2.1 52 v9.toNatClampNeg)) else none) else (bfX9_reckon_25_52_53_135 x k36 S v5 v6 v7 v6 v9)
def bfX9_reckon_25_52_53_85 (x : XT) (k36 : ST → Int32 → Int32 → Int32 → Option (Int32 × ST)) (S : ST) (v5 : Int32) (v6 : Int32) (v7 : Int32) (v8 : Int32) (v9 : Int32) : Option (Int32 × ST) :=
  if 50 ≤ (v6 + 1) then (bfX9_reckon_25_52_53_111 x S) else (if v9 < 24 then (bfX9_reckon_25_52_53_114 x k36 S v5 (v6 + 1) v7 v8 v9) else (if ¬ v8 = 259 then (bfX9_reckon_25_52_53_114 x k36 S v5 (v6 + 1) v7 v8 v9) else (bfX9_reckon_25_52_53_111 x S)))
def bfX9_reckon_25_52_53_204 (x : XT) (k36 : ST → Int32 → Int32 → Int32 → Option (Int32 × ST)) (S : ST) (v5 : Int32) (v6 : Int32) (v7 : Int32) (v9 : Int32) (t0 : Int32) (t1 : Int32) : Option (Int32 × ST) :=
  if ¬ t0 = t1 then (bfX9_reckon_25_52_53_278 x k36 S v5 (v6 + (-1)) v7) else (bfX9_reckon_25_52_53_278 x k36 S v5 v6 (if v7 < (v9 - 1) then (v9 - 1) else v7))
def bfX9_reckon_25_52_53_186 (x : XT) (k36 : ST → Int32 → Int32 → Int32 → Option (Int32 × ST)) (S : ST) (v5 : Int32) (v6 : Int32) (v7 : Int32) (v8 : Int32) (v9 : Int32) : Option (Int32 × ST) :=
  bif inb v6 50 then (if ¬ v8 = 271 then (bfX9_reckon_25_52_53_204 x k36 S v5 v6 v7 v9 (S.2.1 53 v6.toNatClampNeg) 0) else (bfX9_reckon_25_52_53_204 x k36 S v5 v6 v7 v9 (S.2.1 53 v6.toNatClampNeg) 1)) else none
def bfX9_reckon_25_52_53_259 (x : XT) (k36 : ST → Int32 → Int32 → Int32 → Option (Int32 × ST)) (S : ST) (v5 : Int32) (v6 : Int32) (v7 : Int32) (t0 : Int32) : Option (Int32 × ST) :=
  if ¬ t0 = (-2000000000) then (bif inb v6 50 then (bfX9_reckon_25_52_53_278 x k36 (S.1, (u2 S.2.1 53 v6.toNatClampNeg t0), S.2.2.1, S.2.2.2) v5 v6 v7) else none) else (some ((-2000000000), S))
def bfX9_reckon_25_52_53_36 (x : XT) (k36 : ST → Int32 → Int32 → Int32 → Option (Int32 × ST)) (S : ST) (v5 : Int32) (v6 : Int32) (v7 : Int32) : Option (Int32 × ST) :=
  if v5 ≤ v7 then (if ¬ v6 = 0 then (bfX9_reckon_25_52_53_298 x S (-2000000000)) else (bfX9_reckon_25_52_53_298 x S (S.2.1 53 0))) else (bif inb v7 400 then (bif inb v7 400 then (if ((S.2.1 29 v7.toNatClampNeg) - (S.2.1 29 v7.toNatClampNeg) / 512 * 512) = 256 then (bfX9_reckon_25_52_53_85 x k36 S v5 v6 v7 ((S.2.1 29 v7.toNatClampNeg) - (S.2.1 29 v7.toNatClampNeg) / 512 * 512) ((S.2.1 29 v7.toNatClampNeg) / 512)) else (if ¬ ((S.2.1 29 v7.toNatClampNeg) - (S.2.1 29 v7.toNatClampNeg) / 512 * 512) = 259 then (if 0 ≤ v6 then (if ¬ ((S.2.1 29 v7.toNatClampNeg) - (S.2.1 29 v7.toNatClampNeg) / 512 * 512) = 273 then (if ((S.2.1 29 v7.toNatClampNeg) - (S.2.1 29 v7.toNatClampNeg) / 512 * 512) = 271 then (bfX9_reckon_25_52_53_186 x k36 S v5 v6 v7 ((S.2.1 29 v7.toNatClampNeg) - (S.2.1 29 v7.toNatClampNeg) / 512 * 512) ((S.2.1 29 v7.toNatClampNeg) / 512)) else (if ¬ ((S.2.1 29 v7.toNatClampNeg) - (S.2.1 29 v7.toNatClampNeg) / 512 * 512) = 272 then (if 0 ≤ (v6 + (-1)) then (bif inb (v6 + (-1)) 50 then (bif inb ((v6 + (-1)) + 1) 50 then (match gfX9_join x S ((S.2.1 29 v7.toNatClampNeg) - (S.2.1 29 v7.toNatClampNeg) / 512 * 512) ((S.2.1 53 ((v6 + (-1)).toNatClampNeg)).toInt64) ((S.2.1 53 (((v6 + (-1)) + 1).toNatClampNeg)).toInt64) with
    | none => none
    | some (r16, S17) => (bfX9_reckon_25_52_53_259 x k36 S17 v5 (v6 + (-1)) v7 r16)) else none) else none) else (bfX9_reckon_25_52_53_259 x k36 S v5 (v6 + (-1)) v7 (-2000000000))) else (bfX9_reckon_25_52_53_186 x k36 S v5 v6 v7 ((S.2.1 29 v7.toNatClampNeg) - (S.2.1 29 v7.toNatClampNeg) / 512 * 512) ((S.2.1 29 v7.toNatClampNeg) / 512)))) else (bif inb v6 50 then (bif inb v6 50 then (bfX9_reckon_25_52_53_278 x k36 (S.1, (u2 S.2.1 53 v6.toNatClampNeg (1 - (S.2.1 53 v6.toNatClampNeg))), S.2.2.1, S.2.2.2) v5 v6 v7) else none) else none)) else (some ((-2000000000), S))) else (bfX9_reckon_25_52_53_85 x k36 S v5 v6 v7 ((S.2.1 29 v7.toNatClampNeg) - (S.2.1 29 v7.toNatClampNeg) / 512 * 512) ((S.2.1 29 v7.toNatClampNeg) / 512)))) else none) else none)
def lfX9_reckon_25_52_53_36 (x : XT)  : Nat → ST → Int32 → Int32 → Int32 → Option (Int32 × ST)
  | 0, _, _, _, _ => none
  | n + 1, S, v5, v6, v7 => bfX9_reckon_25_52_53_36 x (lfX9_reckon_25_52_53_36 x  n) S v5 v6 v7
def bfX9_reckon_25_52_53_0 (x : XT)  (S : ST) (p1 : Int32) (p2 : Int32) : Option (Int32 × ST) :=
  bif inb (((4 * p1) + p2) + 1) 48 then (bif inb ((4 * p1) + p2) 48 then (lfX9_reckon_25_52_53_36 x  20000 S (if (S.1 25 1) < (S.2.1 28 ((((4 * p1) + p2) + 1).toNatClampNeg)) then (S.1 25 1) else (S.2.1 28 ((((4 * p1) + p2) + 1).toNatClampNeg))) (-1) (S.2.1 28 (((4 * p1) + p2).toNatClampNeg))) else none) else none
def gfX9_reckon_25_52_53 (x : XT) (S : ST) (p1 : Int32) (p2 : Int32) : Option (Int32 × ST) := bfX9_reckon_25_52_53_0 x S p1 p2
def bfX5_lookRound_51_182 (x : XT) (k144 : ST → Int32 → Option (Unit × ST)) (S : ST) (v1 : Int32) (t1 : Int32) (t2 : Int32) : Option (Unit × ST) :=
  bif inb t1 24 then (k144 (S.1, (u2 S.2.1 52 t1.toNatClampNeg t2), S.2.2.1, S.2.2.2) (v1 + 1)) else none
def bfX5_lookRound_51_144 (x : XT) (k144 : ST → Int32 → Option (Unit × ST)) (S : ST) (v1 : Int32) : Option (Unit × ST) :=
  if 10 ≤ v1 then (some ((), S)) else (match gfX7_hasGate_1 x S v1 with
    | none => none
    | some (r4, S5) => (if r4 = 0 then (bfX5_lookRound_51_182 x k144 S5 v1 (14 + v1) (-1)) else (bif inb v1 10 then (bfX5_lookRound_51_182 x k144 S5 v1 (14 + v1) (S5.2.1 5 v1.toNatClampNeg)) else none)))
def lfX5_lookRound_51_144 (x : XT)  : Nat → ST → Int32 → Option (Unit × ST)
  | 0, _, _ => none
  | n + 1, S, v1 => bfX5_lookRound_51_144 x (lfX5_lookRound_51_144 x  n) S v1
def bfX5_lookRound_51_136 (x : XT) (k44 : ST → Int32 → Option (Unit × ST)) (S : ST) (v1 : Int32) : Option (Unit × ST) :=
  k44 S (v1 + 1)
def bfX5_lookRound_51_108 (x : XT) (k44 : ST → Int32 → Option (Unit × ST)) (S : ST) (v1 : Int32) (v2 : Int32) (t1 : Int32) (t2 : Int32) : Option (Unit × ST) :=
  bif inb t1 24 then (if v2 = 0 then (bfX5_lookRound_51_136 x k44 (S.1, (u2 S.2.1 52 t1.toNatClampNeg t2), S.2.2.1, S.2.2.2) v1) else (bif inb v1 5 then (if ¬ (S.2.1 8 v1.toNatClampNeg) = 1 then (bfX5_lookRound_51_136 x k44 (S.1, (u2 S.2.1 52 t1.toNatClampNeg t2), S.2.2.1, S.2.2.2) v1) else (bfX5_lookRound_51_136 x k44 (S.1, (u2 (u2 S.2.1 52 t1.toNatClampNeg t2) 52 3 (((u2 S.2.1 52 t1.toNatClampNeg t2) 52 3) + 1)), S.2.2.1, S.2.2.2) v1)) else none)) else none
def bfX5_lookRound_51_82 (x : XT) (k44 : ST → Int32 → Option (Unit × ST)) (S : ST) (v1 : Int32) (v2 : Int32) (t1 : Int32) (t2 : Int32) : Option (Unit × ST) :=
  bif inb t1 24 then (if v2 = 0 then (bfX5_lookRound_51_108 x k44 (S.1, (u2 S.2.1 52 t1.toNatClampNeg t2), S.2.2.1, S.2.2.2) v1 v2 (9 + v1) (-1)) else (bif inb v1 5 then (bfX5_lookRound_51_108 x k44 (S.1, (u2 S.2.1 52 t1.toNatClampNeg t2), S.2.2.1, S.2.2.2) v1 v2 (9 + v1) (S.2.1 7 v1.toNatClampNeg)) else none)) else none
def bfX5_lookRound_51_44 (x : XT) (k44 : ST → Int32 → Option (Unit × ST)) (S : ST) (v1 : Int32) : Option (Unit × ST) :=
  if 5 ≤ v1 then (lfX5_lookRound_51_144 x  20000 S 0) else (match gfX7_hasGoer_1 x S v1 with
    | none => none
    | some (r4, S5) => (if r4 = 0 then (bfX5_lookRound_51_82 x k44 S5 v1 r4 (4 + v1) (-1)) else (bif inb v1 5 then (bfX5_lookRound_51_82 x k44 S5 v1 r4 (4 + v1) (S5.2.1 8 v1.toNatClampNeg)) else none)))
def lfX5_lookRound_51_44 (x : XT)  : Nat → ST → Int32 → Option (Unit × ST)
  | 0, _, _ => none
  | n + 1, S, v1 => bfX5_lookRound_51_44 x (lfX5_lookRound_51_44 x  n) S v1
def bfX5_lookRound_51_0 (x : XT)  (S : ST)  : Option (Unit × ST) :=
  lfX5_lookRound_51_44 x  20000 (S.1, (u2 (u2 (u2 (u2 S.2.1 52 0 (S.2.1 14 0)) 52 1 (S.1 51 0)) 52 2 (S.1 51 1)) 52 3 0), S.2.2.1, S.2.2.2) 0
def gfX5_lookRound_51 (x : XT) (S : ST)  : Option (Unit × ST) := bfX5_lookRound_51_0 x S 
def bfX5_runOnce_51_25_103 (x : XT)  (S : ST)  : Option (Int32 × ST) :=
  some (0, S)
def bfX5_runOnce_51_25_194 (x : XT)  (S : ST) (v5 : Int32) : Option (Int32 × ST) :=
  if 0 ≤ v5 then (some (1, ((u2 S.1 51 0 ((S.1 51 0) + 1)), S.2.1, S.2.2.1, S.2.2.2))) else (some (0, S))
def bfX5_runOnce_51_25_88 (x : XT)  (S : ST) (v2 : Int32) (v3 : Int32) (t0 : Int32) : Option (Int32 × ST) :=
  if v3 = (-2000000000) then (bfX5_runOnce_51_25_103 x S) else (if ¬ t0 = (-2000000000) then (bif inb v2 12 then (if (S.2.1 26 v2.toNatClampNeg) = 263 then (match gfX1_sendThrough_33 x S v3 t0 with
    | none => none
    | some (r7, S8) => (bfX5_runOnce_51_25_194 x ((u2 S8.1 51 1 r7), S8.2.1, S8.2.2.1, S8.2.2.2) r7)) else (if (S.2.1 26 v2.toNatClampNeg) = 264 then (match gfX1_flip_33 x S v3 with
    | none => none
    | some (r12, S13) => (bfX5_runOnce_51_25_194 x S13 r12)) else (if (S.2.1 26 v2.toNatClampNeg) = 265 then (match gfX1_changeArm_33 x S v3 t0 with
    | none => none
    | some (r17, S18) => (bfX5_runOnce_51_25_194 x S18 r17)) else (match gfX1_nextDay_33 x S with
    | none => none
    | some (r21, S22) => (bfX5_runOnce_51_25_194 x S22 r21))))) else none) else (bfX5_runOnce_51_25_103 x S))
def bfX5_runOnce_51_25_60 (x : XT)  (S : ST) (v2 : Int32) (t0 : Int32) : Option (Int32 × ST) :=
  match gfX9_has_25 x S v2 1 with
    | none => none
    | some (r3, S4) => (if r3 = 0 then (bfX5_runOnce_51_25_88 x S4 v2 t0 0) else (match gfX9_reckon_25_52_53 x S4 v2 1 with
    | none => none
    | some (r8, S9) => (bfX5_runOnce_51_25_88 x S9 v2 t0 r8)))
def bfX5_runOnce_51_25_33 (x : XT)  (S : ST) (v2 : Int32) : Option (Int32 × ST) :=
  match gfX9_has_25 x S v2 0 with
    | none => none
    | some (r3, S4) => (if r3 = 0 then (bfX5_runOnce_51_25_60 x S4 v2 0) else (match gfX9_reckon_25_52_53 x S4 v2 0 with
    | none => none
    | some (r8, S9) => (bfX5_runOnce_51_25_60 x S9 v2 r8)))
def bfX5_runOnce_51_25_0 (x : XT)  (S : ST) (p2 : Int32) : Option (Int32 × ST) :=
  match gfX5_lookRound_51 x S with
    | none => none
    | some (r3, S4) => (match gfX9_has_25 x S4 p2 2 with
    | none => none
    | some (r7, S8) => (if r7 = 0 then (bfX5_runOnce_51_25_33 x S8 p2) else (match gfX9_reckon_25_52_53 x S8 p2 2 with
    | none => none
    | some (r12, S13) => (if r12 = 1 then (bfX5_runOnce_51_25_33 x S13 p2) else (some (1, S13))))))
def gfX5_runOnce_51_25 (x : XT) (S : ST) (p2 : Int32) : Option (Int32 × ST) := bfX5_runOnce_51_25_0 x S p2
def bfX5_run_51_25_22 (x : XT) (k12 : ST → Int32 → Option (Int32 × ST)) (k22 : ST → Int32 → Int32 → Option (Int32 × ST)) (S : ST) (v2 : Int32) (v3 : Int32) : Option (Int32 × ST) :=
  bif inb v2 12 then (if (S.2.1 27 v2.toNatClampNeg) ≤ v3 then (k12 S (v2 + 1)) else (match gfX5_runOnce_51_25 x S v2 with
    | none => none
    | some (r5, S6) => (if ¬ r5 = 0 then (k22 S6 v2 (v3 + 1)) else (some (v2, S6))))) else none
def lfX5_run_51_25_22 (x : XT) (k12 : ST → Int32 → Option (Int32 × ST)) : Nat → ST → Int32 → Int32 → Option (Int32 × ST)
  | 0, _, _, _ => none
  | n + 1, S, v2, v3 => bfX5_run_51_25_22 x k12 (lfX5_run_51_25_22 x k12 n) S v2 v3
def bfX5_run_51_25_12 (x : XT) (k12 : ST → Int32 → Option (Int32 × ST)) (S : ST) (v2 : Int32) : Option (Int32 × ST) :=
  if (S.1 25 0) ≤ v2 then (some ((-1), S)) else (lfX5_run_51_25_22 x k12 20000 S v2 0)
def lfX5_run_51_25_12 (x : XT)  : Nat → ST → Int32 → Option (Int32 × ST)
  | 0, _, _ => none
  | n + 1, S, v2 => bfX5_run_51_25_12 x (lfX5_run_51_25_12 x  n) S v2
def bfX5_run_51_25_0 (x : XT)  (S : ST)  : Option (Int32 × ST) :=
  lfX5_run_51_25_12 x  20000 ((u2 (u2 S.1 51 0 0) 51 1 (-1)), S.2.1, S.2.2.1, S.2.2.2) 0
def gfX5_run_51_25 (x : XT) (S : ST)  : Option (Int32 × ST) := bfX5_run_51_25_0 x S 
def bfX7_copyFrom_1_35_252 (x : XT) (k252 : ST → Int32 → Option (Unit × ST)) (S : ST) (v2 : Int32) : Option (Unit × ST) :=
  if 6 ≤ v2 then (some ((), S)) else (bif inb v2 6 then (bif inb v2 6 then (bif qk x (S.2.2.2 49 v2.toNatClampNeg) then (k252 (S.1, S.2.1, S.2.2.1, (u2 S.2.2.2 15 v2.toNatClampNeg (S.2.2.2 49 v2.toNatClampNeg))) (v2 + 1)) else none) else none) else none)
def lfX7_copyFrom_1_35_252 (x : XT)  : Nat → ST → Int32 → Option (Unit × ST)
  | 0, _, _ => none
  | n + 1, S, v2 => bfX7_copyFrom_1_35_252 x (lfX7_copyFrom_1_35_252 x  n) S v2
def bfX7_copyFrom_1_35_227 (x : XT) (k227 : ST → Int32 → Option (Unit × ST)) (S : ST) (v2 : Int32) : Option (Unit × ST) :=
  if 3 ≤ v2 then (lfX7_copyFrom_1_35_252 x  20000 S 0) else (bif inb v2 3 then (bif inb v2 3 then (k227 (S.1, (u2 S.2.1 14 v2.toNatClampNeg (S.2.1 48 v2.toNatClampNeg)), S.2.2.1, S.2.2.2) (v2 + 1)) else none) else none)
def lfX7_copyFrom_1_35_227 (x : XT)  : Nat → ST → Int32 → Option (Unit × ST)
  | 0, _, _ => none
  | n + 1, S, v2 => bfX7_copyFrom_1_35_227 x (lfX7_copyFrom_1_35_227 x  n) S v2
def bfX7_copyFrom_1_35_177 (x : XT) (k177 : ST → Int32 → Option (Unit × ST)) (S : ST) (v2 : Int32) : Option (Unit × ST) :=
  if 6 ≤ v2 then (lfX7_copyFrom_1_35_227 x  20000 S 0) else (bif inb v2 6 then (bif inb v2 6 then (bif inb v2 6 then (bif inb v2 6 then (bif inb v2 6 then (bif inb v2 6 then (k177 (S.1, (u2 (u2 (u2 S.2.1 11 v2.toNatClampNeg (S.2.1 45 v2.toNatClampNeg)) 12 v2.toNatClampNeg (S.2.1 46 v2.toNatClampNeg)) 13 v2.toNatClampNeg (S.2.1 47 v2.toNatClampNeg)), S.2.2.1, S.2.2.2) (v2 + 1)) else none) else none) else none) else none) else none) else none)
def lfX7_copyFrom_1_35_177 (x : XT)  : Nat → ST → Int32 → Option (Unit × ST)
  | 0, _, _ => none
  | n + 1, S, v2 => bfX7_copyFrom_1_35_177 x (lfX7_copyFrom_1_35_177 x  n) S v2
def bfX7_copyFrom_1_35_116 (x : XT) (k116 : ST → Int32 → Option (Unit × ST)) (S : ST) (v2 : Int32) : Option (Unit × ST) :=
  if 5 ≤ v2 then (lfX7_copyFrom_1_35_177 x  20000 S 0) else (bif inb v2 5 then (bif inb v2 5 then (bif inb v2 5 then (bif inb v2 5 then (bif inb v2 5 then (bif inb v2 5 then (bif inb v2 5 then (bif inb v2 5 then (k116 (S.1, (u2 (u2 (u2 (u2 S.2.1 7 v2.toNatClampNeg (S.2.1 41 v2.toNatClampNeg)) 8 v2.toNatClampNeg (S.2.1 42 v2.toNatClampNeg)) 9 v2.toNatClampNeg (S.2.1 43 v2.toNatClampNeg)) 10 v2.toNatClampNeg (S.2.1 44 v2.toNatClampNeg)), S.2.2.1, S.2.2.2) (v2 + 1)) else none) else none) else none) else none) else none) else none) else none) else none)
def lfX7_copyFrom_1_35_116 (x : XT)  : Nat → ST → Int32 → Option (Unit × ST)
  | 0, _, _ => none
  | n + 1, S, v2 => bfX7_copyFrom_1_35_116 x (lfX7_copyFrom_1_35_116 x  n) S v2
def bfX7_copyFrom_1_35_42 (x : XT) (k42 : ST → Int32 → Option (Unit × ST)) (S : ST) (v2 : Int32) : Option (Unit × ST) :=
  if 10 ≤ v2 then (lfX7_copyFrom_1_35_116 x  20000 S 0) else (bif inb v2 10 then (bif inb v2 10 then (bif inb v2 10 then (bif inb v2 10 then (bif inb v2 10 then (bif inb v2 10 then (bif inb v2 10 then (bif inb v2 10 then (bif inb v2 10 then (bif inb v2 10 then (k42 (S.1, (u2 (u2 (u2 (u2 (u2 S.2.1 2 v2.toNatClampNeg (S.2.1 36 v2.toNatClampNeg)) 3 v2.toNatClampNeg (S.2.1 37 v2.toNatClampNeg)) 4 v2.toNatClampNeg (S.2.1 38 v2.toNatClampNeg)) 5 v2.toNatClampNeg (S.2.1 39 v2.toNatClampNeg)) 6 v2.toNatClampNeg (vp_nar .boolean (S.2.1 40 v2.toNatClampNeg))), S.2.2.1, S.2.2.2) (v2 + 1)) else none) else none) else none) else none) else none) else none) else none) else none) else none) else none)
def lfX7_copyFrom_1_35_42 (x : XT)  : Nat → ST → Int32 → Option (Unit × ST)
  | 0, _, _ => none
  | n + 1, S, v2 => bfX7_copyFrom_1_35_42 x (lfX7_copyFrom_1_35_42 x  n) S v2
def bfX7_copyFrom_1_35_0 (x : XT)  (S : ST)  : Option (Unit × ST) :=
  lfX7_copyFrom_1_35_42 x  20000 ((u2 (u2 (u2 (u2 (u2 S.1 1 0 (S.1 35 0)) 1 6 (S.1 35 6)) 1 11 (S.1 35 11)) 1 16 (S.1 35 16)) 1 18 (S.1 35 18)), S.2.1, S.2.2.1, S.2.2.2) 0
def gfX7_copyFrom_1_35 (x : XT) (S : ST)  : Option (Unit × ST) := bfX7_copyFrom_1_35_0 x S 
def bfX1_restoreAhead_33_0 (x : XT)  (S : ST)  : Option (Unit × ST) :=
  match gfX7_copyFrom_1_35 x S with
    | none => none
    | some (r3, S4) => (some ((), ((u2 S4.1 33 0 (S4.1 33 6)), (u1 S4.2.1 34 (va_cpy (S4.2.1 50) (S4.2.1 34) 0 0 80)), S4.2.2.1, S4.2.2.2)))
def gfX1_restoreAhead_33 (x : XT) (S : ST)  : Option (Unit × ST) := bfX1_restoreAhead_33_0 x S 
def bfX10_orders_0_0 (x : XT)  (S : ST)  : Option (Int32 × ST) :=
  match gfX10_readTape_0 x ((u2 S.1 0 14 (-1)), S.2.1, S.2.2.1, S.2.2.2) 1 with
    | none => none
    | some (r3, S4) => (if ¬ r3 = 0 then (match gfX1_keepAhead_33 x S4 with
    | none => none
    | some (r8, S9) => (match gfX5_run_51_25 x S9 with
    | none => none
    | some (r12, S13) => (if r12 = (-1) then (match gfX10_told_0 x ((u2 S13.1 0 14 r12), S13.2.1, S13.2.2.1, S13.2.2.2) (S13.1 51 0) with
    | none => none
    | some (r17, S18) => (some (r17, S18))) else (match gfX1_restoreAhead_33 x ((u2 S13.1 0 14 r12), S13.2.1, S13.2.2.1, S13.2.2.2) with
    | none => none
    | some (r21, S22) => (match gfX10_told_0 x S22 (-3) with
    | none => none
    | some (r25, S26) => (some (r25, S26))))))) else (match gfX10_told_0 x S4 (-6) with
    | none => none
    | some (r29, S30) => (some (r29, S30))))
def gfX10_orders_0 (x : XT) (S : ST)  : Option (Int32 × ST) := bfX10_orders_0_0 x S 
def bfX10_fault_0_0 (x : XT)  (S : ST)  : Option (Int32 × ST) :=
  some ((S.1 0 13), S)
def gfX10_fault_0 (x : XT) (S : ST)  : Option (Int32 × ST) := bfX10_fault_0_0 x S 
def bfX10_stopped_0_0 (x : XT)  (S : ST)  : Option (Int32 × ST) :=
  some ((S.1 0 14), S)
def gfX10_stopped_0 (x : XT) (S : ST)  : Option (Int32 × ST) := bfX10_stopped_0_0 x S 
def bfX10_force_0_23 (x : XT)  (S : ST) (v1 : Int32) : Option (Int32 × ST) :=
  match gfX10_told_0 x S 0 with
    | none => none
    | some (r3, S4) => (some ((S4.1 1 18), ((u2 S4.1 1 18 v1), S4.2.1, S4.2.2.1, S4.2.2.2)))
def bfX10_force_0_0 (x : XT)  (S : ST) (p1 : Int32) : Option (Int32 × ST) :=
  if p1 = (-1) then (bfX10_force_0_23 x S p1) else (match gfX7_hasLaw_1 x S p1 with
    | none => none
    | some (r4, S5) => (if ¬ r4 = 0 then (bfX10_force_0_23 x S5 p1) else (match gfX10_told_0 x S5 (-2) with
    | none => none
    | some (r9, S10) => (some (r9, S10)))))
def gfX10_force_0 (x : XT) (S : ST) (p1 : Int32) : Option (Int32 × ST) := bfX10_force_0_0 x S p1
def bfX10_go_0_0 (x : XT)  (S : ST) (p1 : Int32) (p2 : Int32) : Option (Int32 × ST) :=
  match gfX1_sendThrough_33 x S p1 p2 with
    | none => none
    | some (r3, S4) => (match gfX10_told_0 x S4 r3 with
    | none => none
    | some (r7, S8) => (some (r7, S8)))
def gfX10_go_0 (x : XT) (S : ST) (p1 : Int32) (p2 : Int32) : Option (Int32 × ST) := bfX10_go_0_0 x S p1 p2
def bfX10_latch_0_0 (x : XT)  (S : ST) (p1 : Int32) : Option (Int32 × ST) :=
  match gfX1_flip_33 x S p1 with
    | none => none
    | some (r3, S4) => (match gfX10_told_0 x S4 r3 with
    | none => none
    | some (r7, S8) => (some (r7, S8)))
def gfX10_latch_0 (x : XT) (S : ST) (p1 : Int32) : Option (Int32 × ST) := bfX10_latch_0_0 x S p1
def bfX10_set_0_0 (x : XT)  (S : ST) (p1 : Int32) (p2 : Int32) : Option (Int32 × ST) :=
  match gfX1_changeArm_33 x S p1 p2 with
    | none => none
    | some (r3, S4) => (match gfX10_told_0 x S4 r3 with
    | none => none
    | some (r7, S8) => (some (r7, S8)))
def gfX10_set_0 (x : XT) (S : ST) (p1 : Int32) (p2 : Int32) : Option (Int32 × ST) := bfX10_set_0_0 x S p1 p2
def bfX10_pass_0_0 (x : XT)  (S : ST)  : Option (Int32 × ST) :=
  match gfX1_nextDay_33 x S with
    | none => none
    | some (r3, S4) => (match gfX10_told_0 x S4 r3 with
    | none => none
    | some (r7, S8) => (some (r7, S8)))
def gfX10_pass_0 (x : XT) (S : ST)  : Option (Int32 × ST) := bfX10_pass_0_0 x S 
def bfX1_takeBack_33_233 (x : XT)  (S : ST) (v1 : Int32) : Option (Int32 × ST) :=
  bif inb v1 80 then (some ((S.2.1 34 v1.toNatClampNeg) - 263, S)) else none
def bfX1_takeBack_33_208 (x : XT)  (S : ST) (v1 : Int32) : Option (Int32 × ST) :=
  bif inb v1 80 then (if ¬ (S.2.1 34 v1.toNatClampNeg) = 266 then (bfX1_takeBack_33_233 x S v1) else (bfX1_takeBack_33_233 x (S.1, (u2 S.2.1 14 0 ((S.2.1 14 0) - 1)), S.2.2.1, S.2.2.2) v1)) else none
def bfX1_takeBack_33_165 (x : XT)  (S : ST) (v1 : Int32) (v2 : Int32) : Option (Int32 × ST) :=
  bif inb v1 80 then (if ¬ (S.2.1 34 v1.toNatClampNeg) = 265 then (bfX1_takeBack_33_208 x S v1) else (match gfX7_hasGate_1 x S v2 with
    | none => none
    | some (r5, S6) => (if r5 = 0 then (bfX1_takeBack_33_208 x S6 v1) else (bif inb (v1 + 2) 80 then (bif inb v2 10 then (bfX1_takeBack_33_233 x (S6.1, (u2 S6.2.1 5 v2.toNatClampNeg (S6.2.1 34 ((v1 + 2).toNatClampNeg))), S6.2.2.1, S6.2.2.2) v1) else none) else none)))) else none
def bfX1_takeBack_33_161 (x : XT)  (S : ST) (v1 : Int32) (t1 : Int32) (t2 : Int32) : Option (Int32 × ST) :=
  bif inb t1 10 then (bfX1_takeBack_33_233 x (S.1, (u2 S.2.1 6 t1.toNatClampNeg (vp_nar .boolean t2)), S.2.2.1, S.2.2.2) v1) else none
def bfX1_takeBack_33_113 (x : XT)  (S : ST) (v1 : Int32) (v2 : Int32) : Option (Int32 × ST) :=
  bif inb v1 80 then (if ¬ (S.2.1 34 v1.toNatClampNeg) = 264 then (bfX1_takeBack_33_165 x S v1 v2) else (match gfX7_hasGate_1 x S v2 with
    | none => none
    | some (r5, S6) => (if r5 = 0 then (bfX1_takeBack_33_165 x S6 v1 v2) else (bif inb v2 10 then (if ¬ (S6.2.1 6 v2.toNatClampNeg) = 0 then (bfX1_takeBack_33_161 x S6 v1 v2 0) else (bfX1_takeBack_33_161 x S6 v1 v2 1)) else none)))) else none
def bfX1_takeBack_33_0 (x : XT)  (S : ST)  : Option (Int32 × ST) :=
  if 0 < (S.1 33 0) then (bif inb ((((S.1 33 0) - 1) * 5) + 1) 80 then (bif inb (((S.1 33 0) - 1) * 5) 80 then (if ¬ (S.2.1 34 ((((S.1 33 0) - 1) * 5).toNatClampNeg)) = 263 then (bfX1_takeBack_33_113 x ((u2 S.1 33 0 ((S.1 33 0) - 1)), S.2.1, S.2.2.1, S.2.2.2) (((S.1 33 0) - 1) * 5) (S.2.1 34 (((((S.1 33 0) - 1) * 5) + 1).toNatClampNeg))) else (match gfX7_hasGoer_1 x ((u2 S.1 33 0 ((S.1 33 0) - 1)), S.2.1, S.2.2.1, S.2.2.2) (S.2.1 34 (((((S.1 33 0) - 1) * 5) + 1).toNatClampNeg)) with
    | none => none
    | some (r7, S8) => (if r7 = 0 then (bfX1_takeBack_33_113 x S8 (((S.1 33 0) - 1) * 5) (S.2.1 34 (((((S.1 33 0) - 1) * 5) + 1).toNatClampNeg))) else (bif inb ((((S.1 33 0) - 1) * 5) + 2) 80 then (bif inb (S.2.1 34 (((((S.1 33 0) - 1) * 5) + 1).toNatClampNeg)) 5 then (bif inb ((((S.1 33 0) - 1) * 5) + 3) 80 then (bif inb (S.2.1 34 (((((S.1 33 0) - 1) * 5) + 1).toNatClampNeg)) 5 then (bif inb ((((S.1 33 0) - 1) * 5) + 4) 80 then (bif inb (S.2.1 34 (((((S.1 33 0) - 1) * 5) + 1).toNatClampNeg)) 5 then (bfX1_takeBack_33_233 x (S8.1, (u2 (u2 (u2 S8.2.1 7 ((S.2.1 34 (((((S.1 33 0) - 1) * 5) + 1).toNatClampNeg)).toNatClampNeg) (S8.2.1 34 (((((S.1 33 0) - 1) * 5) + 2).toNatClampNeg))) 8 ((S.2.1 34 (((((S.1 33 0) - 1) * 5) + 1).toNatClampNeg)).toNatClampNeg) (S8.2.1 34 (((((S.1 33 0) - 1) * 5) + 3).toNatClampNeg))) 10 ((S.2.1 34 (((((S.1 33 0) - 1) * 5) + 1).toNatClampNeg)).toNatClampNeg) (S8.2.1 34 (((((S.1 33 0) - 1) * 5) + 4).toNatClampNeg))), S8.2.2.1, S8.2.2.2) (((S.1 33 0) - 1) * 5)) else none) else none) else none) else none) else none) else none)))) else none) else none) else (some ((-3), S))
def gfX1_takeBack_33 (x : XT) (S : ST)  : Option (Int32 × ST) := bfX1_takeBack_33_0 x S 
def bfX10_undo_0_0 (x : XT)  (S : ST)  : Option (Int32 × ST) :=
  match gfX1_takeBack_33 x S with
    | none => none
    | some (r3, S4) => (match gfX10_told_0 x S4 r3 with
    | none => none
    | some (r7, S8) => (some (r7, S8)))
def gfX10_undo_0 (x : XT) (S : ST)  : Option (Int32 × ST) := bfX10_undo_0_0 x S 
def bfX10_canSeek_0_39 (x : XT)  (S : ST) (t0 : Int32) : Option (Int32 × ST) :=
  bif bbz t0 then (some (t0, S)) else none
end DEFS
