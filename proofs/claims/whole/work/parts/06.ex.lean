section EX
abbrev SG : Type := Nat × List (Option Value) × List Value × HP
def tgt (pc : Nat) (off : Int) : Option Nat := match (pc : Int) + off with
  | .ofNat t => some t
  | .negSucc _ => none
theorem tgt_ok {pc t : Nat} {off : Int} (h : tgt pc off = some t) : (pc : Int) + off = (t : Int) := by
  unfold tgt at h
  split at h
  · rename_i q e; cases h; rw [e]; rfl
  · cases h
def fnd : List (Nat × Instr × Nat) → Nat → Option (Instr × Nat)
  | [], _ => none
  | q :: t, pc => bif Nat.beq q.1 pc then some q.2 else fnd t pc
theorem fnd_mem : ∀ (l : List (Nat × Instr × Nat)) (i : Nat) (q : Instr × Nat), fnd l i = some q → (i, q) ∈ l
  | [], i, q, h => by simp [fnd] at h
  | p :: t, i, q, h => by
    cases hb : Nat.beq p.1 i with
    | true =>
      simp [fnd, hb] at h
      have := Nat.eq_of_beq_eq_true hb
      subst h; subst this
      exact List.mem_cons_self
    | false => exact List.mem_cons_of_mem _ (fnd_mem t i q (by simpa [fnd, hb] using h))
/-- the rows of a method's table are what the machine reads -/
def TOK (M : MI) : Prop := ∀ q ∈ mT M, decode (mB M) q.1 = .ok q.2
def sI (h : HP) (f : Nat → Nat → Int32) : HP := (kN h, kK h, kL h, f, kR h, kA h, kJ h, kQ h)
def sR (h : HP) (f : Nat → Nat → Option Nat) : HP := (kN h, kK h, kL h, kI h, f, kA h, kJ h, kQ h)
def sA (h : HP) (f : Nat → Nat → Int32) : HP := (kN h, kK h, kL h, kI h, kR h, f, kJ h, kQ h)
def sJ (h : HP) (f : Nat → Nat → Int64) : HP := (kN h, kK h, kL h, kI h, kR h, kA h, f, kQ h)
def sQ (h : HP) (f : Nat → Nat → Option Nat) : HP := (kN h, kK h, kL h, kI h, kR h, kA h, kJ h, f)
def oP (o : Option Prop) : Prop := match o with
  | none => True
  | some P => P
def cj (o : Option Prop) (P : Prop) : Prop := match o with
  | none => P
  | some R => R ∧ P
theorem cj_1 {o : Option Prop} {P : Prop} (h : cj o P) : oP o ∧ P := by
  cases o with
  | none => exact ⟨trivial, h⟩
  | some R => exact h
def ini (M : MI) : Bool := decide ((mY M).name = "<init>")
theorem ev_iconst {M : MI} {d bc bs pc : Nat} {lv : List (Option Value)} {st : List Value} {h : HP} {Q : Option Value → HP → Prop} {n : Int} (hd : decode (mB M) pc = .ok (.iconst n, 1))
    (k : Ev M d bc bs (pc + 1) lv (.int (Int32.ofInt n) :: st) h Q) : Ev M d bc bs pc lv (st) h Q :=
  ev_of (fun hx hb hl k => lv_iconst hx hb hd rfl k) k
theorem ev_bipush {M : MI} {d bc bs pc : Nat} {lv : List (Option Value)} {st : List Value} {h : HP} {Q : Option Value → HP → Prop} {n : Int} (hd : decode (mB M) pc = .ok (.bipush n, 2))
    (k : Ev M d bc bs (pc + 2) lv (.int (Int8.ofInt n).toInt32 :: st) h Q) : Ev M d bc bs pc lv (st) h Q :=
  ev_of (fun hx hb hl k => lv_bipush hx hb hd rfl k) k
theorem ev_sipush {M : MI} {d bc bs pc : Nat} {lv : List (Option Value)} {st : List Value} {h : HP} {Q : Option Value → HP → Prop} {n : Int} (hd : decode (mB M) pc = .ok (.sipush n, 3))
    (k : Ev M d bc bs (pc + 3) lv (.int (Int16.ofInt n).toInt32 :: st) h Q) : Ev M d bc bs pc lv (st) h Q :=
  ev_of (fun hx hb hl k => lv_sipush hx hb hd rfl k) k
theorem ev_lconst {M : MI} {d bc bs pc : Nat} {lv : List (Option Value)} {st : List Value} {h : HP} {Q : Option Value → HP → Prop} {n : Fin 2} (hd : decode (mB M) pc = .ok (.lconst n, 1))
    (k : Ev M d bc bs (pc + 1) lv (.long (Int64.ofNat (n : Nat)) :: st) h Q) : Ev M d bc bs pc lv (st) h Q :=
  ev_of (fun hx hb hl k => lv_lconst hx hb hd rfl k) k
theorem ev_null {M : MI} {d bc bs pc : Nat} {lv : List (Option Value)} {st : List Value} {h : HP} {Q : Option Value → HP → Prop}  (hd : decode (mB M) pc = .ok (.aconst_null, 1))
    (k : Ev M d bc bs (pc + 1) lv (.null :: st) h Q) : Ev M d bc bs pc lv (st) h Q :=
  ev_of (fun hx hb hl k => lv_null hx hb hd k) k
theorem ev_iadd {M : MI} {d bc bs pc : Nat} {lv : List (Option Value)} {st : List Value} {h : HP} {Q : Option Value → HP → Prop} {x y : Int32} (hd : decode (mB M) pc = .ok (.iadd, 1))
    (k : Ev M d bc bs (pc + 1) lv (.int (x + y) :: st) h Q) : Ev M d bc bs pc lv (.int y :: .int x :: st) h Q :=
  ev_of (fun hx hb hl k => lv_iadd hx hb hd k) k
theorem ev_isub {M : MI} {d bc bs pc : Nat} {lv : List (Option Value)} {st : List Value} {h : HP} {Q : Option Value → HP → Prop} {x y : Int32} (hd : decode (mB M) pc = .ok (.isub, 1))
    (k : Ev M d bc bs (pc + 1) lv (.int (x - y) :: st) h Q) : Ev M d bc bs pc lv (.int y :: .int x :: st) h Q :=
  ev_of (fun hx hb hl k => lv_isub hx hb hd k) k
theorem ev_imul {M : MI} {d bc bs pc : Nat} {lv : List (Option Value)} {st : List Value} {h : HP} {Q : Option Value → HP → Prop} {x y : Int32} (hd : decode (mB M) pc = .ok (.imul, 1))
    (k : Ev M d bc bs (pc + 1) lv (.int (x * y) :: st) h Q) : Ev M d bc bs pc lv (.int y :: .int x :: st) h Q :=
  ev_of (fun hx hb hl k => lv_imul hx hb hd k) k
theorem ev_iand {M : MI} {d bc bs pc : Nat} {lv : List (Option Value)} {st : List Value} {h : HP} {Q : Option Value → HP → Prop} {x y : Int32} (hd : decode (mB M) pc = .ok (.iand, 1))
    (k : Ev M d bc bs (pc + 1) lv (.int (x &&& y) :: st) h Q) : Ev M d bc bs pc lv (.int y :: .int x :: st) h Q :=
  ev_of (fun hx hb hl k => lv_iand hx hb hd k) k
theorem ev_ior {M : MI} {d bc bs pc : Nat} {lv : List (Option Value)} {st : List Value} {h : HP} {Q : Option Value → HP → Prop} {x y : Int32} (hd : decode (mB M) pc = .ok (.ior, 1))
    (k : Ev M d bc bs (pc + 1) lv (.int (x ||| y) :: st) h Q) : Ev M d bc bs pc lv (.int y :: .int x :: st) h Q :=
  ev_of (fun hx hb hl k => lv_ior hx hb hd k) k
theorem ev_ixor {M : MI} {d bc bs pc : Nat} {lv : List (Option Value)} {st : List Value} {h : HP} {Q : Option Value → HP → Prop} {x y : Int32} (hd : decode (mB M) pc = .ok (.ixor, 1))
    (k : Ev M d bc bs (pc + 1) lv (.int (x ^^^ y) :: st) h Q) : Ev M d bc bs pc lv (.int y :: .int x :: st) h Q :=
  ev_of (fun hx hb hl k => lv_ixor hx hb hd k) k
theorem ev_ishl {M : MI} {d bc bs pc : Nat} {lv : List (Option Value)} {st : List Value} {h : HP} {Q : Option Value → HP → Prop} {x y : Int32} (hd : decode (mB M) pc = .ok (.ishl, 1))
    (k : Ev M d bc bs (pc + 1) lv (.int (x <<< (y &&& 31)) :: st) h Q) : Ev M d bc bs pc lv (.int y :: .int x :: st) h Q :=
  ev_of (fun hx hb hl k => lv_ishl hx hb hd k) k
theorem ev_ishr {M : MI} {d bc bs pc : Nat} {lv : List (Option Value)} {st : List Value} {h : HP} {Q : Option Value → HP → Prop} {x y : Int32} (hd : decode (mB M) pc = .ok (.ishr, 1))
    (k : Ev M d bc bs (pc + 1) lv (.int (x >>> (y &&& 31)) :: st) h Q) : Ev M d bc bs pc lv (.int y :: .int x :: st) h Q :=
  ev_of (fun hx hb hl k => lv_ishr hx hb hd k) k
theorem ev_iushr {M : MI} {d bc bs pc : Nat} {lv : List (Option Value)} {st : List Value} {h : HP} {Q : Option Value → HP → Prop} {x y : Int32} (hd : decode (mB M) pc = .ok (.iushr, 1))
    (k : Ev M d bc bs (pc + 1) lv (.int ((x.toUInt32 >>> (y.toUInt32 &&& Int32.toUInt32 31)).toInt32) :: st) h Q) : Ev M d bc bs pc lv (.int y :: .int x :: st) h Q :=
  ev_of (fun hx hb hl k => lv_iushr hx hb hd rfl k) k
theorem ev_idiv {M : MI} {d bc bs pc : Nat} {lv : List (Option Value)} {st : List Value} {h : HP} {Q : Option Value → HP → Prop} {x y : Int32} (hd : decode (mB M) pc = .ok (.idiv, 1)) (hne : ¬ y = 0)
    (k : Ev M d bc bs (pc + 1) lv (.int (x / y) :: st) h Q) : Ev M d bc bs pc lv (.int y :: .int x :: st) h Q :=
  ev_of (fun hx hb hl k => lv_idiv hx hb hd hne k) k
theorem ev_irem {M : MI} {d bc bs pc : Nat} {lv : List (Option Value)} {st : List Value} {h : HP} {Q : Option Value → HP → Prop} {x y : Int32} (hd : decode (mB M) pc = .ok (.irem, 1)) (hne : ¬ y = 0)
    (k : Ev M d bc bs (pc + 1) lv (.int (x - x / y * y) :: st) h Q) : Ev M d bc bs pc lv (.int y :: .int x :: st) h Q :=
  ev_of (fun hx hb hl k => lv_irem hx hb hd hne k) k
theorem ev_ladd {M : MI} {d bc bs pc : Nat} {lv : List (Option Value)} {st : List Value} {h : HP} {Q : Option Value → HP → Prop} {x y : Int64} (hd : decode (mB M) pc = .ok (.ladd, 1))
    (k : Ev M d bc bs (pc + 1) lv (.long (x + y) :: st) h Q) : Ev M d bc bs pc lv (.long y :: .long x :: st) h Q :=
  ev_of (fun hx hb hl k => lv_ladd hx hb hd k) k
theorem ev_lsub {M : MI} {d bc bs pc : Nat} {lv : List (Option Value)} {st : List Value} {h : HP} {Q : Option Value → HP → Prop} {x y : Int64} (hd : decode (mB M) pc = .ok (.lsub, 1))
    (k : Ev M d bc bs (pc + 1) lv (.long (x - y) :: st) h Q) : Ev M d bc bs pc lv (.long y :: .long x :: st) h Q :=
  ev_of (fun hx hb hl k => lv_lsub hx hb hd k) k
theorem ev_lmul {M : MI} {d bc bs pc : Nat} {lv : List (Option Value)} {st : List Value} {h : HP} {Q : Option Value → HP → Prop} {x y : Int64} (hd : decode (mB M) pc = .ok (.lmul, 1))
    (k : Ev M d bc bs (pc + 1) lv (.long (x * y) :: st) h Q) : Ev M d bc bs pc lv (.long y :: .long x :: st) h Q :=
  ev_of (fun hx hb hl k => lv_lmul hx hb hd k) k
theorem ev_ldiv {M : MI} {d bc bs pc : Nat} {lv : List (Option Value)} {st : List Value} {h : HP} {Q : Option Value → HP → Prop} {x y : Int64} (hd : decode (mB M) pc = .ok (.ldiv, 1)) (hne : ¬ y = 0)
    (k : Ev M d bc bs (pc + 1) lv (.long (x / y) :: st) h Q) : Ev M d bc bs pc lv (.long y :: .long x :: st) h Q :=
  ev_of (fun hx hb hl k => lv_ldiv hx hb hd hne k) k
theorem ev_lrem {M : MI} {d bc bs pc : Nat} {lv : List (Option Value)} {st : List Value} {h : HP} {Q : Option Value → HP → Prop} {x y : Int64} (hd : decode (mB M) pc = .ok (.lrem, 1)) (hne : ¬ y = 0)
    (k : Ev M d bc bs (pc + 1) lv (.long (x - x / y * y) :: st) h Q) : Ev M d bc bs pc lv (.long y :: .long x :: st) h Q :=
  ev_of (fun hx hb hl k => lv_lrem hx hb hd hne k) k
theorem ev_lcmp {M : MI} {d bc bs pc : Nat} {lv : List (Option Value)} {st : List Value} {h : HP} {Q : Option Value → HP → Prop} {x y : Int64} (hd : decode (mB M) pc = .ok (.lcmp, 1))
    (k : Ev M d bc bs (pc + 1) lv (.int (lg_cmp x y) :: st) h Q) : Ev M d bc bs pc lv (.long y :: .long x :: st) h Q :=
  ev_of (fun hx hb hl k => W.lcmp hx hb hd k) k
theorem ev_ineg {M : MI} {d bc bs pc : Nat} {lv : List (Option Value)} {st : List Value} {h : HP} {Q : Option Value → HP → Prop} {x : Int32} (hd : decode (mB M) pc = .ok (.ineg, 1))
    (k : Ev M d bc bs (pc + 1) lv (.int (-x) :: st) h Q) : Ev M d bc bs pc lv (.int x :: st) h Q :=
  ev_of (fun hx hb hl k => lv_ineg hx hb hd k) k
theorem ev_i2l {M : MI} {d bc bs pc : Nat} {lv : List (Option Value)} {st : List Value} {h : HP} {Q : Option Value → HP → Prop} {x : Int32} (hd : decode (mB M) pc = .ok (.i2l, 1))
    (k : Ev M d bc bs (pc + 1) lv (.long x.toInt64 :: st) h Q) : Ev M d bc bs pc lv (.int x :: st) h Q :=
  ev_of (fun hx hb hl k => lv_i2l hx hb hd rfl k) k
theorem ev_i2b {M : MI} {d bc bs pc : Nat} {lv : List (Option Value)} {st : List Value} {h : HP} {Q : Option Value → HP → Prop} {x : Int32} (hd : decode (mB M) pc = .ok (.i2b, 1))
    (k : Ev M d bc bs (pc + 1) lv (.int x.toInt8.toInt32 :: st) h Q) : Ev M d bc bs pc lv (.int x :: st) h Q :=
  ev_of (fun hx hb hl k => lv_i2b hx hb hd rfl k) k
theorem ev_l2i {M : MI} {d bc bs pc : Nat} {lv : List (Option Value)} {st : List Value} {h : HP} {Q : Option Value → HP → Prop} {x : Int64} (hd : decode (mB M) pc = .ok (.l2i, 1))
    (k : Ev M d bc bs (pc + 1) lv (.int x.toInt32 :: st) h Q) : Ev M d bc bs pc lv (.long x :: st) h Q :=
  ev_of (fun hx hb hl k => lv_l2i hx hb hd rfl k) k
theorem ev_dup {M : MI} {d bc bs pc : Nat} {lv : List (Option Value)} {st : List Value} {h : HP} {Q : Option Value → HP → Prop} {a : Value} (hd : decode (mB M) pc = .ok (.dup, 1)) (ha : a.category = 1)
    (k : Ev M d bc bs (pc + 1) lv (a :: a :: st) h Q) : Ev M d bc bs pc lv (a :: st) h Q :=
  ev_of (fun hx hb hl k => lv_dup hx hb hd (by rw [cv_cat]; exact ha) k) k
theorem ev_pop {M : MI} {d bc bs pc : Nat} {lv : List (Option Value)} {st : List Value} {h : HP} {Q : Option Value → HP → Prop} {a : Value} (hd : decode (mB M) pc = .ok (.pop, 1)) (ha : a.category = 1)
    (k : Ev M d bc bs (pc + 1) lv (st) h Q) : Ev M d bc bs pc lv (a :: st) h Q :=
  ev_of (fun hx hb hl k => lv_pop hx hb hd (by rw [cv_cat]; exact ha) k) k
theorem ev_dup_x1 {M : MI} {d bc bs pc : Nat} {lv : List (Option Value)} {st : List Value} {h : HP} {Q : Option Value → HP → Prop} {a b : Value} (hd : decode (mB M) pc = .ok (.dup_x1, 1)) (ha : a.category = 1) (hb2 : b.category = 1)
    (k : Ev M d bc bs (pc + 1) lv (a :: b :: a :: st) h Q) : Ev M d bc bs pc lv (a :: b :: st) h Q :=
  ev_of (fun hx hb hl k => lv_dup_x1 hx hb hd (by rw [cv_cat]; exact ha) (by rw [cv_cat]; exact hb2) k) k
theorem ev_dup2 {M : MI} {d bc bs pc : Nat} {lv : List (Option Value)} {st : List Value} {h : HP} {Q : Option Value → HP → Prop} {a b : Value} (hd : decode (mB M) pc = .ok (.dup2, 1)) (ha : a.category = 1) (hb2 : b.category = 1)
    (k : Ev M d bc bs (pc + 1) lv (a :: b :: a :: b :: st) h Q) : Ev M d bc bs pc lv (a :: b :: st) h Q :=
  ev_of (fun hx hb hl k => lv_dup2_11 hx hb hd (by rw [cv_cat]; exact ha) (by rw [cv_cat]; exact hb2) k) k
theorem ev_icmp_eq {M : MI} {d bc bs pc t : Nat} {off : Int} {x y : Int32} {lv : List (Option Value)} {st : List Value} {h : HP} {Q : Option Value → HP → Prop} (hd : decode (mB M) pc = .ok (.if_icmp .eq off, 3)) (ht : tgt pc off = some t)
    (k : Ev M d bc bs (if x = y then t else pc + 3) lv st h Q) : Ev M d bc bs pc lv (.int y :: .int x :: st) h Q := by
  refine ev_of (fun hx hb hl k => ?_) k
  by_cases q : x = y
  · rw [if_pos q] at k; exact lv_icmp_eq hx hb hd (tgt_ok ht) (fun _ => k) (fun z => absurd q (by simpa using z))
  · rw [if_neg q] at k; exact lv_icmp_eq hx hb hd (tgt_ok ht) (fun z => absurd z q) (fun _ => k)
theorem ev_if_eq {M : MI} {d bc bs pc t : Nat} {off : Int} {x : Int32} {lv : List (Option Value)} {st : List Value} {h : HP} {Q : Option Value → HP → Prop} (hd : decode (mB M) pc = .ok (.ifCond .eq off, 3)) (ht : tgt pc off = some t)
    (k : Ev M d bc bs (if x = 0 then t else pc + 3) lv st h Q) : Ev M d bc bs pc lv (.int x :: st) h Q := by
  refine ev_of (fun hx hb hl k => ?_) k
  by_cases q : x = 0
  · rw [if_pos q] at k; exact lv_if_eq hx hb hd (tgt_ok ht) (fun _ => k) (fun z => absurd q (by simpa using z))
  · rw [if_neg q] at k; exact lv_if_eq hx hb hd (tgt_ok ht) (fun z => absurd z q) (fun _ => k)
theorem ev_icmp_ne {M : MI} {d bc bs pc t : Nat} {off : Int} {x y : Int32} {lv : List (Option Value)} {st : List Value} {h : HP} {Q : Option Value → HP → Prop} (hd : decode (mB M) pc = .ok (.if_icmp .ne off, 3)) (ht : tgt pc off = some t)
    (k : Ev M d bc bs (if ¬ x = y then t else pc + 3) lv st h Q) : Ev M d bc bs pc lv (.int y :: .int x :: st) h Q := by
  refine ev_of (fun hx hb hl k => ?_) k
  by_cases q : ¬ x = y
  · rw [if_pos q] at k; exact lv_icmp_ne hx hb hd (tgt_ok ht) (fun _ => k) (fun z => absurd q (by simpa using z))
  · rw [if_neg q] at k; exact lv_icmp_ne hx hb hd (tgt_ok ht) (fun z => absurd z q) (fun _ => k)
theorem ev_if_ne {M : MI} {d bc bs pc t : Nat} {off : Int} {x : Int32} {lv : List (Option Value)} {st : List Value} {h : HP} {Q : Option Value → HP → Prop} (hd : decode (mB M) pc = .ok (.ifCond .ne off, 3)) (ht : tgt pc off = some t)
    (k : Ev M d bc bs (if ¬ x = 0 then t else pc + 3) lv st h Q) : Ev M d bc bs pc lv (.int x :: st) h Q := by
  refine ev_of (fun hx hb hl k => ?_) k
  by_cases q : ¬ x = 0
  · rw [if_pos q] at k; exact lv_if_ne hx hb hd (tgt_ok ht) (fun _ => k) (fun z => absurd q (by simpa using z))
  · rw [if_neg q] at k; exact lv_if_ne hx hb hd (tgt_ok ht) (fun z => absurd z q) (fun _ => k)
theorem ev_icmp_lt {M : MI} {d bc bs pc t : Nat} {off : Int} {x y : Int32} {lv : List (Option Value)} {st : List Value} {h : HP} {Q : Option Value → HP → Prop} (hd : decode (mB M) pc = .ok (.if_icmp .lt off, 3)) (ht : tgt pc off = some t)
    (k : Ev M d bc bs (if x < y then t else pc + 3) lv st h Q) : Ev M d bc bs pc lv (.int y :: .int x :: st) h Q := by
  refine ev_of (fun hx hb hl k => ?_) k
  by_cases q : x < y
  · rw [if_pos q] at k; exact lv_icmp_lt hx hb hd (tgt_ok ht) (fun _ => k) (fun z => absurd q (by simpa using z))
  · rw [if_neg q] at k; exact lv_icmp_lt hx hb hd (tgt_ok ht) (fun z => absurd z q) (fun _ => k)
theorem ev_if_lt {M : MI} {d bc bs pc t : Nat} {off : Int} {x : Int32} {lv : List (Option Value)} {st : List Value} {h : HP} {Q : Option Value → HP → Prop} (hd : decode (mB M) pc = .ok (.ifCond .lt off, 3)) (ht : tgt pc off = some t)
    (k : Ev M d bc bs (if x < 0 then t else pc + 3) lv st h Q) : Ev M d bc bs pc lv (.int x :: st) h Q := by
  refine ev_of (fun hx hb hl k => ?_) k
  by_cases q : x < 0
  · rw [if_pos q] at k; exact lv_if_lt hx hb hd (tgt_ok ht) (fun _ => k) (fun z => absurd q (by simpa using z))
  · rw [if_neg q] at k; exact lv_if_lt hx hb hd (tgt_ok ht) (fun z => absurd z q) (fun _ => k)
theorem ev_icmp_ge {M : MI} {d bc bs pc t : Nat} {off : Int} {x y : Int32} {lv : List (Option Value)} {st : List Value} {h : HP} {Q : Option Value → HP → Prop} (hd : decode (mB M) pc = .ok (.if_icmp .ge off, 3)) (ht : tgt pc off = some t)
    (k : Ev M d bc bs (if y ≤ x then t else pc + 3) lv st h Q) : Ev M d bc bs pc lv (.int y :: .int x :: st) h Q := by
  refine ev_of (fun hx hb hl k => ?_) k
  by_cases q : y ≤ x
  · rw [if_pos q] at k; exact lv_icmp_ge hx hb hd (tgt_ok ht) (fun _ => k) (fun z => absurd q (by simpa using z))
  · rw [if_neg q] at k; exact lv_icmp_ge hx hb hd (tgt_ok ht) (fun z => absurd z q) (fun _ => k)
theorem ev_if_ge {M : MI} {d bc bs pc t : Nat} {off : Int} {x : Int32} {lv : List (Option Value)} {st : List Value} {h : HP} {Q : Option Value → HP → Prop} (hd : decode (mB M) pc = .ok (.ifCond .ge off, 3)) (ht : tgt pc off = some t)
    (k : Ev M d bc bs (if 0 ≤ x then t else pc + 3) lv st h Q) : Ev M d bc bs pc lv (.int x :: st) h Q := by
  refine ev_of (fun hx hb hl k => ?_) k
  by_cases q : 0 ≤ x
  · rw [if_pos q] at k; exact lv_if_ge hx hb hd (tgt_ok ht) (fun _ => k) (fun z => absurd q (by simpa using z))
  · rw [if_neg q] at k; exact lv_if_ge hx hb hd (tgt_ok ht) (fun z => absurd z q) (fun _ => k)
theorem ev_icmp_gt {M : MI} {d bc bs pc t : Nat} {off : Int} {x y : Int32} {lv : List (Option Value)} {st : List Value} {h : HP} {Q : Option Value → HP → Prop} (hd : decode (mB M) pc = .ok (.if_icmp .gt off, 3)) (ht : tgt pc off = some t)
    (k : Ev M d bc bs (if y < x then t else pc + 3) lv st h Q) : Ev M d bc bs pc lv (.int y :: .int x :: st) h Q := by
  refine ev_of (fun hx hb hl k => ?_) k
  by_cases q : y < x
  · rw [if_pos q] at k; exact lv_icmp_gt hx hb hd (tgt_ok ht) (fun _ => k) (fun z => absurd q (by simpa using z))
  · rw [if_neg q] at k; exact lv_icmp_gt hx hb hd (tgt_ok ht) (fun z => absurd z q) (fun _ => k)
theorem ev_if_gt {M : MI} {d bc bs pc t : Nat} {off : Int} {x : Int32} {lv : List (Option Value)} {st : List Value} {h : HP} {Q : Option Value → HP → Prop} (hd : decode (mB M) pc = .ok (.ifCond .gt off, 3)) (ht : tgt pc off = some t)
    (k : Ev M d bc bs (if 0 < x then t else pc + 3) lv st h Q) : Ev M d bc bs pc lv (.int x :: st) h Q := by
  refine ev_of (fun hx hb hl k => ?_) k
  by_cases q : 0 < x
  · rw [if_pos q] at k; exact lv_if_gt hx hb hd (tgt_ok ht) (fun _ => k) (fun z => absurd q (by simpa using z))
  · rw [if_neg q] at k; exact lv_if_gt hx hb hd (tgt_ok ht) (fun z => absurd z q) (fun _ => k)
theorem ev_icmp_le {M : MI} {d bc bs pc t : Nat} {off : Int} {x y : Int32} {lv : List (Option Value)} {st : List Value} {h : HP} {Q : Option Value → HP → Prop} (hd : decode (mB M) pc = .ok (.if_icmp .le off, 3)) (ht : tgt pc off = some t)
    (k : Ev M d bc bs (if x ≤ y then t else pc + 3) lv st h Q) : Ev M d bc bs pc lv (.int y :: .int x :: st) h Q := by
  refine ev_of (fun hx hb hl k => ?_) k
  by_cases q : x ≤ y
  · rw [if_pos q] at k; exact lv_icmp_le hx hb hd (tgt_ok ht) (fun _ => k) (fun z => absurd q (by simpa using z))
  · rw [if_neg q] at k; exact lv_icmp_le hx hb hd (tgt_ok ht) (fun z => absurd z q) (fun _ => k)
theorem ev_if_le {M : MI} {d bc bs pc t : Nat} {off : Int} {x : Int32} {lv : List (Option Value)} {st : List Value} {h : HP} {Q : Option Value → HP → Prop} (hd : decode (mB M) pc = .ok (.ifCond .le off, 3)) (ht : tgt pc off = some t)
    (k : Ev M d bc bs (if x ≤ 0 then t else pc + 3) lv st h Q) : Ev M d bc bs pc lv (.int x :: st) h Q := by
  refine ev_of (fun hx hb hl k => ?_) k
  by_cases q : x ≤ 0
  · rw [if_pos q] at k; exact lv_if_le hx hb hd (tgt_ok ht) (fun _ => k) (fun z => absurd q (by simpa using z))
  · rw [if_neg q] at k; exact lv_if_le hx hb hd (tgt_ok ht) (fun z => absurd z q) (fun _ => k)
theorem ev_goto {M : MI} {d bc bs pc : Nat} {lv : List (Option Value)} {st : List Value} {h : HP} {Q : Option Value → HP → Prop} {t : Nat} {off : Int} (hd : decode (mB M) pc = .ok (.goto off, 3)) (ht : tgt pc off = some t)
    (k : Ev M d bc bs t lv (st) h Q) : Ev M d bc bs pc lv (st) h Q :=
  ev_of (fun hx hb hl k => lv_goto hx hb hd (tgt_ok ht) k) k
theorem ev_ifnull {M : MI} {d bc bs pc : Nat} {lv : List (Option Value)} {st : List Value} {h : HP} {Q : Option Value → HP → Prop} {a : Nat} {off : Int} (hd : decode (mB M) pc = .ok (.ifnull off, 3))
    (k : Ev M d bc bs (pc + 3) lv (st) h Q) : Ev M d bc bs pc lv (.ref a :: st) h Q :=
  ev_of (fun hx hb hl k => lv_ifnull hx hb hd k) k
theorem ev_ifnullN {M : MI} {d bc bs pc : Nat} {lv : List (Option Value)} {st : List Value} {h : HP} {Q : Option Value → HP → Prop} {t : Nat} {off : Int} (hd : decode (mB M) pc = .ok (.ifnull off, 3)) (ht : tgt pc off = some t)
    (k : Ev M d bc bs t lv (st) h Q) : Ev M d bc bs pc lv (.null :: st) h Q :=
  ev_of (fun hx hb hl k => lv_ifnullN hx hb hd (tgt_ok ht) k) k
theorem ev_iload {M : MI} {d bc bs pc : Nat} {lv : List (Option Value)} {st : List Value} {h : HP} {Q : Option Value → HP → Prop} {i : Nat} {x : Int32} (hd : decode (mB M) pc = .ok (.iload i, 2)) (hv : lg lv i = some (.int x))
    (k : Ev M d bc bs (pc + 2) lv (.int x :: st) h Q) : Ev M d bc bs pc lv (st) h Q :=
  ev_of (fun hx hb hl k => lv_iload hx hb hd (hl.at hv) k) k
theorem ev_iload_n {M : MI} {d bc bs pc : Nat} {lv : List (Option Value)} {st : List Value} {h : HP} {Q : Option Value → HP → Prop} {i : Fin 4} {x : Int32} (hd : decode (mB M) pc = .ok (.iload_n i, 1)) (hv : lg lv i.val = some (.int x))
    (k : Ev M d bc bs (pc + 1) lv (.int x :: st) h Q) : Ev M d bc bs pc lv (st) h Q :=
  ev_of (fun hx hb hl k => lv_iload_n hx hb hd rfl (hl.at hv) k) k
theorem ev_lload {M : MI} {d bc bs pc : Nat} {lv : List (Option Value)} {st : List Value} {h : HP} {Q : Option Value → HP → Prop} {i : Nat} {x : Int64} (hd : decode (mB M) pc = .ok (.lload i, 2)) (hv : lg lv i = some (.long x))
    (k : Ev M d bc bs (pc + 2) lv (.long x :: st) h Q) : Ev M d bc bs pc lv (st) h Q :=
  ev_of (fun hx hb hl k => lv_lload hx hb hd (hl.at hv) k) k
theorem ev_lload_n {M : MI} {d bc bs pc : Nat} {lv : List (Option Value)} {st : List Value} {h : HP} {Q : Option Value → HP → Prop} {i : Fin 4} {x : Int64} (hd : decode (mB M) pc = .ok (.lload_n i, 1)) (hv : lg lv i.val = some (.long x))
    (k : Ev M d bc bs (pc + 1) lv (.long x :: st) h Q) : Ev M d bc bs pc lv (st) h Q :=
  ev_of (fun hx hb hl k => lv_lload_n hx hb hd rfl (hl.at hv) k) k
theorem ev_aload {M : MI} {d bc bs pc : Nat} {lv : List (Option Value)} {st : List Value} {h : HP} {Q : Option Value → HP → Prop} {i : Nat} {x : Nat} (hd : decode (mB M) pc = .ok (.aload i, 2)) (hv : lg lv i = some (.ref x))
    (k : Ev M d bc bs (pc + 2) lv (.ref x :: st) h Q) : Ev M d bc bs pc lv (st) h Q :=
  ev_of (fun hx hb hl k => lv_aload hx hb hd (hl.at hv) k) k
theorem ev_aload_n {M : MI} {d bc bs pc : Nat} {lv : List (Option Value)} {st : List Value} {h : HP} {Q : Option Value → HP → Prop} {i : Fin 4} {x : Nat} (hd : decode (mB M) pc = .ok (.aload_n i, 1)) (hv : lg lv i.val = some (.ref x))
    (k : Ev M d bc bs (pc + 1) lv (.ref x :: st) h Q) : Ev M d bc bs pc lv (st) h Q :=
  ev_of (fun hx hb hl k => lv_aload_n hx hb hd rfl (hl.at hv) k) k
theorem ev_aloadN {M : MI} {d bc bs pc : Nat} {lv : List (Option Value)} {st : List Value} {h : HP} {Q : Option Value → HP → Prop} {i : Nat} (hd : decode (mB M) pc = .ok (.aload i, 2)) (hv : lg lv i = some .null)
    (k : Ev M d bc bs (pc + 2) lv (.null :: st) h Q) : Ev M d bc bs pc lv (st) h Q :=
  ev_of (fun hx hb hl k => lv_aloadN hx hb hd (hl.at hv) k) k
theorem ev_istore {M : MI} {d bc bs pc : Nat} {i : Nat} {x : Int32} {lv : List (Option Value)} {st : List Value} {h : HP} {Q : Option Value → HP → Prop} (hd : decode (mB M) pc = .ok (.istore i, 2)) (hi : i < mX M)
    (k : Ev M d bc bs (pc + 2) (ls1 lv i (.int x)) st h Q) : Ev M d bc bs pc lv (.int x :: st) h Q :=
  ev_full (Nat.le_refl _) (fun C _ _ _ hH hS hl kk => lv_istore C.1 C.2.1 hd hl hi rfl (fun ls1 hl1 => kk _ _ ls1 hH hS (LV.st1 hl1))) k
theorem ev_istore_n {M : MI} {d bc bs pc : Nat} {i : Fin 4} {x : Int32} {lv : List (Option Value)} {st : List Value} {h : HP} {Q : Option Value → HP → Prop} (hd : decode (mB M) pc = .ok (.istore_n i, 1)) (hi : i.val < mX M)
    (k : Ev M d bc bs (pc + 1) (ls1 lv i.val (.int x)) st h Q) : Ev M d bc bs pc lv (.int x :: st) h Q :=
  ev_full (Nat.le_refl _) (fun C _ _ _ hH hS hl kk => lv_istore_n C.1 C.2.1 hd rfl hl hi rfl (fun ls1 hl1 => kk _ _ ls1 hH hS (LV.st1 hl1))) k
theorem ev_lstore {M : MI} {d bc bs pc : Nat} {i : Nat} {x : Int64} {lv : List (Option Value)} {st : List Value} {h : HP} {Q : Option Value → HP → Prop} (hd : decode (mB M) pc = .ok (.lstore i, 2)) (hi : i + 1 < mX M)
    (k : Ev M d bc bs (pc + 2) (ls2 lv i (.long x)) st h Q) : Ev M d bc bs pc lv (.long x :: st) h Q :=
  ev_full (Nat.le_refl _) (fun C _ _ _ hH hS hl kk => lv_lstore C.1 C.2.1 hd hl hi rfl (fun ls1 hl1 => kk _ _ ls1 hH hS (LV.st2 hl1))) k
theorem ev_lstore_n {M : MI} {d bc bs pc : Nat} {i : Fin 4} {x : Int64} {lv : List (Option Value)} {st : List Value} {h : HP} {Q : Option Value → HP → Prop} (hd : decode (mB M) pc = .ok (.lstore_n i, 1)) (hi : i.val + 1 < mX M)
    (k : Ev M d bc bs (pc + 1) (ls2 lv i.val (.long x)) st h Q) : Ev M d bc bs pc lv (.long x :: st) h Q :=
  ev_full (Nat.le_refl _) (fun C _ _ _ hH hS hl kk => lv_lstore_n C.1 C.2.1 hd rfl hl hi rfl (fun ls1 hl1 => kk _ _ ls1 hH hS (LV.st2 hl1))) k
theorem ev_astore {M : MI} {d bc bs pc : Nat} {i : Nat} {x : Nat} {lv : List (Option Value)} {st : List Value} {h : HP} {Q : Option Value → HP → Prop} (hd : decode (mB M) pc = .ok (.astore i, 2)) (hi : i < mX M)
    (k : Ev M d bc bs (pc + 2) (ls1 lv i (.ref x)) st h Q) : Ev M d bc bs pc lv (.ref x :: st) h Q :=
  ev_full (Nat.le_refl _) (fun C _ _ _ hH hS hl kk => lv_astore C.1 C.2.1 hd hl hi rfl (fun ls1 hl1 => kk _ _ ls1 hH hS (LV.st1 hl1))) k
theorem ev_astore_n {M : MI} {d bc bs pc : Nat} {i : Fin 4} {x : Nat} {lv : List (Option Value)} {st : List Value} {h : HP} {Q : Option Value → HP → Prop} (hd : decode (mB M) pc = .ok (.astore_n i, 1)) (hi : i.val < mX M)
    (k : Ev M d bc bs (pc + 1) (ls1 lv i.val (.ref x)) st h Q) : Ev M d bc bs pc lv (.ref x :: st) h Q :=
  ev_full (Nat.le_refl _) (fun C _ _ _ hH hS hl kk => lv_astore_n C.1 C.2.1 hd rfl hl hi rfl (fun ls1 hl1 => kk _ _ ls1 hH hS (LV.st1 hl1))) k
theorem ev_astoreN {M : MI} {d bc bs pc : Nat} {i : Nat}  {lv : List (Option Value)} {st : List Value} {h : HP} {Q : Option Value → HP → Prop} (hd : decode (mB M) pc = .ok (.astore i, 2)) (hi : i < mX M)
    (k : Ev M d bc bs (pc + 2) (ls1 lv i (.null)) st h Q) : Ev M d bc bs pc lv (.null :: st) h Q :=
  ev_full (Nat.le_refl _) (fun C _ _ _ hH hS hl kk => lv_astoreN C.1 C.2.1 hd hl hi rfl (fun ls1 hl1 => kk _ _ ls1 hH hS (LV.st1 hl1))) k
theorem ev_iinc {M : MI} {d bc bs pc i : Nat} {n : Int} {x : Int32} {lv : List (Option Value)} {st : List Value} {h : HP} {Q : Option Value → HP → Prop} (hd : decode (mB M) pc = .ok (.iinc i n, 3)) (hi : i < mX M) (hv : lg lv i = some (.int x))
    (k : Ev M d bc bs (pc + 3) (ls1 lv i (.int (x + Int32.ofInt n))) st h Q) : Ev M d bc bs pc lv st h Q := by
  refine ev_full (Nat.le_refl _) (fun {p l e R s m args below meth c D cy G L xs H locs cells slots ls Z} C _ _ _ hH hS hl kk => ?_) k
  obtain ⟨j, hj⟩ := List.getElem?_of_mem ((asl_mem G lv 0 (i, cv G (.int x))).mpr ⟨.int x, Nat.zero_le _, by simpa using hv, rfl⟩)
  exact lv_iinc C.1 C.2.1 hd hl hj rfl hi rfl (fun ls1 hl1 => kk _ _ ls1 hH hS (LV.st1 (v := .int (x + Int32.ofInt n)) hl1))
theorem ev_ldc {M : MI} {d bc bs pc i : Nat} {v : Int32} {lv : List (Option Value)} {st : List Value} {h : HP} {Q : Option Value → HP → Prop} (hd : decode (mB M) pc = .ok (.ldc i, 2)) (hv : ldk (mO M) i = some v)
    (k : Ev M d bc bs (pc + 2) lv (.int v :: st) h Q) : Ev M d bc bs pc lv st h Q :=
  ev_full (Nat.le_refl _) (fun C _ _ _ hH hS hl kk => lv_ldc C.1 C.2.1 C.2.2.2.2.1 (C.2.2.2.2.2.1 _ (ldk_ok hv)) hd (kk _ _ _ hH hS hl)) k
theorem ev_ldcw {M : MI} {d bc bs pc i : Nat} {v : Int32} {lv : List (Option Value)} {st : List Value} {h : HP} {Q : Option Value → HP → Prop} (hd : decode (mB M) pc = .ok (.ldc_w i, 3)) (hv : ldk (mO M) i = some v)
    (k : Ev M d bc bs (pc + 3) lv (.int v :: st) h Q) : Ev M d bc bs pc lv st h Q :=
  ev_full (Nat.le_refl _) (fun C _ _ _ hH hS hl kk => lv_ldcw C.1 C.2.1 C.2.2.2.2.1 (C.2.2.2.2.2.1 _ (ldk_ok hv)) hd (kk _ _ _ hH hS hl)) k
theorem ev_ldc2 {M : MI} {d bc bs pc i : Nat} {v : Int64} {lv : List (Option Value)} {st : List Value} {h : HP} {Q : Option Value → HP → Prop} (hd : decode (mB M) pc = .ok (.ldc2_w i, 3)) (hv : ldk2 (mO M) i = some v)
    (k : Ev M d bc bs (pc + 3) lv (.long v :: st) h Q) : Ev M d bc bs pc lv st h Q :=
  ev_full (Nat.le_refl _) (fun C _ _ _ hH hS hl kk => lv_ldc2 C.1 C.2.1 C.2.2.2.2.1 (C.2.2.2.2.2.1 _ (ldk2_ok hv)) hd (kk _ _ _ hH hS hl)) k
theorem ev_getf {M : MI} {d bc bs pc i a ci f : Nat} {lv : List (Option Value)} {st : List Value} {h : HP} {Q : Option Value → HP → Prop} (hd : decode (mB M) pc = .ok (.getfield i, 3)) (hf : fd3 (flT (mO M)) i = some (ci, f)) (hk : kK h a = ci)
    (k : Ev M d bc bs (pc + 3) lv (fvA h a f (fT ci f) :: st) h Q) : Ev M d bc bs pc lv (.ref a :: st) h Q := by
  refine ev_full (Nat.le_refl _) (fun {p l e R s m args below meth c D cy G L xs H locs cells slots ls Z} C _ _ hK hH hS hl kk => ?_) k
  obtain ⟨h1, h2, h3⟩ := flk_ok hf
  obtain ⟨c1, c2, c3, c4⟩ := cls_at ci h1
  have hk18 : kK h a < 18 := by rw [hk]; omega
  have hP := hH.P hk18
  rw [ce_obj hk h1] at hP
  have e : cv G (.ref a) = .ref (G.1 + a) := by show Value.ref (ro G a) = _; rw [hH.ro hk18]
  rw [List.map_cons, e]
  exact va_get C.1 C.2.1 (C := cnm ci) (T := tO ci) (N := nF ci) (ref := cnm ci) C.2.2.2.2.2.1 c2 C.2.2.2.2.1 hK.1 hP 0 rfl c1 f h2 (C.2.2.2.2.2.1 _ h3) (fun x hx => by rw [cls_own ci h1 f h2] at hx; exact hx) (fl_at hk h2) hd (kk _ _ _ hH hS hl)
theorem blt_ok {a b : Nat} (h : Nat.blt a b = true) : a < b := by rwa [Nat.blt_eq] at h
theorem fl_upd {G : GG} {h h' : HP} {a ci f : Nat} {v : Value} (hk : kK h a = ci) (hk' : kK h' a = ci) (hf : f < nF ci) (hv : cv G (fvA h' a f (fT ci f)) = v) (ho : ∀ j, j ≠ f → fvA h' a j (fT ci j) = fvA h a j (fT ci j)) : fl G h' a = (fl G h a).set f v := by
  apply List.ext_getElem?
  intro j
  by_cases hj : j < nF ci
  · rw [fl_at hk' hj, List.getElem?_set]
    by_cases e : f = j
    · subst e
      rw [if_pos rfl, if_pos (by rw [fl_len hk]; exact hf), hv]
    · rw [if_neg e, fl_at hk hj, ho j (Ne.symm e)]
  · rw [List.getElem?_eq_none (by rw [fl_len hk']; omega), List.getElem?_eq_none (by rw [List.length_set, fl_len hk]; omega)]
theorem va_S.one {A : Nat → Prop} {H0 H H1 : Heap} {locs : List Loc} {a k : Nat} (h : va_S A H0 H locs) (z : H1.size = H.size) (oq : ∀ q : Nat, q ≠ a → H1[q]? = H[q]?) (ha : A a) : va_S A H0 H1 (locs ++ [⟨a, k⟩]) := h.put z oq ha
theorem W_put {p : Program} {l : Launch} {e : Env} {R : Room} {s : State} {m : MethodId} {args : Array Value} {below : List Frame} {meth : Method} {c : Code} {D : va_G} {cy : Nat → ClassId} {G : GG} {L : Nat} {xs : Nat → Int32} {H : Heap} {locs : List Loc} {cells slots : Nat} {ls : Array Slot} {Z : State → Prop} {M : MI} {h h' : HP} {a ci f i pc : Nat} {v : Value} {rest : List Value} (C : Cx M p s m args meth c L xs) (hK : KE D cy G L xs s) (hH : HR D cy G h H) (hS : va_S (fun q => G.1 ≤ q) s.heap H locs) (hf : fd3 (flT (mO M)) i = some (ci, f)) (hk : kK h a = ci)
    (hn : narrow (tyO ci f) v = v) (hfit : fits (tyO ci f) v = true) (hfin : (tO ci f).2.2.2 = false ∨ ((mY M).name = "<init>" ∧ ci = mO M)) (e1 : kN h' = kN h) (e2 : kK h' = kK h) (e3 : ∀ b, b ≠ a → ce cy G h' b = ce cy G h b) (e4 : fl G h' a = (fl G h a).set f v) (hd : decode (mB M) pc = .ok (.putfield i, 3))
    (kk : ∀ (H1 : Heap) (locs1 : List Loc), HR D cy G h' H1 → va_S (fun q => G.1 ≤ q) s.heap H1 locs1 → W p l e R s m args below meth c H1 locs1 cells slots Z (F0 m (pc + 3) ls rest)) : W p l e R s m args below meth c H locs cells slots Z (F0 m pc ls (v :: .ref (G.1 + a) :: rest)) := by
  obtain ⟨h1, h2, h3⟩ := flk_ok hf
  obtain ⟨c1, c2, c3, c4⟩ := cls_at ci h1
  have hk18 : kK h a < 18 := by rw [hk]; omega
  have hlt : a < kN h := hH.2.2.1 a hk18
  have hat := hH.2.2.2 a hlt
  rw [ce_obj hk h1] at hat
  obtain ⟨r, g1, cell, q1, q2, q3, q4⟩ := hat
  have hr : r = (cnm ci, tO ci, nF ci) := Option.some.inj (g1.symm.trans c1)
  subst hr
  have hts := C.2.2.2.2.2.1
  have hown := C.2.2.2.2.1
  have hap := va_apart (own := cnm (mO M)) hts c2 (tyO ci) c3 c4 hK.1 c1
  obtain ⟨hSl, hfc, kC, hkC, hkind⟩ := hK.1.1 ci _ c1
  obtain ⟨cf, kf, fi, fd, hi, hsl⟩ := hSl f h2
  have hi' : s.fieldFound? (cnm ci) (tO ci f).2.1 (tO ci f).2.2.1 = some (cf, kf, fi, fd) := by rw [cls_own ci h1 f h2] at hi; exact hi
  have hst := (u_facts hfc hkC (u_lays hts c2 h2) hi).1
  have fin : ∀ H' : Heap, H'[G.1 + a]? = some (cell.setSlot ((D.2 ci) f) v) → H'.size = H.size → (∀ q, q ≠ G.1 + a → H'[q]? = H[q]?) → W p l e R s m args below meth c H' (locs ++ [⟨G.1 + a, (D.2 ci) f⟩]) cells slots Z (F0 m (pc + 3) ls rest) := by
    intro H' z1 z2 z3
    refine kk H' _ (hH.put (a := a) e1 e2 e3 z2 z3 ?_) (hS.put z2 z3 (Nat.le_add_right _ _))
    rw [ce_obj (by rw [e2]; exact hk) h1, e4]
    exact ⟨_, c1, t_OB.to (V := updV (vp_V (fl G h a)) f v) ⟨_, z1, q2, q3, t_set q4 hap h2 v⟩ (fun j _ => vp_updV_set (by rw [fl_len hk]; exact h2) v j)⟩
  rcases hfin with hfin | ⟨hnm, hown2⟩
  · have hlay := hts _ (c2 _ (u_in_lay h2))
    unfold u_lay at hlay
    rw [if_neg (by rw [hfin]; decide)] at hlay
    have h6 := u_store hfc hkC hkind hlay hi (c3 f h2) hn hfit
    refine W.putK C.1 C.2.1 (f := fd) ⟨hown, hts _ h3, ⟨_, _, _, hi'⟩, hst⟩ (by rw [q2]; exact h6) q1 q3 (by rw [hsl]; exact k2_hasslot (q4 f h2)) rfl rfl hd fun H' z1 z2 z3 => ?_
    rw [hsl] at z1 ⊢
    exact fin H' z1 z2 z3
  · by_cases hfin : (tO ci f).2.2.2 = true
    · have hlay := hts _ (c2 _ (u_in_lay h2))
      unfold u_lay at hlay
      rw [if_pos hfin] at hlay
      have hcf : m.cls = cf := by
        obtain ⟨_, _, c', _, _, _, -, -, hf', -, -, -, hown3, -⟩ := Cond.laysFinal_spec hlay
        have e1 : c' = cf := by have := hi.symm.trans hf'; simp at this; exact this.1.symm
        rw [cls_own ci h1 f h2, hown2] at hown3
        rw [← e1]; exact Option.some.inj (hown.symm.trans hown3)
      have h6 := u_fits hfc hkC hkind (Or.inr hlay) hi (c3 f h2) hn hfit
      refine W.putFinK C.1 C.2.1 hown (hts _ h3) hi' hst hcf (by rw [C.2.2.2.2.2.2.2.1]; exact hnm) (by rw [q2]; exact h6) q1 q3 (by rw [hsl]; exact k2_hasslot (q4 f h2)) rfl rfl hd fun H' z1 z2 z3 => ?_
      rw [hsl] at z1 ⊢
      exact fin H' z1 z2 z3
    · have hlay := hts _ (c2 _ (u_in_lay h2))
      unfold u_lay at hlay
      rw [if_neg hfin] at hlay
      have h6 := u_store hfc hkC hkind hlay hi (c3 f h2) hn hfit
      refine W.putK C.1 C.2.1 (f := fd) ⟨hown, hts _ h3, ⟨_, _, _, hi'⟩, hst⟩ (by rw [q2]; exact h6) q1 q3 (by rw [hsl]; exact k2_hasslot (q4 f h2)) rfl rfl hd fun H' z1 z2 z3 => ?_
      rw [hsl] at z1 ⊢
      exact fin H' z1 z2 z3
theorem fT_0 {ci f : Nat} (h : fT ci f = 0) : tyO ci f = .int := by
  unfold fT at h
  split at h
  · assumption
  · cases h
  · cases h
theorem fT_1 {ci f : Nat} (h : fT ci f = 1) : tyO ci f = .boolean := by
  unfold fT at h
  split at h
  · cases h
  · assumption
  · cases h
theorem ev_putI {M : MI} {d bc bs pc : Nat} {lv : List (Option Value)} {st : List Value} {h : HP} {Q : Option Value → HP → Prop} {i a ci f : Nat} {x : Int32} (hd : decode (mB M) pc = .ok (.putfield i, 3)) (hf : fd3 (flT (mO M)) i = some (ci, f)) (hk : kK h a = ci) (ht : fT ci f = 0 ∨ (fT ci f = 1 ∧ (x = 0 ∨ x = 1))) (hfin : (tO ci f).2.2.2 = false ∨ ((mY M).name = "<init>" ∧ ci = mO M))
    (k : Ev M d bc bs (pc + 3) lv st (sI h (u2 (kI h) a f x)) Q) : Ev M d bc bs pc lv (.int x :: .ref a :: st) h Q := by
  refine ev_full (h1 := sI h (u2 (kI h) a f x)) (Nat.le_refl (kN h)) (fun {p l e R s m args below meth c D cy G L xs H locs cells slots ls Z} C hdd hrr hK hH hS hl kk => ?_) k
  obtain ⟨h1, h2, h3⟩ := flk_ok hf
  have hk18 : kK h a < 18 := by rw [hk]; omega
  have e : cv G (.ref a) = .ref (G.1 + a) := by show Value.ref (ro G a) = _; rw [hH.ro hk18]
  have ht2 : Nat.beq (fT ci f) 2 = false := by
    rcases ht with h9 | h9
    · rw [h9]; rfl
    · rw [h9.1]; rfl
  rw [List.map_cons, List.map_cons, e]
  refine W_put (v := .int x) (h' := sI h (u2 (kI h) a f x)) C hK hH hS hf hk ?_ ?_ hfin rfl rfl (fun b hb => ce_eq rfl rfl (by show u2 _ _ _ _ b = _; rw [u2, u1_n _ _ hb]) rfl rfl rfl rfl) (fl_upd hk hk h2 ?_ ?_) hd (fun H1 locs1 a1 a2 => kk H1 locs1 ls a1 a2 hl)
  · rcases ht with h | ⟨h, hx⟩
    · rw [fT_0 h]; rfl
    · rw [fT_1 h]; rcases hx with rfl | rfl <;> decide
  · rcases ht with h | ⟨h, hx⟩
    · rw [fT_0 h]; rfl
    · rw [fT_1 h]; rcases hx with rfl | rfl <;> decide
  · show cv G (fvA (sI h (u2 (kI h) a f x)) a f _) = _
    unfold fvA
    rw [ht2]
    show Value.int (u2 (kI h) a f x a f) = _
    rw [u2_s]
  · intro j hj
    unfold fvA
    show (bif _ then va_rf (kR h a j) else Value.int (u2 (kI h) a f x a j)) = _
    rw [u2_k _ _ _ hj]
theorem ev_putR {M : MI} {d bc bs pc : Nat} {lv : List (Option Value)} {st : List Value} {h : HP} {Q : Option Value → HP → Prop} {i a ci f : Nat} {r : Option Nat} (hd : decode (mB M) pc = .ok (.putfield i, 3)) (hf : fd3 (flT (mO M)) i = some (ci, f)) (hk : kK h a = ci) (ht : fT ci f = 2) (hty : ∀ v, fits (tyO ci f) (va_rf v) = true ∧ narrow (tyO ci f) (va_rf v) = va_rf v) (hfin : (tO ci f).2.2.2 = false ∨ ((mY M).name = "<init>" ∧ ci = mO M))
    (k : Ev M d bc bs (pc + 3) lv st (sR h (u2 (kR h) a f r)) Q) : Ev M d bc bs pc lv (va_rf r :: .ref a :: st) h Q := by
  refine ev_full (h1 := sR h (u2 (kR h) a f r)) (Nat.le_refl (kN h)) (fun {p l e R s m args below meth c D cy G L xs H locs cells slots ls Z} C hdd hrr hK hH hS hl kk => ?_) k
  obtain ⟨h1, h2, h3⟩ := flk_ok hf
  have hk18 : kK h a < 18 := by rw [hk]; omega
  have e : cv G (.ref a) = .ref (G.1 + a) := by show Value.ref (ro G a) = _; rw [hH.ro hk18]
  have ht2 : Nat.beq (fT ci f) 2 = true := by rw [ht]; rfl
  rw [List.map_cons, List.map_cons, e, cv_rf]
  refine W_put (v := va_rf (r.map (ro G))) (h' := sR h (u2 (kR h) a f r)) C hK hH hS hf hk (hty _).2 (hty _).1 hfin rfl rfl (fun b hb => ce_eq rfl rfl rfl (by show u2 _ _ _ _ b = _; rw [u2, u1_n _ _ hb]) rfl rfl rfl) (fl_upd hk hk h2 ?_ ?_) hd (fun H1 locs1 a1 a2 => kk H1 locs1 ls a1 a2 hl)
  · show cv G (fvA (sR h (u2 (kR h) a f r)) a f _) = _
    unfold fvA
    rw [ht2]
    show cv G (va_rf (u2 (kR h) a f r a f)) = _
    rw [u2_s, cv_rf]
  · intro j hj
    unfold fvA
    show (bif _ then va_rf (u2 (kR h) a f r a j) else Value.int (kI h a j)) = _
    rw [u2_k _ _ _ hj]
theorem tyR_ok : ∀ ci, ci < 12 → ∀ f, f < nF ci → fT ci f = 2 → (∃ n, tyO ci f = .object n) ∨ ∃ t, tyO ci f = .array t := by
  intro ci h1 f h2 h3
  have key : ∀ ci, ci < 12 → ∀ f, f < nF ci → (match tyO ci f with | .int => true | .boolean => true | .object _ => true | .array _ => true | _ => false) = true := by decide +kernel
  have := key ci h1 f h2
  unfold fT at h3
  split at h3
  · cases h3
  · cases h3
  · rename_i n1 n2
    cases he : tyO ci f <;> rw [he] at this n1 n2 <;> first | exact Or.inl ⟨_, rfl⟩ | exact Or.inr ⟨_, rfl⟩ | exact absurd rfl n1 | exact absurd rfl n2 | cases this
theorem fits_rf {ci f : Nat} (h1 : ci < 12) (h2 : f < nF ci) (h3 : fT ci f = 2) (v : Option Nat) : fits (tyO ci f) (va_rf v) = true ∧ narrow (tyO ci f) (va_rf v) = va_rf v := by
  rcases tyR_ok ci h1 f h2 h3 with ⟨n, e⟩ | ⟨t, e⟩ <;> rw [e] <;> cases v <;> exact ⟨rfl, rfl⟩
theorem ev_iald {M : MI} {d bc bs pc : Nat} {lv : List (Option Value)} {st : List Value} {h : HP} {Q : Option Value → HP → Prop} {a : Nat} {i : Int32} (hd : decode (mB M) pc = .ok (.iaload, 1)) (hk : kK h a = 13) (hin : vp_in i (kL h a))
    (k : Ev M d bc bs (pc + 1) lv (.int (kA h a i.toNatClampNeg) :: st) h Q) : Ev M d bc bs pc lv (.int i :: .ref a :: st) h Q := by
  refine ev_full (Nat.le_refl _) (fun {p l e R s m args below meth c D cy G L xs H locs cells slots ls Z} C hdd hrr hK hH hS hl kk => ?_) k
  have hk18 : kK h a < 18 := by rw [hk]; omega
  have hP := hH.P hk18
  rw [ce_int hk (Or.inr (Or.inl rfl))] at hP
  have e : cv G (.ref a) = .ref (G.1 + a) := by show Value.ref (ro G a) = _; rw [hH.ro hk18]
  rw [List.map_cons, List.map_cons, e]
  exact va_iald C.1 C.2.1 hK.1 hP 0 1 rfl rfl hin hd (kk _ _ _ hH hS hl)
theorem ev_bald {M : MI} {d bc bs pc : Nat} {lv : List (Option Value)} {st : List Value} {h : HP} {Q : Option Value → HP → Prop} {a : Nat} {i : Int32} (hd : decode (mB M) pc = .ok (.baload, 1)) (hk : kK h a = 12) (hin : vp_in i (kL h a))
    (k : Ev M d bc bs (pc + 1) lv (.int (kA h a i.toNatClampNeg) :: st) h Q) : Ev M d bc bs pc lv (.int i :: .ref a :: st) h Q := by
  refine ev_full (Nat.le_refl _) (fun {p l e R s m args below meth c D cy G L xs H locs cells slots ls Z} C hdd hrr hK hH hS hl kk => ?_) k
  have hk18 : kK h a < 18 := by rw [hk]; omega
  have hP := hH.P hk18
  rw [ce_int hk (Or.inl rfl)] at hP
  have e : cv G (.ref a) = .ref (G.1 + a) := by show Value.ref (ro G a) = _; rw [hH.ro hk18]
  rw [List.map_cons, List.map_cons, e]
  exact va_bald C.1 C.2.1 hK.1 hP 0 0 rfl rfl hin hd (kk _ _ _ hH hS hl)
theorem ev_zald {M : MI} {d bc bs pc : Nat} {lv : List (Option Value)} {st : List Value} {h : HP} {Q : Option Value → HP → Prop} {a : Nat} {i : Int32} (hd : decode (mB M) pc = .ok (.baload, 1)) (hk : kK h a = 15) (hin : vp_in i (kL h a))
    (k : Ev M d bc bs (pc + 1) lv (.int (kA h a i.toNatClampNeg) :: st) h Q) : Ev M d bc bs pc lv (.int i :: .ref a :: st) h Q := by
  refine ev_full (Nat.le_refl _) (fun {p l e R s m args below meth c D cy G L xs H locs cells slots ls Z} C hdd hrr hK hH hS hl kk => ?_) k
  have hk18 : kK h a < 18 := by rw [hk]; omega
  have hP := hH.P hk18
  rw [ce_int hk (Or.inr (Or.inr rfl))] at hP
  have e : cv G (.ref a) = .ref (G.1 + a) := by show Value.ref (ro G a) = _; rw [hH.ro hk18]
  rw [List.map_cons, List.map_cons, e]
  exact va_zald C.1 C.2.1 hK.1 hP 0 3 rfl rfl hin hd (kk _ _ _ hH hS hl)
theorem ev_lald {M : MI} {d bc bs pc : Nat} {lv : List (Option Value)} {st : List Value} {h : HP} {Q : Option Value → HP → Prop} {a : Nat} {i : Int32} (hd : decode (mB M) pc = .ok (.laload, 1)) (hk : kK h a = 14) (hin : vp_in i (kL h a))
    (k : Ev M d bc bs (pc + 1) lv (.long (kJ h a i.toNatClampNeg) :: st) h Q) : Ev M d bc bs pc lv (.int i :: .ref a :: st) h Q := by
  refine ev_full (Nat.le_refl _) (fun {p l e R s m args below meth c D cy G L xs H locs cells slots ls Z} C hdd hrr hK hH hS hl kk => ?_) k
  have hk18 : kK h a < 18 := by rw [hk]; omega
  have hP := hH.P hk18
  rw [ce_long hk] at hP
  have e : cv G (.ref a) = .ref (G.1 + a) := by show Value.ref (ro G a) = _; rw [hH.ro hk18]
  rw [List.map_cons, List.map_cons, e]
  exact va_lald C.1 C.2.1 hK.1 hP 0 2 rfl rfl hin hd (kk _ _ _ hH hS hl)
theorem ev_qald16 {M : MI} {d bc bs pc : Nat} {lv : List (Option Value)} {st : List Value} {h : HP} {Q : Option Value → HP → Prop} {a : Nat} {i : Int32} (hd : decode (mB M) pc = .ok (.aaload, 1)) (hk : kK h a = 16) (hin : vp_in i (kL h a))
    (k : Ev M d bc bs (pc + 1) lv (va_rf (kQ h a i.toNatClampNeg) :: st) h Q) : Ev M d bc bs pc lv (.int i :: .ref a :: st) h Q := by
  refine ev_full (Nat.le_refl _) (fun {p l e R s m args below meth c D cy G L xs H locs cells slots ls Z} C hdd hrr hK hH hS hl kk => ?_) k
  have hk18 : kK h a < 18 := by rw [hk]; omega
  have hP := hH.P hk18
  rw [ce_ref hk (Or.inl rfl)] at hP
  have e : cv G (.ref a) = .ref (G.1 + a) := by show Value.ref (ro G a) = _; rw [hH.ro hk18]
  rw [List.map_cons, List.map_cons, e]
  exact va_aldq C.1 C.2.1 hK.1 hP 0 4 rfl rfl hin hd (by have kk2 := kk _ _ _ hH hS hl; rw [List.map_cons, cv_rf] at kk2; exact kk2)
theorem ev_qald17 {M : MI} {d bc bs pc : Nat} {lv : List (Option Value)} {st : List Value} {h : HP} {Q : Option Value → HP → Prop} {a : Nat} {i : Int32} (hd : decode (mB M) pc = .ok (.aaload, 1)) (hk : kK h a = 17) (hin : vp_in i (kL h a))
    (k : Ev M d bc bs (pc + 1) lv (va_rf (kQ h a i.toNatClampNeg) :: st) h Q) : Ev M d bc bs pc lv (.int i :: .ref a :: st) h Q := by
  refine ev_full (Nat.le_refl _) (fun {p l e R s m args below meth c D cy G L xs H locs cells slots ls Z} C hdd hrr hK hH hS hl kk => ?_) k
  have hk18 : kK h a < 18 := by rw [hk]; omega
  have hP := hH.P hk18
  rw [ce_ref hk (Or.inr rfl)] at hP
  have e : cv G (.ref a) = .ref (G.1 + a) := by show Value.ref (ro G a) = _; rw [hH.ro hk18]
  rw [List.map_cons, List.map_cons, e]
  exact va_aldq C.1 C.2.1 hK.1 hP 0 5 rfl rfl hin hd (by have kk2 := kk _ _ _ hH hS hl; rw [List.map_cons, cv_rf] at kk2; exact kk2)
theorem ev_iast {M : MI} {d bc bs pc : Nat} {lv : List (Option Value)} {st : List Value} {h : HP} {Q : Option Value → HP → Prop} {a : Nat} {i : Int32} {x : Int32} (hd : decode (mB M) pc = .ok (.iastore, 1)) (hk : kK h a = 13) (hin : vp_in i (kL h a))
    (k : Ev M d bc bs (pc + 1) lv st (sA h (u2 (kA h) a i.toNatClampNeg (x))) Q) : Ev M d bc bs pc lv (.int x :: .int i :: .ref a :: st) h Q := by
  refine ev_full (h1 := sA h (u2 (kA h) a i.toNatClampNeg (x))) (Nat.le_refl (kN h)) (fun {p l e R s m args below meth c D cy G L xs H locs cells slots ls Z} C hdd hrr hK hH hS hl kk => ?_) k
  have hk18 : kK h a < 18 := by rw [hk]; omega
  have hat := hH.2.2.2 a (hH.2.2.1 a hk18)
  rw [ce_int hk (Or.inr (Or.inl rfl))] at hat
  have e : cv G (.ref a) = .ref (G.1 + a) := by show Value.ref (ro G a) = _; rw [hH.ro hk18]
  rw [List.map_cons, List.map_cons, List.map_cons, e]
  refine W.iast C.1 C.2.1 hat ((hK.1.2 1 _ rfl).1 (kL h a) (fun j => .int (kA h a j))) (fun q => by cases q) (by show ¬ (i < 0 ∨ (arrV _ _ _).slots.size ≤ _); rw [arrV_size]; exact hin) rfl rfl hd fun H1 z1 z2 z3 => ?_
  refine kk H1 _ ls (hH.put (a := a) rfl rfl (fun b hb => ce_eq rfl rfl rfl rfl (by show u2 _ _ _ _ b = _; rw [u2, u1_n _ _ hb]) rfl rfl) z2 z3 ?_) (hS.put z2 z3 (Nat.le_add_right _ _)) hl
  rw [ce_int (h := sA h (u2 (kA h) a i.toNatClampNeg (x))) hk (Or.inr (Or.inl rfl))]
  show H1[G.1 + a]? = some (arrV (cy 13) (kL h a) (fun j => .int (u2 (kA h) a i.toNatClampNeg (x) a j)))
  refine (show H1[G.1 + a]? = some ((arrV (cy 13) (kL h a) (fun j => .int (kA h a j))).setSlot i.toNatClampNeg (.int x)) from z1).trans ?_
  rw [arrV_store]
  congr 2
  funext q
  show updV _ _ _ q = .int (u2 (kA h) a i.toNatClampNeg (x) a q)
  by_cases hq : q = i.toNatClampNeg
  · subst hq; rw [u2_s]; simp [updV]
  · rw [u2_k _ _ _ hq]; simp [updV, hq]
theorem ev_bast {M : MI} {d bc bs pc : Nat} {lv : List (Option Value)} {st : List Value} {h : HP} {Q : Option Value → HP → Prop} {a : Nat} {i : Int32} {x : Int32} (hd : decode (mB M) pc = .ok (.bastore, 1)) (hk : kK h a = 12) (hin : vp_in i (kL h a))
    (k : Ev M d bc bs (pc + 1) lv st (sA h (u2 (kA h) a i.toNatClampNeg (x.toInt8.toInt32))) Q) : Ev M d bc bs pc lv (.int x :: .int i :: .ref a :: st) h Q := by
  refine ev_full (h1 := sA h (u2 (kA h) a i.toNatClampNeg (x.toInt8.toInt32))) (Nat.le_refl (kN h)) (fun {p l e R s m args below meth c D cy G L xs H locs cells slots ls Z} C hdd hrr hK hH hS hl kk => ?_) k
  have hk18 : kK h a < 18 := by rw [hk]; omega
  have hat := hH.2.2.2 a (hH.2.2.1 a hk18)
  rw [ce_int hk (Or.inl rfl)] at hat
  have e : cv G (.ref a) = .ref (G.1 + a) := by show Value.ref (ro G a) = _; rw [hH.ro hk18]
  rw [List.map_cons, List.map_cons, List.map_cons, e]
  refine W.bast C.1 C.2.1 hat ((hK.1.2 0 _ rfl).1 (kL h a) (fun j => .int (kA h a j))) (fun q => by cases q) (by show ¬ (i < 0 ∨ (arrV _ _ _).slots.size ≤ _); rw [arrV_size]; exact hin) rfl rfl hd fun H1 z1 z2 z3 => ?_
  refine kk H1 _ ls (hH.put (a := a) rfl rfl (fun b hb => ce_eq rfl rfl rfl rfl (by show u2 _ _ _ _ b = _; rw [u2, u1_n _ _ hb]) rfl rfl) z2 z3 ?_) (hS.put z2 z3 (Nat.le_add_right _ _)) hl
  rw [ce_int (h := sA h (u2 (kA h) a i.toNatClampNeg (x.toInt8.toInt32))) hk (Or.inl rfl)]
  show H1[G.1 + a]? = some (arrV (cy 12) (kL h a) (fun j => .int (u2 (kA h) a i.toNatClampNeg (x.toInt8.toInt32) a j)))
  refine (show H1[G.1 + a]? = some ((arrV (cy 12) (kL h a) (fun j => .int (kA h a j))).setSlot i.toNatClampNeg (narrow .byte (.int x))) from z1).trans ?_
  rw [arrV_store]
  congr 2
  funext q
  show updV _ _ _ q = .int (u2 (kA h) a i.toNatClampNeg (x.toInt8.toInt32) a q)
  by_cases hq : q = i.toNatClampNeg
  · subst hq; rw [u2_s]; simp [updV]; try rfl
  · rw [u2_k _ _ _ hq]; simp [updV, hq]
theorem ev_zast {M : MI} {d bc bs pc : Nat} {lv : List (Option Value)} {st : List Value} {h : HP} {Q : Option Value → HP → Prop} {a : Nat} {i : Int32} {x : Int32} (hd : decode (mB M) pc = .ok (.bastore, 1)) (hk : kK h a = 15) (hin : vp_in i (kL h a))
    (k : Ev M d bc bs (pc + 1) lv st (sA h (u2 (kA h) a i.toNatClampNeg (vp_nar .boolean x))) Q) : Ev M d bc bs pc lv (.int x :: .int i :: .ref a :: st) h Q := by
  refine ev_full (h1 := sA h (u2 (kA h) a i.toNatClampNeg (vp_nar .boolean x))) (Nat.le_refl (kN h)) (fun {p l e R s m args below meth c D cy G L xs H locs cells slots ls Z} C hdd hrr hK hH hS hl kk => ?_) k
  have hk18 : kK h a < 18 := by rw [hk]; omega
  have hat := hH.2.2.2 a (hH.2.2.1 a hk18)
  rw [ce_int hk (Or.inr (Or.inr rfl))] at hat
  have e : cv G (.ref a) = .ref (G.1 + a) := by show Value.ref (ro G a) = _; rw [hH.ro hk18]
  rw [List.map_cons, List.map_cons, List.map_cons, e]
  refine W.zast C.1 C.2.1 hat ((hK.1.2 3 _ rfl).1 (kL h a) (fun j => .int (kA h a j))) (fun q => by cases q) (by show ¬ (i < 0 ∨ (arrV _ _ _).slots.size ≤ _); rw [arrV_size]; exact hin) rfl rfl hd fun H1 z1 z2 z3 => ?_
  refine kk H1 _ ls (hH.put (a := a) rfl rfl (fun b hb => ce_eq rfl rfl rfl rfl (by show u2 _ _ _ _ b = _; rw [u2, u1_n _ _ hb]) rfl rfl) z2 z3 ?_) (hS.put z2 z3 (Nat.le_add_right _ _)) hl
  rw [ce_int (h := sA h (u2 (kA h) a i.toNatClampNeg (vp_nar .boolean x))) hk (Or.inr (Or.inr rfl))]
  show H1[G.1 + a]? = some (arrV (cy 15) (kL h a) (fun j => .int (u2 (kA h) a i.toNatClampNeg (vp_nar .boolean x) a j)))
  refine (show H1[G.1 + a]? = some ((arrV (cy 15) (kL h a) (fun j => .int (kA h a j))).setSlot i.toNatClampNeg (narrow .boolean (.int x))) from z1).trans ?_
  rw [arrV_store]
  congr 2
  funext q
  show updV _ _ _ q = .int (u2 (kA h) a i.toNatClampNeg (vp_nar .boolean x) a q)
  by_cases hq : q = i.toNatClampNeg
  · subst hq; rw [u2_s]; simp [updV]; try rfl
  · rw [u2_k _ _ _ hq]; simp [updV, hq]
theorem ev_last {M : MI} {d bc bs pc : Nat} {lv : List (Option Value)} {st : List Value} {h : HP} {Q : Option Value → HP → Prop} {a : Nat} {i : Int32} {x : Int64} (hd : decode (mB M) pc = .ok (.lastore, 1)) (hk : kK h a = 14) (hin : vp_in i (kL h a))
    (k : Ev M d bc bs (pc + 1) lv st (sJ h (u2 (kJ h) a i.toNatClampNeg (x))) Q) : Ev M d bc bs pc lv (.long x :: .int i :: .ref a :: st) h Q := by
  refine ev_full (h1 := sJ h (u2 (kJ h) a i.toNatClampNeg (x))) (Nat.le_refl (kN h)) (fun {p l e R s m args below meth c D cy G L xs H locs cells slots ls Z} C hdd hrr hK hH hS hl kk => ?_) k
  have hk18 : kK h a < 18 := by rw [hk]; omega
  have hat := hH.2.2.2 a (hH.2.2.1 a hk18)
  rw [ce_long hk] at hat
  have e : cv G (.ref a) = .ref (G.1 + a) := by show Value.ref (ro G a) = _; rw [hH.ro hk18]
  rw [List.map_cons, List.map_cons, List.map_cons, e]
  refine W.last C.1 C.2.1 hat ((hK.1.2 2 _ rfl).1 (kL h a) (fun j => .long (kJ h a j))) (fun q => by cases q) (by show ¬ (i < 0 ∨ (arrV _ _ _).slots.size ≤ _); rw [arrV_size]; exact hin) rfl rfl hd fun H1 z1 z2 z3 => ?_
  refine kk H1 _ ls (hH.put (a := a) rfl rfl (fun b hb => ce_eq rfl rfl rfl rfl rfl (by show u2 _ _ _ _ b = _; rw [u2, u1_n _ _ hb]) rfl) z2 z3 ?_) (hS.put z2 z3 (Nat.le_add_right _ _)) hl
  rw [ce_long (h := sJ h (u2 (kJ h) a i.toNatClampNeg (x))) hk]
  show H1[G.1 + a]? = some (arrV (cy 14) (kL h a) (fun j => .long (u2 (kJ h) a i.toNatClampNeg (x) a j)))
  refine (show H1[G.1 + a]? = some ((arrV (cy 14) (kL h a) (fun j => .long (kJ h a j))).setSlot i.toNatClampNeg (.long x)) from z1).trans ?_
  rw [arrV_store]
  congr 2
  funext q
  show updV _ _ _ q = .long (u2 (kJ h) a i.toNatClampNeg (x) a q)
  by_cases hq : q = i.toNatClampNeg
  · subst hq; rw [u2_s]; simp [updV]
  · rw [u2_k _ _ _ hq]; simp [updV, hq]
theorem ev_alen {M : MI} {d bc bs pc : Nat} {lv : List (Option Value)} {st : List Value} {h : HP} {Q : Option Value → HP → Prop} {a j : Nat} (hd : decode (mB M) pc = .ok (.arraylength, 1)) (hk : kK h a = j) (hj : 12 ≤ j ∧ j < 18)
    (k : Ev M d bc bs (pc + 1) lv (.int (Int32.ofNat (kL h a)) :: st) h Q) : Ev M d bc bs pc lv (.ref a :: st) h Q := by
  refine ev_full (Nat.le_refl _) (fun {p l e R s m args below meth c D cy G L xs H locs cells slots ls Z} C hdd hrr hK hH hS hl kk => ?_) k
  have hk18 : kK h a < 18 := by rw [hk]; omega
  have hP := hH.P hk18
  have e : cv G (.ref a) = .ref (G.1 + a) := by show Value.ref (ro G a) = _; rw [hH.ro hk18]
  rw [List.map_cons, e]
  have hw := kk _ _ _ hH hS hl
  rcases (show j = 12 ∨ j = 13 ∨ j = 14 ∨ j = 15 ∨ j = 16 ∨ j = 17 by omega) with rfl | rfl | rfl | rfl | rfl | rfl
  · rw [ce_int hk (Or.inl rfl)] at hP; exact va_alen C.1 C.2.1 hK.1 hP 0 0 rfl rfl rfl hd hw
  · rw [ce_int hk (Or.inr (Or.inl rfl))] at hP; exact va_alen C.1 C.2.1 hK.1 hP 0 1 rfl rfl rfl hd hw
  · rw [ce_long hk] at hP; exact va_alen C.1 C.2.1 hK.1 hP 0 2 rfl rfl rfl hd hw
  · rw [ce_int hk (Or.inr (Or.inr rfl))] at hP; exact va_alen C.1 C.2.1 hK.1 hP 0 3 rfl rfl rfl hd hw
  · rw [ce_ref hk (Or.inl rfl)] at hP; exact va_alen C.1 C.2.1 hK.1 hP 0 4 rfl rfl rfl hd hw
  · rw [ce_ref hk (Or.inr rfl)] at hP; exact va_alen C.1 C.2.1 hK.1 hP 0 5 rfl rfl rfl hd hw
/-- one step of the picture: what must hold, and where it is then -/
def ex (M : MI) (i : Instr) (pc : Nat) (lv : List (Option Value)) (st : List Value) (h : HP) : Option (Option Prop × SG) := match i with
  | .iconst n => some (none, pc + 1, lv, .int (Int32.ofInt n) :: st, h)
  | .bipush n => some (none, pc + 2, lv, .int (Int8.ofInt n).toInt32 :: st, h)
  | .sipush n => some (none, pc + 3, lv, .int (Int16.ofInt n).toInt32 :: st, h)
  | .lconst n => some (none, pc + 1, lv, .long (Int64.ofNat (n : Nat)) :: st, h)
  | .aconst_null => some (none, pc + 1, lv, .null :: st, h)
  | .iadd => match st with
    | .int y :: .int x :: st => some (none, pc + 1, lv, .int (x + y) :: st, h)
    | _ => none
  | .isub => match st with
    | .int y :: .int x :: st => some (none, pc + 1, lv, .int (x - y) :: st, h)
    | _ => none
  | .imul => match st with
    | .int y :: .int x :: st => some (none, pc + 1, lv, .int (x * y) :: st, h)
    | _ => none
  | .iand => match st with
    | .int y :: .int x :: st => some (none, pc + 1, lv, .int (x &&& y) :: st, h)
    | _ => none
  | .ior => match st with
    | .int y :: .int x :: st => some (none, pc + 1, lv, .int (x ||| y) :: st, h)
    | _ => none
  | .ixor => match st with
    | .int y :: .int x :: st => some (none, pc + 1, lv, .int (x ^^^ y) :: st, h)
    | _ => none
  | .ishl => match st with
    | .int y :: .int x :: st => some (none, pc + 1, lv, .int (x <<< (y &&& 31)) :: st, h)
    | _ => none
  | .ishr => match st with
    | .int y :: .int x :: st => some (none, pc + 1, lv, .int (x >>> (y &&& 31)) :: st, h)
    | _ => none
  | .iushr => match st with
    | .int y :: .int x :: st => some (none, pc + 1, lv, .int ((x.toUInt32 >>> (y.toUInt32 &&& Int32.toUInt32 31)).toInt32) :: st, h)
    | _ => none
  | .idiv => match st with
    | .int y :: .int x :: st => some (some (¬ y = 0), pc + 1, lv, .int (x / y) :: st, h)
    | _ => none
  | .irem => match st with
    | .int y :: .int x :: st => some (some (¬ y = 0), pc + 1, lv, .int (x - x / y * y) :: st, h)
    | _ => none
  | .ladd => match st with
    | .long y :: .long x :: st => some (none, pc + 1, lv, .long (x + y) :: st, h)
    | _ => none
  | .lsub => match st with
    | .long y :: .long x :: st => some (none, pc + 1, lv, .long (x - y) :: st, h)
    | _ => none
  | .lmul => match st with
    | .long y :: .long x :: st => some (none, pc + 1, lv, .long (x * y) :: st, h)
    | _ => none
  | .ldiv => match st with
    | .long y :: .long x :: st => some (some (¬ y = 0), pc + 1, lv, .long (x / y) :: st, h)
    | _ => none
  | .lrem => match st with
    | .long y :: .long x :: st => some (some (¬ y = 0), pc + 1, lv, .long (x - x / y * y) :: st, h)
    | _ => none
  | .lcmp => match st with
    | .long y :: .long x :: st => some (none, pc + 1, lv, .int (lg_cmp x y) :: st, h)
    | _ => none
  | .ineg => match st with
    | .int x :: st => some (none, pc + 1, lv, .int (-x) :: st, h)
    | _ => none
  | .i2l => match st with
    | .int x :: st => some (none, pc + 1, lv, .long x.toInt64 :: st, h)
    | _ => none
  | .i2b => match st with
    | .int x :: st => some (none, pc + 1, lv, .int x.toInt8.toInt32 :: st, h)
    | _ => none
  | .l2i => match st with
    | .long x :: st => some (none, pc + 1, lv, .int x.toInt32 :: st, h)
    | _ => none
  | .dup => match st with
    | .int x :: st => some (none, pc + 1, lv, .int x :: .int x :: st, h)
    | .ref x :: st => some (none, pc + 1, lv, .ref x :: .ref x :: st, h)
    | _ => none
  | .pop => match st with
    | .int _ :: st => some (none, pc + 1, lv, st, h)
    | .ref _ :: st => some (none, pc + 1, lv, st, h)
    | _ => none
  | .dup_x1 => match st with
    | .int x :: .ref y :: st => some (none, pc + 1, lv, .int x :: .ref y :: .int x :: st, h)
    | .int x :: .int y :: st => some (none, pc + 1, lv, .int x :: .int y :: .int x :: st, h)
    | _ => none
  | .dup2 => match st with
    | .int x :: .ref y :: st => some (none, pc + 1, lv, .int x :: .ref y :: .int x :: .ref y :: st, h)
    | _ => none
  | .if_icmp c off => match st with
    | .int y :: .int x :: st => (match tgt pc off with
      | some t => (match c with
        | .eq => some (none, (if x = y then t else pc + 3), lv, st, h)
        | .ne => some (none, (if ¬ x = y then t else pc + 3), lv, st, h)
        | .lt => some (none, (if x < y then t else pc + 3), lv, st, h)
        | .ge => some (none, (if y ≤ x then t else pc + 3), lv, st, h)
        | .gt => some (none, (if y < x then t else pc + 3), lv, st, h)
        | .le => some (none, (if x ≤ y then t else pc + 3), lv, st, h))
      | none => none)
    | _ => none
  | .ifCond c off => match st with
    | .int x :: st => (match tgt pc off with
      | some t => (match c with
        | .eq => some (none, (if x = 0 then t else pc + 3), lv, st, h)
        | .ne => some (none, (if ¬ x = 0 then t else pc + 3), lv, st, h)
        | .lt => some (none, (if x < 0 then t else pc + 3), lv, st, h)
        | .ge => some (none, (if 0 ≤ x then t else pc + 3), lv, st, h)
        | .gt => some (none, (if 0 < x then t else pc + 3), lv, st, h)
        | .le => some (none, (if x ≤ 0 then t else pc + 3), lv, st, h))
      | none => none)
    | _ => none
  | .goto off => match tgt pc off with
    | some t => some (none, t, lv, st, h)
    | none => none
  | .ifnull off => match st with
    | .ref _ :: st => some (none, pc + 3, lv, st, h)
    | .null :: st => (match tgt pc off with
      | some t => some (none, t, lv, st, h)
      | none => none)
    | _ => none
  | .iload i => match lg lv i with
    | some (.int x) => some (none, pc + 2, lv, .int x :: st, h)
    | _ => none
  | .iload_n i => match lg lv i.val with
    | some (.int x) => some (none, pc + 1, lv, .int x :: st, h)
    | _ => none
  | .lload i => match lg lv i with
    | some (.long x) => some (none, pc + 2, lv, .long x :: st, h)
    | _ => none
  | .lload_n i => match lg lv i.val with
    | some (.long x) => some (none, pc + 1, lv, .long x :: st, h)
    | _ => none
  | .aload i => match lg lv i with
    | some (.ref x) => some (none, pc + 2, lv, .ref x :: st, h)
    | some .null => some (none, pc + 2, lv, .null :: st, h)
    | _ => none
  | .aload_n i => match lg lv i.val with
    | some (.ref x) => some (none, pc + 1, lv, .ref x :: st, h)
    | _ => none
  | .istore i => match st with
    | .int x :: st => bif Nat.blt (i) (mX M) then some (none, pc + 2, ls1 lv i (.int x), st, h) else none
    | _ => none
  | .istore_n i => match st with
    | .int x :: st => bif Nat.blt (i.val) (mX M) then some (none, pc + 1, ls1 lv i.val (.int x), st, h) else none
    | _ => none
  | .lstore i => match st with
    | .long x :: st => bif Nat.blt (i + 1) (mX M) then some (none, pc + 2, ls2 lv i (.long x), st, h) else none
    | _ => none
  | .lstore_n i => match st with
    | .long x :: st => bif Nat.blt (i.val + 1) (mX M) then some (none, pc + 1, ls2 lv i.val (.long x), st, h) else none
    | _ => none
  | .astore i => match st with
    | .ref x :: st => bif Nat.blt (i) (mX M) then some (none, pc + 2, ls1 lv i (.ref x), st, h) else none
    | .null :: st => bif Nat.blt i (mX M) then some (none, pc + 2, ls1 lv i .null, st, h) else none
    | _ => none
  | .astore_n i => match st with
    | .ref x :: st => bif Nat.blt (i.val) (mX M) then some (none, pc + 1, ls1 lv i.val (.ref x), st, h) else none
    | _ => none
  | .iinc i n => match lg lv i with
    | some (.int x) => bif Nat.blt i (mX M) then some (none, pc + 3, ls1 lv i (.int (x + Int32.ofInt n)), st, h) else none
    | _ => none
  | .ldc i => match ldk (mO M) i with
    | some v => some (none, pc + 2, lv, .int v :: st, h)
    | none => none
  | .ldc_w i => match ldk (mO M) i with
    | some v => some (none, pc + 3, lv, .int v :: st, h)
    | none => none
  | .ldc2_w i => match ldk2 (mO M) i with
    | some v => some (none, pc + 3, lv, .long v :: st, h)
    | none => none
  | .getfield i => match st with
    | .ref a :: st => (match fd3 (flT (mO M)) i with
      | some (ci, f) => bif Nat.beq (kK h a) ci then some (none, pc + 3, lv, fvA h a f (fT ci f) :: st, h) else none
      | none => none)
    | _ => none
  | .putfield i => match st with
    | .int x :: .ref a :: st => (match fd3 (flT (mO M)) i with
      | some (ci, f) => bif Nat.beq (kK h a) ci && (!(tO ci f).2.2.2 || (Nat.beq ci (mO M) && ini M)) then (bif Nat.beq (fT ci f) 0 then some (none, pc + 3, lv, st, sI h (u2 (kI h) a f x)) else bif Nat.beq (fT ci f) 1 then some (some (x = 0 ∨ x = 1), pc + 3, lv, st, sI h (u2 (kI h) a f x)) else none) else none
      | none => none)
    | .ref b :: .ref a :: st => (match fd3 (flT (mO M)) i with
      | some (ci, f) => bif Nat.beq (kK h a) ci && (!(tO ci f).2.2.2 || (Nat.beq ci (mO M) && ini M)) then (bif Nat.beq (fT ci f) 2 then some (none, pc + 3, lv, st, sR h (u2 (kR h) a f (some b))) else none) else none
      | none => none)
    | _ => none
  | .iaload => match st with
    | .int i :: .ref a :: st => bif Nat.beq (kK h a) 13 then some (some (vp_in i (kL h a)), pc + 1, lv, .int (kA h a i.toNatClampNeg) :: st, h) else none
    | _ => none
  | .laload => match st with
    | .int i :: .ref a :: st => bif Nat.beq (kK h a) 14 then some (some (vp_in i (kL h a)), pc + 1, lv, .long (kJ h a i.toNatClampNeg) :: st, h) else none
    | _ => none
  | .baload => match st with
    | .int i :: .ref a :: st => bif Nat.beq (kK h a) 12 then some (some (vp_in i (kL h a)), pc + 1, lv, .int (kA h a i.toNatClampNeg) :: st, h) else bif Nat.beq (kK h a) 15 then some (some (vp_in i (kL h a)), pc + 1, lv, .int (kA h a i.toNatClampNeg) :: st, h) else none
    | _ => none
  | .aaload => match st with
    | .int i :: .ref a :: st => bif Nat.beq (kK h a) 16 then some (some (vp_in i (kL h a)), pc + 1, lv, va_rf (kQ h a i.toNatClampNeg) :: st, h) else bif Nat.beq (kK h a) 17 then some (some (vp_in i (kL h a)), pc + 1, lv, va_rf (kQ h a i.toNatClampNeg) :: st, h) else none
    | _ => none
  | .iastore => match st with
    | .int x :: .int i :: .ref a :: st => bif Nat.beq (kK h a) 13 then some (some (vp_in i (kL h a)), pc + 1, lv, st, sA h (u2 (kA h) a i.toNatClampNeg x)) else none
    | _ => none
  | .lastore => match st with
    | .long x :: .int i :: .ref a :: st => bif Nat.beq (kK h a) 14 then some (some (vp_in i (kL h a)), pc + 1, lv, st, sJ h (u2 (kJ h) a i.toNatClampNeg x)) else none
    | _ => none
  | .bastore => match st with
    | .int x :: .int i :: .ref a :: st => bif Nat.beq (kK h a) 12 then some (some (vp_in i (kL h a)), pc + 1, lv, st, sA h (u2 (kA h) a i.toNatClampNeg x.toInt8.toInt32)) else bif Nat.beq (kK h a) 15 then some (some (vp_in i (kL h a)), pc + 1, lv, st, sA h (u2 (kA h) a i.toNatClampNeg (vp_nar .boolean x))) else none
    | _ => none
  | .arraylength => match st with
    | .ref a :: st => bif Nat.blt 11 (kK h a) && Nat.blt (kK h a) 18 then some (none, pc + 1, lv, .int (Int32.ofNat (kL h a)) :: st, h) else none
    | _ => none
  | _ => none
def ilen : Instr → Nat
  | .iconst _ => 1
  | .bipush _ => 2
  | .sipush _ => 3
  | .lconst _ => 1
  | .aconst_null => 1
  | .iadd => 1
  | .isub => 1
  | .imul => 1
  | .iand => 1
  | .ior => 1
  | .ixor => 1
  | .ishl => 1
  | .ishr => 1
  | .iushr => 1
  | .idiv => 1
  | .irem => 1
  | .ladd => 1
  | .lsub => 1
  | .lmul => 1
  | .ldiv => 1
  | .lrem => 1
  | .lcmp => 1
  | .ineg => 1
  | .i2l => 1
  | .i2b => 1
  | .l2i => 1
  | .dup => 1
  | .pop => 1
  | .dup_x1 => 1
  | .dup2 => 1
  | .if_icmp _ _ => 3
  | .ifCond _ _ => 3
  | .goto _ => 3
  | .ifnull _ => 3
  | .iload _ => 2
  | .iload_n _ => 1
  | .lload _ => 2
  | .lload_n _ => 1
  | .aload _ => 2
  | .aload_n _ => 1
  | .istore _ => 2
  | .istore_n _ => 1
  | .lstore _ => 2
  | .lstore_n _ => 1
  | .astore _ => 2
  | .astore_n _ => 1
  | .iinc _ _ => 3
  | .ldc _ => 2
  | .ldc_w _ => 3
  | .ldc2_w _ => 3
  | .getfield _ => 3
  | .putfield _ => 3
  | .iaload => 1
  | .laload => 1
  | .baload => 1
  | .aaload => 1
  | .iastore => 1
  | .lastore => 1
  | .bastore => 1
  | .arraylength => 1
  | _ => 0
theorem ex_ok {M : MI} {d bc bs pc : Nat} {lv : List (Option Value)} {st : List Value} {h : HP} {Q : Option Value → HP → Prop} {i : Instr} {len : Nat} {P : Option Prop} {pc' : Nat} {lv' : List (Option Value)} {st' : List Value} {h' : HP} (hd : decode (mB M) pc = .ok (i, len)) (hlen : ilen i = len) (he : ex M i pc lv st h = some (P, pc', lv', st', h')) (hP : oP P) (k : Ev M d bc bs pc' lv' st' h' Q) : Ev M d bc bs pc lv st h Q := by
  subst hlen
  cases i
  case iconst n =>
    simp only [ex] at he
    simp only [ilen] at hd
    simp only [Option.some.injEq, Prod.mk.injEq] at he
    obtain ⟨rfl, rfl, rfl, rfl, rfl⟩ := he
    exact ev_iconst hd k
  case bipush n =>
    simp only [ex] at he
    simp only [ilen] at hd
    simp only [Option.some.injEq, Prod.mk.injEq] at he
    obtain ⟨rfl, rfl, rfl, rfl, rfl⟩ := he
    exact ev_bipush hd k
  case sipush n =>
    simp only [ex] at he
    simp only [ilen] at hd
    simp only [Option.some.injEq, Prod.mk.injEq] at he
    obtain ⟨rfl, rfl, rfl, rfl, rfl⟩ := he
    exact ev_sipush hd k
  case lconst n =>
    simp only [ex] at he
    simp only [ilen] at hd
    simp only [Option.some.injEq, Prod.mk.injEq] at he
    obtain ⟨rfl, rfl, rfl, rfl, rfl⟩ := he
    exact ev_lconst hd k
  case aconst_null =>
    simp only [ex] at he
    simp only [ilen] at hd
    simp only [Option.some.injEq, Prod.mk.injEq] at he
    obtain ⟨rfl, rfl, rfl, rfl, rfl⟩ := he
    exact ev_null hd k
  case iadd =>
    simp only [ex] at he
    simp only [ilen] at hd
    repeat (any_goals (split at he))
    all_goals first | (cases he; done) | skip
    all_goals (
      simp only [Option.some.injEq, Prod.mk.injEq] at he
      obtain ⟨rfl, rfl, rfl, rfl, rfl⟩ := he
      exact ev_iadd hd k)
  case isub =>
    simp only [ex] at he
    simp only [ilen] at hd
    repeat (any_goals (split at he))
    all_goals first | (cases he; done) | skip
    all_goals (
      simp only [Option.some.injEq, Prod.mk.injEq] at he
      obtain ⟨rfl, rfl, rfl, rfl, rfl⟩ := he
      exact ev_isub hd k)
  case imul =>
    simp only [ex] at he
    simp only [ilen] at hd
    repeat (any_goals (split at he))
    all_goals first | (cases he; done) | skip
    all_goals (
      simp only [Option.some.injEq, Prod.mk.injEq] at he
      obtain ⟨rfl, rfl, rfl, rfl, rfl⟩ := he
      exact ev_imul hd k)
  case iand =>
    simp only [ex] at he
    simp only [ilen] at hd
    repeat (any_goals (split at he))
    all_goals first | (cases he; done) | skip
    all_goals (
      simp only [Option.some.injEq, Prod.mk.injEq] at he
      obtain ⟨rfl, rfl, rfl, rfl, rfl⟩ := he
      exact ev_iand hd k)
  case ior =>
    simp only [ex] at he
    simp only [ilen] at hd
    repeat (any_goals (split at he))
    all_goals first | (cases he; done) | skip
    all_goals (
      simp only [Option.some.injEq, Prod.mk.injEq] at he
      obtain ⟨rfl, rfl, rfl, rfl, rfl⟩ := he
      exact ev_ior hd k)
  case ixor =>
    simp only [ex] at he
    simp only [ilen] at hd
    repeat (any_goals (split at he))
    all_goals first | (cases he; done) | skip
    all_goals (
      simp only [Option.some.injEq, Prod.mk.injEq] at he
      obtain ⟨rfl, rfl, rfl, rfl, rfl⟩ := he
      exact ev_ixor hd k)
  case ishl =>
    simp only [ex] at he
    simp only [ilen] at hd
    repeat (any_goals (split at he))
    all_goals first | (cases he; done) | skip
    all_goals (
      simp only [Option.some.injEq, Prod.mk.injEq] at he
      obtain ⟨rfl, rfl, rfl, rfl, rfl⟩ := he
      exact ev_ishl hd k)
  case ishr =>
    simp only [ex] at he
    simp only [ilen] at hd
    repeat (any_goals (split at he))
    all_goals first | (cases he; done) | skip
    all_goals (
      simp only [Option.some.injEq, Prod.mk.injEq] at he
      obtain ⟨rfl, rfl, rfl, rfl, rfl⟩ := he
      exact ev_ishr hd k)
  case iushr =>
    simp only [ex] at he
    simp only [ilen] at hd
    repeat (any_goals (split at he))
    all_goals first | (cases he; done) | skip
    all_goals (
      simp only [Option.some.injEq, Prod.mk.injEq] at he
      obtain ⟨rfl, rfl, rfl, rfl, rfl⟩ := he
      exact ev_iushr hd k)
  case idiv =>
    simp only [ex] at he
    simp only [ilen] at hd
    repeat (any_goals (split at he))
    all_goals first | (cases he; done) | skip
    all_goals (
      simp only [Option.some.injEq, Prod.mk.injEq] at he
      obtain ⟨rfl, rfl, rfl, rfl, rfl⟩ := he
      exact ev_idiv hd hP k)
  case irem =>
    simp only [ex] at he
    simp only [ilen] at hd
    repeat (any_goals (split at he))
    all_goals first | (cases he; done) | skip
    all_goals (
      simp only [Option.some.injEq, Prod.mk.injEq] at he
      obtain ⟨rfl, rfl, rfl, rfl, rfl⟩ := he
      exact ev_irem hd hP k)
  case ladd =>
    simp only [ex] at he
    simp only [ilen] at hd
    repeat (any_goals (split at he))
    all_goals first | (cases he; done) | skip
    all_goals (
      simp only [Option.some.injEq, Prod.mk.injEq] at he
      obtain ⟨rfl, rfl, rfl, rfl, rfl⟩ := he
      exact ev_ladd hd k)
  case lsub =>
    simp only [ex] at he
    simp only [ilen] at hd
    repeat (any_goals (split at he))
    all_goals first | (cases he; done) | skip
    all_goals (
      simp only [Option.some.injEq, Prod.mk.injEq] at he
      obtain ⟨rfl, rfl, rfl, rfl, rfl⟩ := he
      exact ev_lsub hd k)
  case lmul =>
    simp only [ex] at he
    simp only [ilen] at hd
    repeat (any_goals (split at he))
    all_goals first | (cases he; done) | skip
    all_goals (
      simp only [Option.some.injEq, Prod.mk.injEq] at he
      obtain ⟨rfl, rfl, rfl, rfl, rfl⟩ := he
      exact ev_lmul hd k)
  case ldiv =>
    simp only [ex] at he
    simp only [ilen] at hd
    repeat (any_goals (split at he))
    all_goals first | (cases he; done) | skip
    all_goals (
      simp only [Option.some.injEq, Prod.mk.injEq] at he
      obtain ⟨rfl, rfl, rfl, rfl, rfl⟩ := he
      exact ev_ldiv hd hP k)
  case lrem =>
    simp only [ex] at he
    simp only [ilen] at hd
    repeat (any_goals (split at he))
    all_goals first | (cases he; done) | skip
    all_goals (
      simp only [Option.some.injEq, Prod.mk.injEq] at he
      obtain ⟨rfl, rfl, rfl, rfl, rfl⟩ := he
      exact ev_lrem hd hP k)
  case lcmp =>
    simp only [ex] at he
    simp only [ilen] at hd
    repeat (any_goals (split at he))
    all_goals first | (cases he; done) | skip
    all_goals (
      simp only [Option.some.injEq, Prod.mk.injEq] at he
      obtain ⟨rfl, rfl, rfl, rfl, rfl⟩ := he
      exact ev_lcmp hd k)
  case ineg =>
    simp only [ex] at he
    simp only [ilen] at hd
    repeat (any_goals (split at he))
    all_goals first | (cases he; done) | skip
    all_goals (
      simp only [Option.some.injEq, Prod.mk.injEq] at he
      obtain ⟨rfl, rfl, rfl, rfl, rfl⟩ := he
      exact ev_ineg hd k)
  case i2l =>
    simp only [ex] at he
    simp only [ilen] at hd
    repeat (any_goals (split at he))
    all_goals first | (cases he; done) | skip
    all_goals (
      simp only [Option.some.injEq, Prod.mk.injEq] at he
      obtain ⟨rfl, rfl, rfl, rfl, rfl⟩ := he
      exact ev_i2l hd k)
  case i2b =>
    simp only [ex] at he
    simp only [ilen] at hd
    repeat (any_goals (split at he))
    all_goals first | (cases he; done) | skip
    all_goals (
      simp only [Option.some.injEq, Prod.mk.injEq] at he
      obtain ⟨rfl, rfl, rfl, rfl, rfl⟩ := he
      exact ev_i2b hd k)
  case l2i =>
    simp only [ex] at he
    simp only [ilen] at hd
    repeat (any_goals (split at he))
    all_goals first | (cases he; done) | skip
    all_goals (
      simp only [Option.some.injEq, Prod.mk.injEq] at he
      obtain ⟨rfl, rfl, rfl, rfl, rfl⟩ := he
      exact ev_l2i hd k)
  case dup =>
    simp only [ex] at he
    simp only [ilen] at hd
    repeat (any_goals (split at he))
    all_goals first | (cases he; done) | skip
    all_goals (
      simp only [Option.some.injEq, Prod.mk.injEq] at he
      obtain ⟨rfl, rfl, rfl, rfl, rfl⟩ := he
      exact ev_dup hd rfl k)
  case pop =>
    simp only [ex] at he
    simp only [ilen] at hd
    repeat (any_goals (split at he))
    all_goals first | (cases he; done) | skip
    all_goals (
      simp only [Option.some.injEq, Prod.mk.injEq] at he
      obtain ⟨rfl, rfl, rfl, rfl, rfl⟩ := he
      exact ev_pop hd rfl k)
  case dup_x1 =>
    simp only [ex] at he
    simp only [ilen] at hd
    repeat (any_goals (split at he))
    all_goals first | (cases he; done) | skip
    all_goals (
      simp only [Option.some.injEq, Prod.mk.injEq] at he
      obtain ⟨rfl, rfl, rfl, rfl, rfl⟩ := he
      exact ev_dup_x1 hd rfl rfl k)
  case dup2 =>
    simp only [ex] at he
    simp only [ilen] at hd
    repeat (any_goals (split at he))
    all_goals first | (cases he; done) | skip
    all_goals (
      simp only [Option.some.injEq, Prod.mk.injEq] at he
      obtain ⟨rfl, rfl, rfl, rfl, rfl⟩ := he
      exact ev_dup2 hd rfl rfl k)
  case if_icmp c off =>
    simp only [ex] at he
    simp only [ilen] at hd
    split at he
    · split at he
      · rename_i t ht
        cases c <;> (simp only [Option.some.injEq, Prod.mk.injEq] at he; obtain ⟨rfl, rfl, rfl, rfl, rfl⟩ := he)
        · exact ev_icmp_eq hd ht k
        · exact ev_icmp_ne hd ht k
        · exact ev_icmp_lt hd ht k
        · exact ev_icmp_ge hd ht k
        · exact ev_icmp_gt hd ht k
        · exact ev_icmp_le hd ht k
      · cases he
    · cases he
  case ifCond c off =>
    simp only [ex] at he
    simp only [ilen] at hd
    split at he
    · split at he
      · rename_i t ht
        cases c <;> (simp only [Option.some.injEq, Prod.mk.injEq] at he; obtain ⟨rfl, rfl, rfl, rfl, rfl⟩ := he)
        · exact ev_if_eq hd ht k
        · exact ev_if_ne hd ht k
        · exact ev_if_lt hd ht k
        · exact ev_if_ge hd ht k
        · exact ev_if_gt hd ht k
        · exact ev_if_le hd ht k
      · cases he
    · cases he
  case goto off =>
    simp only [ex] at he
    simp only [ilen] at hd
    repeat (any_goals (split at he))
    all_goals first | (cases he; done) | skip
    all_goals (
      simp only [Option.some.injEq, Prod.mk.injEq] at he
      obtain ⟨rfl, rfl, rfl, rfl, rfl⟩ := he
      exact ev_goto hd (by assumption) k)
  case ifnull off =>
    simp only [ex] at he
    simp only [ilen] at hd
    repeat (any_goals (split at he))
    all_goals first | (cases he; done) | skip
    all_goals (
      simp only [Option.some.injEq, Prod.mk.injEq] at he
      obtain ⟨rfl, rfl, rfl, rfl, rfl⟩ := he
      first | exact ev_ifnull hd k | exact ev_ifnullN hd (by assumption) k)
  case iload i =>
    simp only [ex] at he
    simp only [ilen] at hd
    repeat (any_goals (split at he))
    all_goals first | (cases he; done) | skip
    all_goals (
      simp only [Option.some.injEq, Prod.mk.injEq] at he
      obtain ⟨rfl, rfl, rfl, rfl, rfl⟩ := he
      exact ev_iload hd (by assumption) k)
  case iload_n i =>
    simp only [ex] at he
    simp only [ilen] at hd
    repeat (any_goals (split at he))
    all_goals first | (cases he; done) | skip
    all_goals (
      simp only [Option.some.injEq, Prod.mk.injEq] at he
      obtain ⟨rfl, rfl, rfl, rfl, rfl⟩ := he
      exact ev_iload_n hd (by assumption) k)
  case lload i =>
    simp only [ex] at he
    simp only [ilen] at hd
    repeat (any_goals (split at he))
    all_goals first | (cases he; done) | skip
    all_goals (
      simp only [Option.some.injEq, Prod.mk.injEq] at he
      obtain ⟨rfl, rfl, rfl, rfl, rfl⟩ := he
      exact ev_lload hd (by assumption) k)
  case lload_n i =>
    simp only [ex] at he
    simp only [ilen] at hd
    repeat (any_goals (split at he))
    all_goals first | (cases he; done) | skip
    all_goals (
      simp only [Option.some.injEq, Prod.mk.injEq] at he
      obtain ⟨rfl, rfl, rfl, rfl, rfl⟩ := he
      exact ev_lload_n hd (by assumption) k)
  case aload i =>
    simp only [ex] at he
    simp only [ilen] at hd
    repeat (any_goals (split at he))
    all_goals first | (cases he; done) | skip
    all_goals (
      simp only [Option.some.injEq, Prod.mk.injEq] at he
      obtain ⟨rfl, rfl, rfl, rfl, rfl⟩ := he
      first | exact ev_aload hd (by assumption) k | exact ev_aloadN hd (by assumption) k)
  case aload_n i =>
    simp only [ex] at he
    simp only [ilen] at hd
    repeat (any_goals (split at he))
    all_goals first | (cases he; done) | skip
    all_goals (
      simp only [Option.some.injEq, Prod.mk.injEq] at he
      obtain ⟨rfl, rfl, rfl, rfl, rfl⟩ := he
      exact ev_aload_n hd (by assumption) k)
  case istore i =>
    simp only [ex] at he
    simp only [ilen] at hd
    repeat (any_goals (split at he))
    all_goals first | (cases he; done) | skip
    all_goals (
      rw [cond_eq_ite] at he
      split at he
      · rename_i hb
        simp only [Option.some.injEq, Prod.mk.injEq] at he
        obtain ⟨rfl, rfl, rfl, rfl, rfl⟩ := he
        first | exact ev_istore hd (blt_ok hb) k | exact ev_astoreN hd (blt_ok hb) k
      · cases he)
  case istore_n i =>
    simp only [ex] at he
    simp only [ilen] at hd
    repeat (any_goals (split at he))
    all_goals first | (cases he; done) | skip
    all_goals (
      rw [cond_eq_ite] at he
      split at he
      · rename_i hb
        simp only [Option.some.injEq, Prod.mk.injEq] at he
        obtain ⟨rfl, rfl, rfl, rfl, rfl⟩ := he
        exact ev_istore_n hd (blt_ok hb) k
      · cases he)
  case lstore i =>
    simp only [ex] at he
    simp only [ilen] at hd
    repeat (any_goals (split at he))
    all_goals first | (cases he; done) | skip
    all_goals (
      rw [cond_eq_ite] at he
      split at he
      · rename_i hb
        simp only [Option.some.injEq, Prod.mk.injEq] at he
        obtain ⟨rfl, rfl, rfl, rfl, rfl⟩ := he
        first | exact ev_lstore hd (blt_ok hb) k | exact ev_astoreN hd (blt_ok hb) k
      · cases he)
  case lstore_n i =>
    simp only [ex] at he
    simp only [ilen] at hd
    repeat (any_goals (split at he))
    all_goals first | (cases he; done) | skip
    all_goals (
      rw [cond_eq_ite] at he
      split at he
      · rename_i hb
        simp only [Option.some.injEq, Prod.mk.injEq] at he
        obtain ⟨rfl, rfl, rfl, rfl, rfl⟩ := he
        exact ev_lstore_n hd (blt_ok hb) k
      · cases he)
  case astore i =>
    simp only [ex] at he
    simp only [ilen] at hd
    repeat (any_goals (split at he))
    all_goals first | (cases he; done) | skip
    all_goals (
      rw [cond_eq_ite] at he
      split at he
      · rename_i hb
        simp only [Option.some.injEq, Prod.mk.injEq] at he
        obtain ⟨rfl, rfl, rfl, rfl, rfl⟩ := he
        first | exact ev_astore hd (blt_ok hb) k | exact ev_astoreN hd (blt_ok hb) k
      · cases he)
  case astore_n i =>
    simp only [ex] at he
    simp only [ilen] at hd
    repeat (any_goals (split at he))
    all_goals first | (cases he; done) | skip
    all_goals (
      rw [cond_eq_ite] at he
      split at he
      · rename_i hb
        simp only [Option.some.injEq, Prod.mk.injEq] at he
        obtain ⟨rfl, rfl, rfl, rfl, rfl⟩ := he
        exact ev_astore_n hd (blt_ok hb) k
      · cases he)
  case iinc i n =>
    simp only [ex] at he
    simp only [ilen] at hd
    repeat (any_goals (split at he))
    all_goals first | (cases he; done) | skip
    all_goals (
      rw [cond_eq_ite] at he
      split at he
      · rename_i hb
        simp only [Option.some.injEq, Prod.mk.injEq] at he
        obtain ⟨rfl, rfl, rfl, rfl, rfl⟩ := he
        exact ev_iinc hd (blt_ok hb) (by assumption) k
      · cases he)
  case ldc i =>
    simp only [ex] at he
    simp only [ilen] at hd
    repeat (any_goals (split at he))
    all_goals first | (cases he; done) | skip
    all_goals (
      simp only [Option.some.injEq, Prod.mk.injEq] at he
      obtain ⟨rfl, rfl, rfl, rfl, rfl⟩ := he
      exact ev_ldc hd (by assumption) k)
  case ldc_w i =>
    simp only [ex] at he
    simp only [ilen] at hd
    repeat (any_goals (split at he))
    all_goals first | (cases he; done) | skip
    all_goals (
      simp only [Option.some.injEq, Prod.mk.injEq] at he
      obtain ⟨rfl, rfl, rfl, rfl, rfl⟩ := he
      exact ev_ldcw hd (by assumption) k)
  case ldc2_w i =>
    simp only [ex] at he
    simp only [ilen] at hd
    repeat (any_goals (split at he))
    all_goals first | (cases he; done) | skip
    all_goals (
      simp only [Option.some.injEq, Prod.mk.injEq] at he
      obtain ⟨rfl, rfl, rfl, rfl, rfl⟩ := he
      exact ev_ldc2 hd (by assumption) k)
  case getfield i =>
    simp only [ex] at he
    simp only [ilen] at hd
    repeat (any_goals (split at he))
    all_goals first | (cases he; done) | skip
    all_goals (
      rw [cond_eq_ite] at he
      split at he
      · rename_i hb
        simp only [Option.some.injEq, Prod.mk.injEq] at he
        obtain ⟨rfl, rfl, rfl, rfl, rfl⟩ := he
        exact ev_getf hd (by assumption) (Nat.eq_of_beq_eq_true hb) k
      · cases he)
  case putfield i =>
    simp only [ex] at he
    simp only [ilen] at hd
    split at he
    · split at he
      · rename_i ci f hf
        cases hb : (Nat.beq (kK h _) ci && (!(tO ci f).2.2.2 || (Nat.beq ci (mO M) && ini M))) with
        | false => rw [hb] at he; cases he
        | true =>
          rw [hb] at he
          rw [Bool.and_eq_true] at hb
          have hfin : (tO ci f).2.2.2 = false ∨ ((mY M).name = "<init>" ∧ ci = mO M) := by
            have h2 := hb.2
            rw [Bool.or_eq_true, Bool.and_eq_true] at h2
            rcases h2 with h2 | h2
            · exact Or.inl (by simpa using h2)
            · exact Or.inr ⟨by simpa [ini] using h2.2, Nat.eq_of_beq_eq_true h2.1⟩
          cases h0 : Nat.beq (fT ci f) 0 with
          | true =>
            rw [h0] at he
            simp only [cond_true, Option.some.injEq, Prod.mk.injEq] at he
            obtain ⟨rfl, rfl, rfl, rfl, rfl⟩ := he
            exact ev_putI hd hf (Nat.eq_of_beq_eq_true hb.1) (Or.inl (Nat.eq_of_beq_eq_true h0)) hfin k
          | false =>
            rw [h0] at he
            cases h1 : Nat.beq (fT ci f) 1 with
            | true =>
              rw [h1] at he
              simp only [cond_true, cond_false, Option.some.injEq, Prod.mk.injEq] at he
              obtain ⟨rfl, rfl, rfl, rfl, rfl⟩ := he
              exact ev_putI hd hf (Nat.eq_of_beq_eq_true hb.1) (Or.inr ⟨Nat.eq_of_beq_eq_true h1, hP⟩) hfin k
            | false => rw [h1] at he; cases he
      · cases he
    · split at he
      · rename_i ci f hf
        cases hb : (Nat.beq (kK h _) ci && (!(tO ci f).2.2.2 || (Nat.beq ci (mO M) && ini M))) with
        | false => rw [hb] at he; cases he
        | true =>
          rw [hb] at he
          rw [Bool.and_eq_true] at hb
          have hfin : (tO ci f).2.2.2 = false ∨ ((mY M).name = "<init>" ∧ ci = mO M) := by
            have h2 := hb.2
            rw [Bool.or_eq_true, Bool.and_eq_true] at h2
            rcases h2 with h2 | h2
            · exact Or.inl (by simpa using h2)
            · exact Or.inr ⟨by simpa [ini] using h2.2, Nat.eq_of_beq_eq_true h2.1⟩
          cases h0 : Nat.beq (fT ci f) 2 with
          | true =>
            rw [h0] at he
            simp only [cond_true, Option.some.injEq, Prod.mk.injEq] at he
            obtain ⟨rfl, rfl, rfl, rfl, rfl⟩ := he
            have hff := flk_ok hf
            exact ev_putR (r := some _) hd hf (Nat.eq_of_beq_eq_true hb.1) (Nat.eq_of_beq_eq_true h0) (fits_rf hff.1 hff.2.1 (Nat.eq_of_beq_eq_true h0)) hfin k
          | false => rw [h0] at he; cases he
      · cases he
    · cases he
  case iaload =>
    simp only [ex] at he
    simp only [ilen] at hd
    repeat (any_goals (split at he))
    all_goals first | (cases he; done) | skip
    all_goals (
      rw [cond_eq_ite] at he
      split at he
      · rename_i hb
        simp only [Option.some.injEq, Prod.mk.injEq] at he
        obtain ⟨rfl, rfl, rfl, rfl, rfl⟩ := he
        exact ev_iald hd (Nat.eq_of_beq_eq_true hb) hP k
      · cases he)
  case laload =>
    simp only [ex] at he
    simp only [ilen] at hd
    repeat (any_goals (split at he))
    all_goals first | (cases he; done) | skip
    all_goals (
      rw [cond_eq_ite] at he
      split at he
      · rename_i hb
        simp only [Option.some.injEq, Prod.mk.injEq] at he
        obtain ⟨rfl, rfl, rfl, rfl, rfl⟩ := he
        exact ev_lald hd (Nat.eq_of_beq_eq_true hb) hP k
      · cases he)
  case baload =>
    simp only [ex] at he
    simp only [ilen] at hd
    split at he
    · rw [cond_eq_ite] at he
      split at he
      · rename_i hb
        simp only [Option.some.injEq, Prod.mk.injEq] at he
        obtain ⟨rfl, rfl, rfl, rfl, rfl⟩ := he
        exact ev_bald hd (Nat.eq_of_beq_eq_true hb) hP k
      · rw [cond_eq_ite] at he
        split at he
        · rename_i hb
          simp only [Option.some.injEq, Prod.mk.injEq] at he
          obtain ⟨rfl, rfl, rfl, rfl, rfl⟩ := he
          exact ev_zald hd (Nat.eq_of_beq_eq_true hb) hP k
        · cases he
    · cases he
  case aaload =>
    simp only [ex] at he
    simp only [ilen] at hd
    split at he
    · rw [cond_eq_ite] at he
      split at he
      · rename_i hb
        simp only [Option.some.injEq, Prod.mk.injEq] at he
        obtain ⟨rfl, rfl, rfl, rfl, rfl⟩ := he
        exact ev_qald16 hd (Nat.eq_of_beq_eq_true hb) hP k
      · rw [cond_eq_ite] at he
        split at he
        · rename_i hb
          simp only [Option.some.injEq, Prod.mk.injEq] at he
          obtain ⟨rfl, rfl, rfl, rfl, rfl⟩ := he
          exact ev_qald17 hd (Nat.eq_of_beq_eq_true hb) hP k
        · cases he
    · cases he
  case iastore =>
    simp only [ex] at he
    simp only [ilen] at hd
    repeat (any_goals (split at he))
    all_goals first | (cases he; done) | skip
    all_goals (
      rw [cond_eq_ite] at he
      split at he
      · rename_i hb
        simp only [Option.some.injEq, Prod.mk.injEq] at he
        obtain ⟨rfl, rfl, rfl, rfl, rfl⟩ := he
        exact ev_iast hd (Nat.eq_of_beq_eq_true hb) hP k
      · cases he)
  case lastore =>
    simp only [ex] at he
    simp only [ilen] at hd
    repeat (any_goals (split at he))
    all_goals first | (cases he; done) | skip
    all_goals (
      rw [cond_eq_ite] at he
      split at he
      · rename_i hb
        simp only [Option.some.injEq, Prod.mk.injEq] at he
        obtain ⟨rfl, rfl, rfl, rfl, rfl⟩ := he
        exact ev_last hd (Nat.eq_of_beq_eq_true hb) hP k
      · cases he)
  case bastore =>
    simp only [ex] at he
    simp only [ilen] at hd
    split at he
    · rw [cond_eq_ite] at he
      split at he
      · rename_i hb
        simp only [Option.some.injEq, Prod.mk.injEq] at he
        obtain ⟨rfl, rfl, rfl, rfl, rfl⟩ := he
        exact ev_bast hd (Nat.eq_of_beq_eq_true hb) hP k
      · rw [cond_eq_ite] at he
        split at he
        · rename_i hb
          simp only [Option.some.injEq, Prod.mk.injEq] at he
          obtain ⟨rfl, rfl, rfl, rfl, rfl⟩ := he
          exact ev_zast hd (Nat.eq_of_beq_eq_true hb) hP k
        · cases he
    · cases he
  case arraylength =>
    simp only [ex] at he
    simp only [ilen] at hd
    repeat (any_goals (split at he))
    all_goals first | (cases he; done) | skip
    all_goals (
      rw [cond_eq_ite] at he
      split at he
      · rename_i hb
        simp only [Option.some.injEq, Prod.mk.injEq] at he
        obtain ⟨rfl, rfl, rfl, rfl, rfl⟩ := he
        rw [Bool.and_eq_true] at hb; exact ev_alen hd rfl ⟨blt_ok hb.1, blt_ok hb.2⟩ k
      · cases he)
  all_goals (simp only [ex] at he; cases he)
end EX
