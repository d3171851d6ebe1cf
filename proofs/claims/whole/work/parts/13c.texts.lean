section TEXTS
theorem ev_getI {M : MI} {d bc bs pc i a ci f : Nat} {lv : List (Option Value)} {st : List Value} {h : HP} {Q : Option Value → HP → Prop} (hd : decode (mB M) pc = .ok (.getfield i, 3)) (hf : fd3 (flT (mO M)) i = some (ci, f)) (hk : kK h a = ci) (ht : Nat.beq (fT ci f) 2 = false)
    (k : Ev M d bc bs (pc + 3) lv (.int (kI h a f) :: st) h Q) : Ev M d bc bs pc lv (.ref a :: st) h Q := by
  refine ev_getf hd hf hk ?_
  unfold fvA
  rw [ht]
  exact k
theorem ev_getR {M : MI} {d bc bs pc i a ci f b : Nat} {lv : List (Option Value)} {st : List Value} {h : HP} {Q : Option Value → HP → Prop} (hd : decode (mB M) pc = .ok (.getfield i, 3)) (hf : fd3 (flT (mO M)) i = some (ci, f)) (hk : kK h a = ci) (ht : Nat.beq (fT ci f) 2 = true) (hr : kR h a f = some b)
    (k : Ev M d bc bs (pc + 3) lv (.ref b :: st) h Q) : Ev M d bc bs pc lv (.ref a :: st) h Q := by
  refine ev_getf hd hf hk ?_
  unfold fvA
  rw [ht, hr]
  exact k
theorem ev_aloadQ {M : MI} {d bc bs pc i : Nat} {r : Option Nat} {lv : List (Option Value)} {st : List Value} {h : HP} {Q : Option Value → HP → Prop} (hd : decode (mB M) pc = .ok (.aload i, 2)) (hv : lg lv i = some (va_rf r))
    (k : Ev M d bc bs (pc + 2) lv (va_rf r :: st) h Q) : Ev M d bc bs pc lv st h Q := by
  cases r with
  | none => exact ev_aloadN hd hv k
  | some a => exact ev_aload hd hv k
theorem ev_astoreQ {M : MI} {d bc bs pc i : Nat} {r : Option Nat} {lv : List (Option Value)} {st : List Value} {h : HP} {Q : Option Value → HP → Prop} (hd : decode (mB M) pc = .ok (.astore i, 2)) (hi : i < mX M)
    (k : Ev M d bc bs (pc + 2) (ls1 lv i (va_rf r)) st h Q) : Ev M d bc bs pc lv (va_rf r :: st) h Q := by
  cases r with
  | none => exact ev_astoreN hd hi k
  | some a => exact ev_astore hd hi k
theorem ev_ifnullQ {M : MI} {d bc bs pc t : Nat} {off : Int} {r : Option Nat} {lv : List (Option Value)} {st : List Value} {h : HP} {Q : Option Value → HP → Prop} (hd : decode (mB M) pc = .ok (.ifnull off, 3)) (ht : tgt pc off = some t)
    (k0 : r = none → Ev M d bc bs t lv st h Q) (k1 : ∀ a, r = some a → Ev M d bc bs (pc + 3) lv st h Q) : Ev M d bc bs pc lv (va_rf r :: st) h Q := by
  cases r with
  | none => exact ev_ifnullN hd ht (k0 rfl)
  | some a => exact ev_ifnull hd (k1 a rfl)
end TEXTS
