section TEXTS
/-! texts of laws: cells that come later; by facts, not by numbers -/
def tx (x : XT) (t : Nat) : Bool := Nat.beq (mK x t) 9 && (decide (mRr x t 2 = some (t + 1)) && (decide (mRr x t 3 = some (t + 2)) && (decide (mRr x t 4 = some (t + 3)) && (decide (mRr x t 5 = some (t + 4)) && (Nat.beq (mK x (t + 1)) 13 && (Nat.beq (mK x (t + 2)) 13 && (Nat.beq (mK x (t + 3)) 13 && Nat.beq (mK x (t + 4)) 13)))))))
theorem tx_ok {x : XT} {t : Nat} (h : tx x t = true) : mK x t = 9 ∧ mRr x t 2 = some (t + 1) ∧ mRr x t 3 = some (t + 2) ∧ mRr x t 4 = some (t + 3) ∧ mRr x t 5 = some (t + 4) ∧ mK x (t + 1) = 13 ∧ mK x (t + 2) = 13 ∧ mK x (t + 3) = 13 ∧ mK x (t + 4) = 13 := by
  unfold tx at h
  simp only [Bool.and_eq_true, decide_eq_true_eq] at h
  exact ⟨Nat.eq_of_beq_eq_true h.1, h.2.1, h.2.2.1, h.2.2.2.1, h.2.2.2.2.1, Nat.eq_of_beq_eq_true h.2.2.2.2.2.1, Nat.eq_of_beq_eq_true h.2.2.2.2.2.2.1, Nat.eq_of_beq_eq_true h.2.2.2.2.2.2.2.1, Nat.eq_of_beq_eq_true h.2.2.2.2.2.2.2.2⟩
/-- none, or a text -/
def qk (x : XT) (r : Option Nat) : Bool := match r with
  | none => true
  | some b => Nat.beq (mK x b) 9
theorem qk_ok {x : XT} {r : Option Nat} (h : qk x r = true) : ∀ b, r = some b → mK x b = 9 := by
  intro b hb
  subst hb
  exact Nat.eq_of_beq_eq_true h
theorem ev_getI {M : MI} {d bc bs pc i a ci f : Nat} {lv : List (Option Value)} {st : List Value} {h : HP} {Q : Option Value → HP → Prop} (hd : decode (mB M) pc = .ok (.getfield i, 3)) (hf : fd3 (flT (mO M)) i = some (ci, f)) (hk : kK h a = ci) (ht : Nat.beq (fT ci f) 2 = false)
    (k : Ev M d bc bs (pc + 3) lv (.int (kI h a f) :: st) h Q) : Ev M d bc bs pc lv (.ref a :: st) h Q := by
  refine ev_getf hd hf hk ?_
  unfold fvA
  rw [ht]
  exact k
theorem ev_getR {M : MI} {d bc bs pc i a ci f b : Nat} {lv : List (Option Value)} {st : List Value} {h : HP} {Q : Option Value → HP → Prop} (hd : decode (mB M) pc = .ok (.getfield i, 3)) (hf : fd3 (flT (mO M)) i = some (ci, f)) (hk : kK h a = ci) (ht : Nat.beq (fT ci f) 2 = true) (hr : kR h a f = some b)
    (k : Ev M d bc bs (pc + 3) lv (.ref b :: st) h Q) : Ev M d bc bs pc lv (.ref a :: st) h Q := by
  refine ev_getf hd hf hk ?_
  unfold fvA
  rw [ht, hr]
  exact k
theorem ev_aloadQ {M : MI} {d bc bs pc i : Nat} {r : Option Nat} {lv : List (Option Value)} {st : List Value} {h : HP} {Q : Option Value → HP → Prop} (hd : decode (mB M) pc = .ok (.aload i, 2)) (hv : lg lv i = some (va_rf r))
    (k : Ev M d bc bs (pc + 2) lv (va_rf r :: st) h Q) : Ev M d bc bs pc lv st h Q := by
  cases r with
  | none => exact ev_aloadN hd hv k
  | some a => exact ev_aload hd hv k
theorem ev_astoreQ {M : MI} {d bc bs pc i : Nat} {r : Option Nat} {lv : List (Option Value)} {st : List Value} {h : HP} {Q : Option Value → HP → Prop} (hd : decode (mB M) pc = .ok (.astore i, 2)) (hi : i < mX M)
    (k : Ev M d bc bs (pc + 2) (ls1 lv i (va_rf r)) st h Q) : Ev M d bc bs pc lv (va_rf r :: st) h Q := by
  cases r with
  | none => exact ev_astoreN hd hi k
  | some a => exact ev_astore hd hi k
theorem ev_ifnullQ {M : MI} {d bc bs pc t : Nat} {off : Int} {r : Option Nat} {lv : List (Option Value)} {st : List Value} {h : HP} {Q : Option Value → HP → Prop} (hd : decode (mB M) pc = .ok (.ifnull off, 3)) (ht : tgt pc off = some t)
    (k0 : r = none → Ev M d bc bs t lv st h Q) (k1 : ∀ a, r = some a → Ev M d bc bs (pc + 3) lv st h Q) : Ev M d bc bs pc lv (va_rf r :: st) h Q := by
  cases r with
  | none => exact ev_ifnullN hd ht (k0 rfl)
  | some a => exact ev_ifnull hd (k1 a rfl)
end TEXTS
