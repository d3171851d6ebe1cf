section SHAPE
abbrev mkH (x : XT) (fi : Nat → Nat → Int32) (ai : Nat → Nat → Int32) (aj : Nat → Nat → Int64) (aq : Nat → Nat → Option Nat) : HP := (158 + x.1, mK x, mL x, fi, mRr x, ai, aj, aq)
theorem TOK.of {M : MI} (h : ((mT M).all fun q => decide (decode (mB M) q.1 = .ok q.2)) = true) : TOK M := fun q hq => of_decide_eq_true (List.all_eq_true.mp h q hq)
end SHAPE
