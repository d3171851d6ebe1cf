section STPS
/-- k steps; what must hold is gathered -/
def stps (M : MI) : Nat → SG → Option (Prop × SG)
  | 0, g => some (True, g)
  | n + 1, g => match fnd (mT M) g.1 with
    | none => none
    | some (i, len) => bif Nat.beq (ilen i) len then (match ex M i g.1 g.2.1 g.2.2.1 g.2.2.2 with
      | none => none
      | some (P, g') => (match stps M n g' with
        | none => none
        | some (P', g'') => some (cj P P', g''))) else none
theorem stps_ok {M : MI} {d bc bs : Nat} {Q : Option Value → HP → Prop} (hT : TOK M) : ∀ (n : Nat) (pc : Nat) (lv : List (Option Value)) (st : List Value) (h : HP) (pc' : Nat) (lv' : List (Option Value)) (st' : List Value) (h' : HP) (P : Prop), stps M n (pc, lv, st, h) = some (P, pc', lv', st', h') → P → Ev M d bc bs pc' lv' st' h' Q → Ev M d bc bs pc lv st h Q
  | 0, pc, lv, st, h, pc', lv', st', h', P, hs, _, k => by
    simp only [stps, Option.some.injEq, Prod.mk.injEq] at hs
    obtain ⟨-, rfl, rfl, rfl, rfl⟩ := hs
    exact k
  | n + 1, pc, lv, st, h, pc', lv', st', h', P, hs, hP, k => by
    simp only [stps] at hs
    cases hf : fnd (mT M) pc with
    | none => rw [hf] at hs; cases hs
    | some q =>
      obtain ⟨i, len⟩ := q
      rw [hf] at hs
      dsimp only at hs
      cases hl : Nat.beq (ilen i) len with
      | false => rw [hl, cond_false] at hs; cases hs
      | true =>
        rw [hl, cond_true] at hs
        cases he : ex M i pc lv st h with
        | none => rw [he] at hs; cases hs
        | some q1 =>
          obtain ⟨P1, pc1, lv1, st1, h1⟩ := q1
          rw [he] at hs
          dsimp only at hs
          cases hn : stps M n (pc1, lv1, st1, h1) with
          | none => rw [hn] at hs; cases hs
          | some q2 =>
            obtain ⟨P2, pc2, lv2, st2, h2⟩ := q2
            rw [hn] at hs
            simp only [Option.some.injEq, Prod.mk.injEq] at hs
            obtain ⟨rfl, rfl, rfl, rfl, rfl⟩ := hs
            have hd : decode (mB M) pc = .ok (i, len) := hT (pc, i, len) (fnd_mem _ _ _ hf)
            have hle : ilen i = len := Nat.eq_of_beq_eq_true hl
            have kk := stps_ok hT n pc1 lv1 st1 h1 _ _ _ _ P2 hn (cj_1 hP).2 k
            exact ex_ok (i := i) (len := len) (P := P1) (pc' := pc1) (lv' := lv1) (st' := st1) (h' := h1) hd hle he (cj_1 hP).1 kk
theorem Ev.steps {M : MI} {d bc bs pc pc' : Nat} {lv lv' : List (Option Value)} {st st' : List Value} {h h' : HP} {Q : Option Value → HP → Prop} (hT : TOK M) (n : Nat) {P : Prop} (he : stps M n (pc, lv, st, h) = some (P, pc', lv', st', h')) (hP : P) (k : Ev M d bc bs pc' lv' st' h' Q) : Ev M d bc bs pc lv st h Q :=
  stps_ok hT n pc lv st h pc' lv' st' h' P he hP k
end STPS
