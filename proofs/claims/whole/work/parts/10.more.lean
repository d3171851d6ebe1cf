section MORE
theorem Ev.reti {M : MI} {d bc bs pc : Nat} {lv : List (Option Value)} {x : Int32} {h : HP} {Q : Option Value → HP → Prop} (hT : TOK M) (hf : fnd (mT M) pc = some (.ireturn, 1)) (hr : mR M = some .int) (hq : Q (some (.int x)) h) : Ev M d bc bs pc lv [.int x] h Q :=
  Ev.ret (v := some (.int x)) (Or.inr (Or.inl ⟨x, .int, rfl, hT (pc, .ireturn, 1) (fnd_mem _ _ _ hf), hr, rfl⟩)) hq
theorem Ev.retz {M : MI} {d bc bs pc : Nat} {lv : List (Option Value)} {x : Int32} {h : HP} {Q : Option Value → HP → Prop} (hT : TOK M) (hf : fnd (mT M) pc = some (.ireturn, 1)) (hr : mR M = some .boolean) (hx : x = 0 ∨ x = 1) (hq : Q (some (.int x)) h) : Ev M d bc bs pc lv [.int x] h Q :=
  Ev.ret (v := some (.int x)) (Or.inr (Or.inl ⟨x, .boolean, rfl, hT (pc, .ireturn, 1) (fnd_mem _ _ _ hf), hr, by rcases hx with rfl | rfl <;> decide⟩)) hq
theorem Ev.retl {M : MI} {d bc bs pc : Nat} {lv : List (Option Value)} {x : Int64} {h : HP} {Q : Option Value → HP → Prop} (hT : TOK M) (hf : fnd (mT M) pc = some (.lreturn, 1)) (hr : mR M = some .long) (hq : Q (some (.long x)) h) : Ev M d bc bs pc lv [.long x] h Q :=
  Ev.ret (v := some (.long x)) (Or.inr (Or.inr (Or.inl ⟨x, rfl, hT (pc, .lreturn, 1) (fnd_mem _ _ _ hf), hr⟩))) hq
theorem Ev.retr {M : MI} {d bc bs pc : Nat} {lv : List (Option Value)} {r : Option Nat} {n : String} {h : HP} {Q : Option Value → HP → Prop} (hT : TOK M) (hf : fnd (mT M) pc = some (.areturn, 1)) (hr : mR M = some (.object n)) (hq : Q (some (va_rf r)) h) : Ev M d bc bs pc lv [va_rf r] h Q :=
  Ev.ret (v := some (va_rf r)) (Or.inr (Or.inr (Or.inr ⟨r, rfl, hT (pc, .areturn, 1) (fnd_mem _ _ _ hf), n, hr⟩))) hq
theorem Ev.retv {M : MI} {d bc bs pc : Nat} {lv : List (Option Value)} {h : HP} {Q : Option Value → HP → Prop} (hT : TOK M) (hf : fnd (mT M) pc = some (.return_, 1)) (hr : mR M = none) (hq : Q none h) : Ev M d bc bs pc lv [] h Q :=
  Ev.ret (v := none) (Or.inl ⟨rfl, hT (pc, .return_, 1) (fnd_mem _ _ _ hf), hr⟩) hq
theorem dcd {M : MI} (hT : TOK M) {pc n : Nat} {i : Instr} (hf : fnd (mT M) pc = some (i, n)) : decode (mB M) pc = .ok (i, n) := hT (pc, i, n) (fnd_mem _ _ _ hf)
theorem Ev.retn {M : MI} {d bc bs pc : Nat} {lv : List (Option Value)} {x : Int32} {ty : FieldType} {h : HP} {Q : Option Value → HP → Prop} (hT : TOK M) (hf : fnd (mT M) pc = some (.ireturn, 1)) (hr : mR M = some ty) (hx : narrow ty (.int x) = .int x) (hq : Q (some (.int x)) h) : Ev M d bc bs pc lv [.int x] h Q :=
  Ev.ret (v := some (.int x)) (Or.inr (Or.inl ⟨x, ty, rfl, hT (pc, .ireturn, 1) (fnd_mem _ _ _ hf), hr, hx⟩)) hq
/-- Object() -/
theorem ev_objInit {M : MI} {d bc bs pc : Nat} {lv : List (Option Value)} {st : List Value} {h : HP} {Q : Option Value → HP → Prop} {i a : Nat} (hd : decode (mB M) pc = .ok (.invokespecial i, 3)) (hlk : Cond.methodLink (cnm (mO M)) i objectInit ∈ TB) (h1 : Cond.instanceMethod objectInit ∈ TB) (h2 : Cond.code objectInit ⟨#[0xb1]⟩ 1 none ∈ TB) (hdd : 1 ≤ d) (hrest : (st.map fun v => v.category).sum ≤ 8)
    (k : Ev M d bc bs (pc + 3) lv st h Q) : Ev M d bc bs pc lv (.ref a :: st) h Q := by
  refine ev_full (Nat.le_refl _) (fun {p l e R s m args below meth c D cy G L xs H locs cells slots ls Z} C hdr hrr hK hH hS hl kk => ?_) k
  have hts := C.2.2.2.2.2.1
  refine W.objInit C.1 C.2.1 C.2.2.2.2.1 (hts _ hlk) (hts _ h1) (hts _ h2) rfl (hl.1.trans C.2.2.2.1.symm) rfl hd (by omega) ?_ (kk _ _ _ hH hS hl)
  show 2 * 0 + _ + 12 ≤ _
  rw [cat_cv]
  have := hdr.2
  unfold LQ at this
  omega
/-- Math.max, Math.min -/
theorem ev_max {M : MI} {d bc bs pc : Nat} {lv : List (Option Value)} {st : List Value} {h : HP} {Q : Option Value → HP → Prop} {i : Nat} {x y : Int32} (hd : decode (mB M) pc = .ok (.invokestatic i, 3)) (hlk : Cond.methodLink (cnm (mO M)) i Lib.Math.max.name ∈ TB) (h1 : Cond.static Lib.Math.max.name ∈ TB) (h2 : Cond.initialized "java/lang/Math" ∈ TB) (h3 : Cond.code Lib.Math.max.name Lib.Math.max.code 2 (some .int) ∈ TB) (hdd : 1 ≤ d) (hrest : (st.map fun v => v.category).sum ≤ 8)
    (k : Ev M d bc bs (pc + 3) lv (.int (if x < y then y else x) :: st) h Q) : Ev M d bc bs pc lv (.int y :: .int x :: st) h Q := by
  refine ev_full (Nat.le_refl _) (fun {p l e R s m args below meth c D cy G L xs H locs cells slots ls Z} C hdr hrr hK hH hS hl kk => ?_) k
  have hts := C.2.2.2.2.2.1
  refine va_mmax C.1 C.2.1 (C.2.2.2.1.trans hl.1.symm) C.2.2.2.2.1 (hts _ hlk) (hts _ h1) (hts _ h2) (hts _ h3) (by omega) ?_ (by omega) (by omega) hd (kk _ _ _ hH hS hl)
  rw [cat_cv]
  have := hdr.2
  unfold LQ at this
  omega
theorem ev_min {M : MI} {d bc bs pc : Nat} {lv : List (Option Value)} {st : List Value} {h : HP} {Q : Option Value → HP → Prop} {i : Nat} {x y : Int32} (hd : decode (mB M) pc = .ok (.invokestatic i, 3)) (hlk : Cond.methodLink (cnm (mO M)) i Lib.Math.min.name ∈ TB) (h1 : Cond.static Lib.Math.min.name ∈ TB) (h2 : Cond.initialized "java/lang/Math" ∈ TB) (h3 : Cond.code Lib.Math.min.name Lib.Math.min.code 2 (some .int) ∈ TB) (hdd : 1 ≤ d) (hrest : (st.map fun v => v.category).sum ≤ 8)
    (k : Ev M d bc bs (pc + 3) lv (.int (if y < x then y else x) :: st) h Q) : Ev M d bc bs pc lv (.int y :: .int x :: st) h Q := by
  refine ev_full (Nat.le_refl _) (fun {p l e R s m args below meth c D cy G L xs H locs cells slots ls Z} C hdr hrr hK hH hS hl kk => ?_) k
  have hts := C.2.2.2.2.2.1
  refine va_mmin C.1 C.2.1 (C.2.2.2.1.trans hl.1.symm) C.2.2.2.2.1 (hts _ hlk) (hts _ h1) (hts _ h2) (hts _ h3) (by omega) ?_ (by omega) (by omega) hd (kk _ _ _ hH hS hl)
  rw [cat_cv]
  have := hdr.2
  unfold LQ at this
  omega
/-- switches -/
theorem ev_tIn {M : MI} {d bc bs pc : Nat} {lv : List (Option Value)} {st : List Value} {h : HP} {Q : Option Value → HP → Prop} {dflt lo hi off : Int} {offs : Array Int} {len t : Nat} {x : Int32} (hd : decode (mB M) pc = .ok (.tableswitch dflt lo hi offs, len)) (h1 : ¬ x.toInt < lo) (h2 : ¬ hi < x.toInt) (ho : offs[(x.toInt - lo).toNat]? = some off) (ht : tgt pc off = some t)
    (k : Ev M d bc bs t lv st h Q) : Ev M d bc bs pc lv (.int x :: st) h Q :=
  ev_of (fun hx hb hl k => lv_tableIn hx hb hd h1 h2 ho (tgt_ok ht) k) k
theorem ev_tOut {M : MI} {d bc bs pc : Nat} {lv : List (Option Value)} {st : List Value} {h : HP} {Q : Option Value → HP → Prop} {dflt lo hi : Int} {offs : Array Int} {len t : Nat} {x : Int32} (hd : decode (mB M) pc = .ok (.tableswitch dflt lo hi offs, len)) (h1 : x.toInt < lo ∨ hi < x.toInt) (ht : tgt pc dflt = some t)
    (k : Ev M d bc bs t lv st h Q) : Ev M d bc bs pc lv (.int x :: st) h Q :=
  ev_of (fun hx hb hl k => lv_tableOut hx hb hd h1 (tgt_ok ht) k) k
theorem ev_look {M : MI} {d bc bs pc : Nat} {lv : List (Option Value)} {st : List Value} {h : HP} {Q : Option Value → HP → Prop} {dflt off : Int} {ps : Array (Int × Int)} {len t : Nat} {x : Int32} (hd : decode (mB M) pc = .ok (.lookupswitch dflt ps, len)) (hp : (ps.toList.zip (ps.toList.drop 1)).all (fun (a, next) => a.1 < next.1) = true) (ho : Op.lookupswitch.offset ps.toList dflt x.toInt = off) (ht : tgt pc off = some t)
    (k : Ev M d bc bs t lv st h Q) : Ev M d bc bs pc lv (.int x :: st) h Q :=
  ev_of (fun hx hb hl k => lv_lookup hx hb hd hp ho (tgt_ok ht) k) k
/-- the script -/
def sXs (L : Nat) (xs : Nat → Int32) : Prop := True
end MORE
