section EVDEF
def sTX : String := "turns pays bars go latch set pass if by as times or and not kind arm many hurry gate goer day mood done latest whole park "
def sTL : Nat := 122
/-- the words that stay good from call to call; those of private members of nest mates apart -/
def TB : List Cond := lw_tbl.filter goodWord
theorem tbm {w : Cond} (h : w ∈ lw_tbl) (g : goodWord w = true) : w ∈ TB := List.mem_filter.mpr ⟨h, g⟩
theorem good_tb : TB.all goodWord = true := List.all_eq_true.mpr (fun w h => (List.mem_filter.mp h).2)
def NW : List Cond := [.methodLinkNest RX10 11 yX7_init "CountGates", .methodLinkNest RX10 26 yX8_init "CountGates", .methodLinkNest RX10 33 yX0_init "CountGates", .methodLinkNest RX10 40 yX4_init "CountGates", .methodLinkNest RX1 21 yX7_init "CountGates", .methodLinkNest RX6 11 yX7_init "CountGates", .methodLinkNest RX2 11 yX7_init "CountGates", .methodLinkNest RX7 78 yX10_within "CountGates", .methodLinkNest RX1 73 yX10_within "CountGates", .methodLinkNest RX6 157 yX10_within "CountGates"]
theorem NW_is : ∀ w ∈ NW, ∃ (a : String) (i : Nat) (x : MethodName) (h : String), w = .methodLinkNest a i x h := by
  intro w hw
  simp only [NW, List.mem_cons, List.not_mem_nil, or_false] at hw
  rcases hw with rfl | rfl | rfl | rfl | rfl | rfl | rfl | rfl | rfl | rfl <;> exact ⟨_, _, _, _, rfl⟩
/-! what stays: the script, the one text constant, two statics of the JDK -/
def EN (G : GG) (L : Nat) (xs : Nat → Int32) (U : State) (H : Heap) : Prop :=
  va_X G.2.1 L xs U H ∧ G.2.1 < G.1 ∧ G.1 ≤ H.size ∧ vk_R RX4 95 sTX G.2.2.1 U ∧ vk_S 1 [sTL] [sTB] (fun _ => G.2.2.1) (fun _ => G.2.2.2.1) (fun q => G.1 ≤ q) U H ∧
  va_Z "java/lang/String" "COMPACT_STRINGS" "Z" (.int 1) (fun q => G.1 ≤ q) U H ∧ (va_Z "jdk/internal/util/Preconditions" "SIOOBE_FORMATTER" "Ljava/util/function/BiFunction;" .null (fun q => G.1 ≤ q) U H ∨ va_Z "jdk/internal/util/Preconditions" "SIOOBE_FORMATTER" "Ljava/util/function/BiFunction;" (.ref G.2.2.2.2) (fun q => G.1 ≤ q) U H) ∧
  (∀ w ∈ NW, va_Nw w U) ∧ va_AO RX7 U ∧ va_AO RX9 U
theorem EN.kept {G : GG} {L : Nat} {xs : Nat → Int32} {U : State} {H H1 : Heap} (h : EN G L xs U H) (hz : H.size ≤ H1.size) (hq : ∀ a : Nat, a < H.size → ¬ G.1 ≤ a → H1[a]? = H[a]?) : EN G L xs U H1 := by
  obtain ⟨h1, h2, h3, h4, h5, h6, h7, h8, h9, h10⟩ := h
  exact ⟨h1.kept (hq _ (by omega) (by omega)), h2, by omega, h4, h5.kept hq, h6.kept hq, h7.elim (fun z => Or.inl (z.kept hq)) (fun z => Or.inr (z.kept hq)), h8, h9, h10⟩
theorem EN.moved {G : GG} {L : Nat} {xs : Nat → Int32} {s U : State} {H : Heap} (hW : s.WarmedH U.vm) (h : EN G L xs s H) : EN G L xs U H := by
  obtain ⟨h1, h2, h3, h4, h5, h6, h7, h8, h9, h10⟩ := h
  exact ⟨va_X.moved hW.alike h1, h2, h3, vk_R.warm hW h4, h5.moved hW.alike, h6.moved hW.alike, h7.elim (fun z => Or.inl (z.moved hW.alike)) (fun z => Or.inr (z.moved hW.alike)), fun w hw => by obtain ⟨a, i, x, hh, rfl⟩ := NW_is w hw; exact va_Nw.warmM hW (h8 _ hw), h9.moved hW.alike, h10.moved hW.alike⟩
theorem EN.same {G : GG} {L : Nat} {xs : Nat → Int32} {s U : State} {H : Heap} (hv : U.vm = s.vm) (h : EN G L xs s H) : EN G L xs U H := by
  obtain ⟨h1, h2, h3, h4, h5, h6, h7, h8, h9, h10⟩ := h
  have ha : s.vm.Alike U.vm := by rw [hv]; exact Vm.Alike.refl _
  exact ⟨va_X.moved ha h1, h2, h3, vk_R.same hv h4, h5.moved ha, h6.moved ha, h7.elim (fun z => Or.inl (z.moved ha)) (fun z => Or.inr (z.moved ha)), fun w hw => by obtain ⟨a, i, x, hh, rfl⟩ := NW_is w hw; exact va_Nw.same rfl hv.symm (h8 _ hw), h9.moved ha, h10.moved ha⟩
def KE (D : va_G) (cy : Nat → ClassId) (G : GG) (L : Nat) (xs : Nat → Int32) (U : State) : Prop := va_K D cls (tyl cy) U ∧ EN G L xs U U.heap
def LQ (d : Nat) : Nat := 64 * d + 64
def Cx (M : MI) (p : Program) (s : State) (m : MethodId) (args : Array Value) (meth : Method) (c : Code) (L : Nat) (xs : Nat → Int32) : Prop :=
  p.tables.exec = Jvm.exec ∧ c.code = mB M ∧ meth.sig.returnType = mR M ∧ c.maxLocals = mX M ∧ s.vm.findClass (cnm (mO M)) = some m.cls ∧ (∀ w ∈ TB, w.before args s = true) ∧ meth.locks = false ∧ meth.name = (mY M).name ∧ ∀ q, mS M = some q → q = (L, xs)
/-- the ways to end -/
def RT (M : MI) (v : Option Value) (pc : Nat) : Prop :=
  (v = none ∧ decode (mB M) pc = .ok (.return_, 1) ∧ mR M = none) ∨
  (∃ (x : Int32) (ty : FieldType), v = some (.int x) ∧ decode (mB M) pc = .ok (.ireturn, 1) ∧ mR M = some ty ∧ narrow ty (.int x) = .int x) ∨
  (∃ x : Int64, v = some (.long x) ∧ decode (mB M) pc = .ok (.lreturn, 1) ∧ mR M = some .long) ∨
  (∃ r : Option Nat, v = some (va_rf r) ∧ decode (mB M) pc = .ok (.areturn, 1) ∧ ∃ n, mR M = some (.object n))
/-- from here the method M comes to its end with an answer and a picture that Q allows; at most bc cells of bs slots are new; d frames are enough -/
def Ev (M : MI) (d bc bs : Nat) (pc : Nat) (lv : List (Option Value)) (st : List Value) (h : HP) (Q : Option Value → HP → Prop) : Prop :=
  ∀ (p : Program) (l : Launch) (e : Env) (R : Room) (s : State) (m : MethodId) (args : Array Value) (below : List Frame) (meth : Method) (c : Code) (D : va_G) (cy : Nat → ClassId) (G : GG) (L : Nat) (xs : Nat → Int32) (H : Heap) (locs : List Loc) (cells slots : Nat) (ls : Array Slot) (Z : State → Prop),
    Cx M p s m args meth c L xs → (d ≤ R.frames ∧ LQ d ≤ R.locals) → (cells + bc ≤ R.cells ∧ slots + bs ≤ R.slots) → KE D cy G L xs s → HR D cy G h H → va_S (fun q => G.1 ≤ q) s.heap H locs → LV G lv ls (mX M) →
    (∀ (v : Option Value) (h' : HP) (H' : Heap) (locs' : List Loc) (cells' slots' : Nat) (ls' : Array Slot) (pc' : Nat), RT M v pc' → Q v h' → kN h ≤ kN h' → HR D cy G h' H' → va_S (fun q => G.1 ≤ q) s.heap H' locs' → cells' ≤ cells + bc → slots' ≤ slots + bs →
      W p l e R s m args below meth c H' locs' cells' slots' Z (F0 m pc' ls' (v.toList.map (cv G)))) →
    W p l e R s m args below meth c H locs cells slots Z (F0 m pc ls (st.map (cv G)))
/-- the contract of M at these arguments and this picture -/
def Ct (M : MI) (d bc bs : Nat) (as : List Value) (h : HP) (Q : Option Value → HP → Prop) : Prop :=
  ∀ (l : Launch) (D : va_G) (cy : Nat → ClassId) (G : GG) (L : Nat) (xs : Nat → Int32),
    Met l (mY M) (.code (mY M) (mB M) (mX M) (mR M) :: TB) { frames := d, cells := bc, slots := bs, locals := LQ d } (va_Pc (as.map (cv G)) (fun U => KE D cy G L xs U ∧ HR D cy G h U.heap))
      (fun _ st oc t => ∃ (v : Option Value) (h' : HP), oc = .returned (v.map (cv G)) ∧ Q v h' ∧ kN h ≤ kN h' ∧ HR D cy G h' t.heap ∧ va_F (fun q => G.1 ≤ q) st t) bc bs (fun q => G.1 ≤ q)
theorem Ev.mono {M : MI} {d bc bs pc : Nat} {lv : List (Option Value)} {st : List Value} {h : HP} {Q Q' : Option Value → HP → Prop} (k : Ev M d bc bs pc lv st h Q) (hq : ∀ v h', Q v h' → Q' v h') : Ev M d bc bs pc lv st h Q' := by
  intro p l e R s m args below meth c D cy G L xs H locs cells slots ls Z C hd hr hK hH hS hl hZ
  exact k p l e R s m args below meth c D cy G L xs H locs cells slots ls Z C hd hr hK hH hS hl (fun v h' H' locs' cells' slots' ls' pc' a1 a2 => hZ v h' H' locs' cells' slots' ls' pc' a1 (hq v h' a2))
theorem Ev.fgt {M : MI} {d bc bs pc : Nat} {lv lv' : List (Option Value)} {st : List Value} {h : HP} {Q : Option Value → HP → Prop} (hl' : lle lv' lv) (k : Ev M d bc bs pc lv' st h Q) : Ev M d bc bs pc lv st h Q := by
  intro p l e R s m args below meth c D cy G L xs H locs cells slots ls Z C hd hr hK hH hS hl hZ
  exact k p l e R s m args below meth c D cy G L xs H locs cells slots ls Z C hd hr hK hH hS (hl.le hl') hZ
theorem Ev.ret {M : MI} {d bc bs pc : Nat} {lv : List (Option Value)} {v : Option Value} {h : HP} {Q : Option Value → HP → Prop} (hr : RT M v pc) (hq : Q v h) : Ev M d bc bs pc lv v.toList h Q := by
  intro p l e R s m args below meth c D cy G L xs H locs cells slots ls Z C hd hr' hK hH hS hl hZ
  exact hZ v h H locs cells slots ls pc hr hq (Nat.le_refl _) hH hS (by omega) (by omega)
theorem Ev.ite {M : MI} {d bc bs a b : Nat} {c : Prop} [Decidable c] {lv : List (Option Value)} {st : List Value} {h : HP} {Q : Option Value → HP → Prop} (k1 : c → Ev M d bc bs a lv st h Q) (k2 : ¬ c → Ev M d bc bs b lv st h Q) : Ev M d bc bs (if c then a else b) lv st h Q := by
  by_cases hc : c
  · rw [if_pos hc]; exact k1 hc
  · rw [if_neg hc]; exact k2 hc
/-- a step that neither reads nor writes cells or locals -/
theorem ev_of {M : MI} {d bc bs pc pc' : Nat} {lv : List (Option Value)} {st st' : List Value} {h : HP} {Q : Option Value → HP → Prop}
    (hw : ∀ {p : Program} {l : Launch} {e : Env} {R : Room} {s : State} {m : MethodId} {args : Array Value} {below : List Frame} {meth : Method} {c : Code} {H : Heap} {locs : List Loc} {cells slots : Nat} {ls : Array Slot} {Z : State → Prop} {G : GG}, p.tables.exec = Jvm.exec → c.code = mB M → LV G lv ls (mX M) →
      W p l e R s m args below meth c H locs cells slots Z (F0 m pc' ls (st'.map (cv G))) → W p l e R s m args below meth c H locs cells slots Z (F0 m pc ls (st.map (cv G))))
    (k : Ev M d bc bs pc' lv st' h Q) : Ev M d bc bs pc lv st h Q := by
  intro p l e R s m args below meth c D cy G L xs H locs cells slots ls Z C hd hr hK hH hS hl hZ
  exact hw C.1 C.2.1 hl (k p l e R s m args below meth c D cy G L xs H locs cells slots ls Z C hd hr hK hH hS hl hZ)
/-- a step with all that the machine's side has: for loads, stores, fields -/
theorem ev_full {M : MI} {d bc bs pc pc' : Nat} {lv lv' : List (Option Value)} {st st' : List Value} {h h1 : HP} {Q : Option Value → HP → Prop} (hn : kN h ≤ kN h1)
    (hw : ∀ {p : Program} {l : Launch} {e : Env} {R : Room} {s : State} {m : MethodId} {args : Array Value} {below : List Frame} {meth : Method} {c : Code} {D : va_G} {cy : Nat → ClassId} {G : GG} {L : Nat} {xs : Nat → Int32} {H : Heap} {locs : List Loc} {cells slots : Nat} {ls : Array Slot} {Z : State → Prop},
      Cx M p s m args meth c L xs → (d ≤ R.frames ∧ LQ d ≤ R.locals) → (cells + bc ≤ R.cells ∧ slots + bs ≤ R.slots) → KE D cy G L xs s → HR D cy G h H → va_S (fun q => G.1 ≤ q) s.heap H locs → LV G lv ls (mX M) →
      (∀ (H1 : Heap) (locs1 : List Loc) (ls1 : Array Slot), HR D cy G h1 H1 → va_S (fun q => G.1 ≤ q) s.heap H1 locs1 → LV G lv' ls1 (mX M) → W p l e R s m args below meth c H1 locs1 cells slots Z (F0 m pc' ls1 (st'.map (cv G)))) →
      W p l e R s m args below meth c H locs cells slots Z (F0 m pc ls (st.map (cv G))))
    (k : Ev M d bc bs pc' lv' st' h1 Q) : Ev M d bc bs pc lv st h Q := by
  intro p l e R s m args below meth c D cy G L xs H locs cells slots ls Z C hd hr hK hH hS hl hZ
  refine hw C hd hr hK hH hS hl (fun H1 locs1 ls1 hH1 hS1 hl1 => ?_)
  exact k p l e R s m args below meth c D cy G L xs H1 locs1 cells slots ls1 Z C hd hr hK hH1 hS1 hl1 (fun v h' H' locs' cells' slots' ls' pc' a1 a2 a3 => hZ v h' H' locs' cells' slots' ls' pc' a1 a2 (Nat.le_trans hn a3))
/-- the same, where a cell of n slots is made -/
theorem ev_made {M : MI} {d bc bs n pc pc' : Nat} {lv : List (Option Value)} {st st' : List Value} {h h1 : HP} {Q : Option Value → HP → Prop} (hn : kN h ≤ kN h1)
    (hw : ∀ {p : Program} {l : Launch} {e : Env} {R : Room} {s : State} {m : MethodId} {args : Array Value} {below : List Frame} {meth : Method} {c : Code} {D : va_G} {cy : Nat → ClassId} {G : GG} {L : Nat} {xs : Nat → Int32} {H : Heap} {locs : List Loc} {cells slots : Nat} {ls : Array Slot} {Z : State → Prop},
      Cx M p s m args meth c L xs → (cells + 1 ≤ R.cells ∧ slots + n ≤ R.slots) → KE D cy G L xs s → HR D cy G h H → va_S (fun q => G.1 ≤ q) s.heap H locs →
      (∀ (H1 : Heap), HR D cy G h1 H1 → va_S (fun q => G.1 ≤ q) s.heap H1 locs → W p l e R s m args below meth c H1 locs (cells + 1) (slots + n) Z (F0 m pc' ls (st'.map (cv G)))) →
      W p l e R s m args below meth c H locs cells slots Z (F0 m pc ls (st.map (cv G))))
    (k : Ev M d bc bs pc' lv st' h1 Q) : Ev M d (bc + 1) (bs + n) pc lv st h Q := by
  intro p l e R s m args below meth c D cy G L xs H locs cells slots ls Z C hd hr hK hH hS hl hZ
  refine hw C ⟨by omega, by omega⟩ hK hH hS (fun H1 hH1 hS1 => ?_)
  exact k p l e R s m args below meth c D cy G L xs H1 locs (cells + 1) (slots + n) ls Z C hd ⟨by omega, by omega⟩ hK hH1 hS1 hl (fun v h' H' locs' cells' slots' ls' pc' a1 a2 a3 a4 a5 a6 a7 => hZ v h' H' locs' cells' slots' ls' pc' a1 a2 (Nat.le_trans hn a3) a4 a5 (by omega) (by omega))
theorem lg_cv (G : GG) : ∀ as : List Value, (lg_sl (as.map (cv G))).length = (lg_sl as).length
  | [] => rfl
  | a :: t => by
    have ih := lg_cv G t
    simp only [lg_sl, List.map_cons, List.flatMap_cons, List.length_append, cv_cat] at ih ⊢
    rw [ih]
    split <;> rfl
/-- a method's contract out of a walk from its entry -/
theorem Ct.of {M : MI} {d bc bs : Nat} {as : List Value} {h : HP} {Q : Option Value → HP → Prop} (hsc : mS M = none) (hy : plainName (mY M).cls = true) (hcn : cnm (mO M) = (mY M).cls) (hlen : (lg_sl as).length ≤ mX M) {lv : List (Option Value)} (hlv : ∀ G : GG, asl G 0 lv = lv_args 0 (as.map (cv G)))
    (k : Ev M d bc bs 0 lv [] h Q) : Ct M d bc bs as h Q := by
  intro l D cy G L xs
  refine Met.ofW (cc := mB M) (maxL := mX M) (ret := mR M) hy rfl ?_
  intro p e s m args below meth c s₁ B hml hv
  obtain ⟨rfl, hK, hH⟩ := hv
  have hts : ∀ w ∈ (Cond.code (mY M) (mB M) (mX M) (mR M) :: TB), w.before _ s = true := atoms_spec B.pre
  have hown := findClass_of_methodNamed B.named
  have hname : meth.name = (mY M).name := (name_of_methodNamed B.named B.method).1
  have hlg : (lg_sl (as.map (cv G))).length = (lg_sl as).length := lg_cv G as
  have hl := lv_entry (as.map (cv G)) (n := mX M) (by rw [hlg]; exact hlen)
  rw [lg_entry_eq]
  generalize (lg_sl (as.map (cv G)) ++ List.replicate (mX M - (lg_sl (as.map (cv G))).length) Slot.unset).toArray = ls at hl ⊢
  have hl' : LV G lv ls (mX M) := by unfold LV; rw [hlv G]; exact hl
  refine k p l e _ s m _ below meth c D cy G L xs s.heap [] 0 0 ls _ ⟨B.exec, B.bytes, B.returns, hml, by rw [hcn]; exact hown, fun w hw => hts w (List.mem_cons_of_mem _ hw), B.notSynchronized, hname, fun q hq => by rw [hsc] at hq; cases hq⟩ ⟨Nat.le_refl _, Nat.le_refl _⟩ ⟨by show 0 + bc ≤ bc; omega, by show 0 + bs ≤ bs; omega⟩ hK hH va_S.rf hl' ?_
  intro v h' H' locs' cells' slots' ls' pc' hr hq hn hH' hS' hc' hs'
  refine W.widen (k := bc) (n := bs) (by omega) (by omega) ?_
  have hf : ∀ q ∈ locs', (fun q => G.1 ≤ q) q.base := hS'.2.2
  rcases hr with ⟨rfl, hd, hr⟩ | ⟨x, ty, rfl, hd, hr, hx⟩ | ⟨x, rfl, hd, hr⟩ | ⟨r, rfl, hd, n, hr⟩
  · exact W.vret B.exec B.bytes (by rw [B.returns]; exact hr) (fun t ht hW => ⟨none, h', rfl, hq, hn, by rw [ht]; exact hH', hS'.F ht⟩) hf hd B.notSynchronized
  · exact W.zret B.exec B.bytes (by rw [B.returns]; exact hr) hx (fun t ht hW => ⟨some (.int x), h', rfl, hq, hn, by rw [ht]; exact hH', hS'.F ht⟩) hf hd B.notSynchronized
  · exact W.lret B.exec B.bytes (by rw [B.returns]; exact hr) (fun t ht hW => ⟨some (.long x), h', rfl, hq, hn, by rw [ht]; exact hH', hS'.F ht⟩) hf hd B.notSynchronized
  · have e : cv G (va_rf r) = va_rf (r.map (ro G)) := cv_rf G r
    show W _ _ _ _ _ _ _ _ _ _ _ _ _ _ _ (F0 m pc' ls' [cv G (va_rf r)])
    refine W.aret B.exec B.bytes (by rw [B.returns]; exact hr) (Or.inl ⟨n, rfl⟩) ?_ (fun t ht hW => ⟨some (va_rf r), h', rfl, hq, hn, by rw [ht]; exact hH', hS'.F ht⟩) hf hd B.notSynchronized
    cases r with
    | none => exact Or.inl rfl
    | some a => exact Or.inr ⟨_, rfl⟩
end EVDEF
