section CORE
/-! the picture of the heap: cells by numbers; the whole world of the law's two objects in one row of functions -/
abbrev MI : Type := Nat × MethodName × ByteArray × Nat × Option FieldType × List (Nat × Instr × Nat) × Option (Nat × (Nat → Int32))
abbrev mO (M : MI) : Nat := M.1
abbrev mY (M : MI) : MethodName := M.2.1
abbrev mB (M : MI) : ByteArray := M.2.2.1
abbrev mX (M : MI) : Nat := M.2.2.2.1
abbrev mR (M : MI) : Option FieldType := M.2.2.2.2.1
abbrev mT (M : MI) : List (Nat × Instr × Nat) := M.2.2.2.2.2.1
abbrev mS (M : MI) : Option (Nat × (Nat → Int32)) := M.2.2.2.2.2.2
def cls : List vw_C := [(RX0, TX0, 3), (RX1, TX1, 7), (RX2, TX2, 3), (RX3, TX3, 3), (RX4, TX4, 9), (RX5, TX5, 6), (RX6, TX6, 13), (RX7, TX7, 19), (RX8, TX8, 2), (RX9, TX9, 6), (RX10, TX10, 16), (RX11, TX11, 53)]
def nF (k : Nat) : Nat := match k with
  | 0 => 3
  | 1 => 7
  | 2 => 3
  | 3 => 3
  | 4 => 9
  | 5 => 6
  | 6 => 13
  | 7 => 19
  | 8 => 2
  | 9 => 6
  | 10 => 16
  | 11 => 53
  | _ => 0
def cnm (k : Nat) : String := match k with
  | 0 => RX0
  | 1 => RX1
  | 2 => RX2
  | 3 => RX3
  | 4 => RX4
  | 5 => RX5
  | 6 => RX6
  | 7 => RX7
  | 8 => RX8
  | 9 => RX9
  | 10 => RX10
  | 11 => RX11
  | 12 => RL
  | 13 => RJ6
  | 14 => RJ7
  | 15 => RJ0
  | 16 => RJ1
  | _ => RJ3
def tyO (ci k : Nat) : FieldType := match ci with
  | 0 => tyX0 k
  | 1 => tyX1 k
  | 2 => tyX2 k
  | 3 => tyX3 k
  | 4 => tyX4 k
  | 5 => tyX5 k
  | 6 => tyX6 k
  | 7 => tyX7 k
  | 8 => tyX8 k
  | 9 => tyX9 k
  | 10 => tyX10 k
  | _ => tyX11 k
def fT (ci k : Nat) : Nat := match tyO ci k with
  | .int => 0
  | .boolean => 1
  | _ => 2
/-- how many cells; what each is; how long; fields that are numbers, that are cells; rows of ints, longs, cells -/
abbrev HP : Type := Nat × (Nat → Nat) × (Nat → Nat) × (Nat → Nat → Int32) × (Nat → Nat → Option Nat) × (Nat → Nat → Int32) × (Nat → Nat → Int64) × (Nat → Nat → Option Nat)
abbrev kN (h : HP) : Nat := h.1
abbrev kK (h : HP) : Nat → Nat := h.2.1
abbrev kL (h : HP) : Nat → Nat := h.2.2.1
abbrev kI (h : HP) : Nat → Nat → Int32 := h.2.2.2.1
abbrev kR (h : HP) : Nat → Nat → Option Nat := h.2.2.2.2.1
abbrev kA (h : HP) : Nat → Nat → Int32 := h.2.2.2.2.2.1
abbrev kJ (h : HP) : Nat → Nat → Int64 := h.2.2.2.2.2.2.1
abbrev kQ (h : HP) : Nat → Nat → Option Nat := h.2.2.2.2.2.2.2
theorem u1_upd (f : Nat → Int32) (k : Nat) (v : Int32) : u1 f k v = upd f k v := by
  funext j
  by_cases h : j = k
  · subst h; rw [u1_s]; simp [upd]
  · rw [u1_n _ _ h]; simp [upd, h]
/-- base, the script's cell, the text's, its bytes', another cell outside -/
abbrev GG : Type := Nat × Nat × Nat × Nat × Nat
def ro (G : GG) (a : Nat) : Nat := bif Nat.blt a 1000000 then G.1 + a else bif Nat.beq a 1000000 then G.2.1 else bif Nat.beq a 1000001 then G.2.2.1 else bif Nat.beq a 1000002 then G.2.2.2.1 else G.2.2.2.2
theorem ro_lt (G : GG) {a : Nat} (h : a < 1000000) : ro G a = G.1 + a := by
  have : Nat.blt a 1000000 = true := by rw [Nat.blt_eq]; exact h
  simp [ro, this]
def cv (G : GG) (v : Value) : Value := match v with
  | .ref a => .ref (ro G a)
  | w => w
theorem cv_cat (G : GG) (v : Value) : (cv G v).category = v.category := by cases v <;> rfl
theorem cv_rf (G : GG) (r : Option Nat) : cv G (va_rf r) = va_rf (r.map (ro G)) := by cases r <;> rfl
def fvA (h : HP) (a k t : Nat) : Value := bif Nat.beq t 2 then va_rf (kR h a k) else .int (kI h a k)
def fl (G : GG) (h : HP) (a : Nat) : List Value := (List.range (nF (kK h a))).map (fun k => cv G (fvA h a k (fT (kK h a) k)))
def ce (cy : Nat → ClassId) (G : GG) (h : HP) (a : Nat) : va_E :=
  bif Nat.blt (kK h a) 12 then .inr (kK h a, fl G h a) else
  bif Nat.beq (kK h a) 14 then .inl (cy 14, kL h a, .inr (.inl (kJ h a))) else
  bif Nat.blt (kK h a) 16 then .inl (cy (kK h a), kL h a, .inl (kA h a)) else
  .inl (cy (kK h a), kL h a, .inr (.inr (.inr (.inr (fun j => (kQ h a j).map (ro G))))))
theorem ce_obj {cy : Nat → ClassId} {G : GG} {h : HP} {a ci : Nat} (hk : kK h a = ci) (hc : ci < 12) : ce cy G h a = .inr (ci, fl G h a) := by
  have h1 : Nat.blt (kK h a) 12 = true := by rw [hk, Nat.blt_eq]; exact hc
  unfold ce
  rw [h1, cond_true, hk]
theorem ce_int {cy : Nat → ClassId} {G : GG} {h : HP} {a k : Nat} (hk : kK h a = k) (hc : k = 12 ∨ k = 13 ∨ k = 15) : ce cy G h a = .inl (cy k, kL h a, .inl (kA h a)) := by
  rcases hc with rfl | rfl | rfl <;> simp [ce, hk] <;> rfl
theorem ce_long {cy : Nat → ClassId} {G : GG} {h : HP} {a : Nat} (hk : kK h a = 14) : ce cy G h a = .inl (cy 14, kL h a, .inr (.inl (kJ h a))) := by
  simp [ce, hk]; rfl
theorem ce_ref {cy : Nat → ClassId} {G : GG} {h : HP} {a k : Nat} (hk : kK h a = k) (hc : k = 16 ∨ k = 17) : ce cy G h a = .inl (cy k, kL h a, .inr (.inr (.inr (.inr (fun j => (kQ h a j).map (ro G)))))) := by
  rcases hc with rfl | rfl <;> simp [ce, hk] <;> rfl
theorem ce_eq {cy : Nat → ClassId} {G : GG} {h h' : HP} {a : Nat} (e1 : kK h' a = kK h a) (e2 : kL h' a = kL h a) (e3 : kI h' a = kI h a) (e4 : kR h' a = kR h a) (e5 : kA h' a = kA h a) (e6 : kJ h' a = kJ h a) (e7 : kQ h' a = kQ h a) : ce cy G h' a = ce cy G h a := by
  unfold ce fl fvA
  rw [e1, e2, e3, e4, e5, e6, e7]
theorem fl_at {G : GG} {h : HP} {a ci k : Nat} (hk : kK h a = ci) (hc : k < nF ci) : (fl G h a)[k]? = some (cv G (fvA h a k (fT ci k))) := by
  subst hk
  simp [fl, hc]
theorem fl_len {G : GG} {h : HP} {a ci : Nat} (hk : kK h a = ci) : (fl G h a).length = nF ci := by
  subst hk
  simp [fl]
def tyl (cy : Nat → ClassId) : List (ClassId × FieldType) := [(cy 12, .byte), (cy 13, .int), (cy 14, .long), (cy 15, .boolean), (cy 16, .object RX7), (cy 17, .object RX9)]
/-- the heap H holds the picture h -/
def HR (D : va_G) (cy : Nat → ClassId) (G : GG) (h : HP) (H : Heap) : Prop :=
  H.size = G.1 + kN h ∧ kN h ≤ 1000000 ∧ (∀ a, kK h a < 18 → a < kN h) ∧ ∀ a, a < kN h → va_at D cls (G.1 + a, ce cy G h a) H
theorem HR.ro {D : va_G} {cy : Nat → ClassId} {G : GG} {h : HP} {H : Heap} (hH : HR D cy G h H) {a : Nat} (hk : kK h a < 18) : ro G a = G.1 + a := ro_lt G (Nat.lt_of_lt_of_le (hH.2.2.1 a hk) hH.2.1)
theorem HR.P {D : va_G} {cy : Nat → ClassId} {G : GG} {h : HP} {H : Heap} (hH : HR D cy G h H) {a : Nat} (hk : kK h a < 18) : va_P D cls [(G.1 + a, ce cy G h a)] H := by
  intro k q hq
  cases k with
  | zero => simp at hq; subst hq; exact hH.2.2.2 a (hH.2.2.1 a hk)
  | succ k => simp at hq
/-- one cell is changed -/
theorem HR.put {D : va_G} {cy : Nat → ClassId} {G : GG} {h h' : HP} {H H1 : Heap} {a : Nat} (hH : HR D cy G h H) (hn : kN h' = kN h) (hk : kK h' = kK h) (ho : ∀ b, b ≠ a → ce cy G h' b = ce cy G h b) (hz : H1.size = H.size) (oq : ∀ q, q ≠ G.1 + a → H1[q]? = H[q]?) (ha : va_at D cls (G.1 + a, ce cy G h' a) H1) : HR D cy G h' H1 := by
  refine ⟨by rw [hz, hn]; exact hH.1, by rw [hn]; exact hH.2.1, by rw [hk, hn]; exact hH.2.2.1, fun b hb => ?_⟩
  by_cases e : b = a
  · subst e; exact ha
  · rw [hn] at hb
    have h1 := hH.2.2.2 b hb
    rw [ho b e]
    exact h1.kept (oq _ (by omega))
/-- a cell is made -/
theorem HR.push {D : va_G} {cy : Nat → ClassId} {G : GG} {h h' : HP} {H H1 : Heap} (hH : HR D cy G h H) (hlt : kN h < 1000000) (hn : kN h' = kN h + 1) (hk : ∀ b, kK h' b < 18 → b = kN h ∨ kK h b < 18) (ho : ∀ b, b < kN h → ce cy G h' b = ce cy G h b) (hz : H1.size = H.size + 1) (oq : ∀ q, q < H.size → H1[q]? = H[q]?) (ha : va_at D cls (G.1 + kN h, ce cy G h' (kN h)) H1) : HR D cy G h' H1 := by
  refine ⟨by rw [hz, hn, hH.1]; omega, by omega, fun b hb => ?_, fun b hb => ?_⟩
  · rcases hk b hb with h1 | h1
    · omega
    · have := hH.2.2.1 b h1; omega
  · by_cases e : b = kN h
    · subst e; exact ha
    · have hb' : b < kN h := by omega
      rw [ho b hb']
      exact (hH.2.2.2 b hb').kept (oq _ (by rw [hH.1]; show G.1 + b < _; omega))
/-! locals -/
def lg : List (Option Value) → Nat → Option Value
  | [], _ => none
  | o :: _, 0 => o
  | _ :: t, n + 1 => lg t n
def dr2 (o : Option Value) : Option Value := match o with
  | none => none
  | some v => bif Nat.beq v.category 2 then none else some v
def ls1 : List (Option Value) → Nat → Value → List (Option Value)
  | [], _, _ => []
  | _ :: t, 0, v => some v :: t
  | o :: t, 1, v => dr2 o :: ls1 t 0 v
  | o :: t, n + 2, v => o :: ls1 t (n + 1) v
def cl0 : List (Option Value) → List (Option Value)
  | [] => []
  | _ :: t => none :: t
def ls2 : List (Option Value) → Nat → Value → List (Option Value)
  | [], _, _ => []
  | _ :: t, 0, v => some v :: cl0 t
  | o :: t, 1, v => dr2 o :: ls2 t 0 v
  | o :: t, n + 2, v => o :: ls2 t (n + 1) v
def asl (G : GG) : Nat → List (Option Value) → List (Nat × Value)
  | _, [] => []
  | n, none :: t => asl G (n + 1) t
  | n, some v :: t => (n, cv G v) :: asl G (n + 1) t
theorem asl_mem (G : GG) : ∀ (lv : List (Option Value)) (n : Nat) (q : Nat × Value), q ∈ asl G n lv ↔ ∃ v, n ≤ q.1 ∧ lg lv (q.1 - n) = some v ∧ q.2 = cv G v
  | [], n, q => by simp [asl, lg]
  | o :: t, n, q => by
    have ih := asl_mem G t (n + 1) q
    have key : (∃ v, n + 1 ≤ q.1 ∧ lg t (q.1 - (n + 1)) = some v ∧ q.2 = cv G v) ↔ ∃ v, n + 1 ≤ q.1 ∧ lg (o :: t) (q.1 - n) = some v ∧ q.2 = cv G v := by
      constructor
      · rintro ⟨v, h1, h2, h3⟩
        refine ⟨v, h1, ?_, h3⟩
        rw [show q.1 - n = (q.1 - (n + 1)) + 1 by omega]
        exact h2
      · rintro ⟨v, h1, h2, h3⟩
        refine ⟨v, h1, ?_, h3⟩
        rw [show q.1 - n = (q.1 - (n + 1)) + 1 by omega] at h2
        exact h2
    cases o with
    | none =>
      show q ∈ asl G (n + 1) t ↔ _
      rw [ih, key]
      constructor
      · rintro ⟨v, h1, h2⟩; exact ⟨v, by omega, h2⟩
      · rintro ⟨v, h1, h2, h3⟩
        by_cases e : q.1 = n
        · rw [e, Nat.sub_self] at h2; simp [lg] at h2
        · exact ⟨v, by omega, h2, h3⟩
    | some w =>
      show q ∈ (n, cv G w) :: asl G (n + 1) t ↔ _
      rw [List.mem_cons, ih, key]
      constructor
      · rintro (h | ⟨v, h1, h2⟩)
        · subst h; exact ⟨w, Nat.le_refl _, by simp [lg], rfl⟩
        · exact ⟨v, by omega, h2⟩
      · rintro ⟨v, h1, h2, h3⟩
        by_cases e : q.1 = n
        · left
          rw [e, Nat.sub_self] at h2
          simp [lg] at h2
          subst h2
          exact Prod.ext e h3
        · right; exact ⟨v, by omega, h2, h3⟩
theorem ls1_get : ∀ (lv : List (Option Value)) (i : Nat) (v : Value) (j : Nat) (w : Value), lg (ls1 lv i v) j = some w → (j = i ∧ w = v) ∨ (j ≠ i ∧ lg lv j = some w ∧ ¬ (j + 1 = i ∧ w.category = 2))
  | [], i, v, j, w, h => by simp [ls1, lg] at h
  | o :: t, 0, v, j, w, h => by
    cases j with
    | zero => simp [ls1, lg] at h; exact Or.inl ⟨rfl, h.symm⟩
    | succ j => simp [ls1, lg] at h; exact Or.inr ⟨by omega, by simpa [lg] using h, by omega⟩
  | o :: t, 1, v, j, w, h => by
    cases j with
    | zero =>
      right
      cases o with
      | none => simp [ls1, lg, dr2] at h
      | some z =>
        cases hb : Nat.beq z.category 2 with
        | true => simp [ls1, lg, dr2, hb] at h
        | false =>
          simp [ls1, lg, dr2, hb] at h
          subst h
          refine ⟨by omega, rfl, fun hc => ?_⟩
          rw [hc.2] at hb
          simp at hb
    | succ j =>
      have := ls1_get t 0 v j w (by simpa [ls1, lg] using h)
      rcases this with ⟨h1, h2⟩ | ⟨h1, h2, h3⟩
      · exact Or.inl ⟨by omega, h2⟩
      · exact Or.inr ⟨by omega, by simpa [lg] using h2, by omega⟩
  | o :: t, n + 2, v, j, w, h => by
    cases j with
    | zero => simp [ls1, lg] at h; exact Or.inr ⟨by omega, by simpa [lg] using h, by omega⟩
    | succ j =>
      have := ls1_get t (n + 1) v j w (by simpa [ls1, lg] using h)
      rcases this with ⟨h1, h2⟩ | ⟨h1, h2, h3⟩
      · exact Or.inl ⟨by omega, h2⟩
      · exact Or.inr ⟨by omega, by simpa [lg] using h2, fun hc => h3 ⟨by omega, hc.2⟩⟩
theorem cl0_get : ∀ (t : List (Option Value)) (j : Nat) (w : Value), lg (cl0 t) j = some w → j ≠ 0 ∧ lg t j = some w
  | [], j, w, h => by simp [cl0, lg] at h
  | o :: t, 0, w, h => by simp [cl0, lg] at h
  | o :: t, j + 1, w, h => ⟨by omega, by simpa [cl0, lg] using h⟩
theorem ls2_get : ∀ (lv : List (Option Value)) (i : Nat) (v : Value) (j : Nat) (w : Value), lg (ls2 lv i v) j = some w → (j = i ∧ w = v) ∨ (j ≠ i ∧ j ≠ i + 1 ∧ lg lv j = some w ∧ ¬ (j + 1 = i ∧ w.category = 2))
  | [], i, v, j, w, h => by simp [ls2, lg] at h
  | o :: t, 0, v, j, w, h => by
    cases j with
    | zero => simp [ls2, lg] at h; exact Or.inl ⟨rfl, h.symm⟩
    | succ j =>
      obtain ⟨h1, h2⟩ := cl0_get t j w (by simpa [ls2, lg] using h)
      exact Or.inr ⟨by omega, by omega, by simpa [lg] using h2, by omega⟩
  | o :: t, 1, v, j, w, h => by
    cases j with
    | zero =>
      right
      cases o with
      | none => simp [ls2, lg, dr2] at h
      | some z =>
        cases hb : Nat.beq z.category 2 with
        | true => simp [ls2, lg, dr2, hb] at h
        | false =>
          simp [ls2, lg, dr2, hb] at h
          subst h
          refine ⟨by omega, by omega, rfl, fun hc => ?_⟩
          rw [hc.2] at hb
          simp at hb
    | succ j =>
      have := ls2_get t 0 v j w (by simpa [ls2, lg] using h)
      rcases this with ⟨h1, h2⟩ | ⟨h1, h1', h2, h3⟩
      · exact Or.inl ⟨by omega, h2⟩
      · exact Or.inr ⟨by omega, by omega, by simpa [lg] using h2, by omega⟩
  | o :: t, n + 2, v, j, w, h => by
    cases j with
    | zero => simp [ls2, lg] at h; exact Or.inr ⟨by omega, by omega, by simpa [lg] using h, by omega⟩
    | succ j =>
      have := ls2_get t (n + 1) v j w (by simpa [ls2, lg] using h)
      rcases this with ⟨h1, h2⟩ | ⟨h1, h1', h2, h3⟩
      · exact Or.inl ⟨by omega, h2⟩
      · exact Or.inr ⟨by omega, by omega, by simpa [lg] using h2, fun hc => h3 ⟨by omega, hc.2⟩⟩
def LV (G : GG) (lv : List (Option Value)) (ls : Array Slot) (nL : Nat) : Prop := lv_has ls nL (asl G 0 lv)
theorem LV.at {G : GG} {lv : List (Option Value)} {ls : Array Slot} {nL i : Nat} {v : Value} (h : LV G lv ls nL) (hv : lg lv i = some v) : ls[i]? = some (.val (cv G v)) :=
  h.2.2 (i, cv G v) ((asl_mem G lv 0 (i, cv G v)).mpr ⟨v, Nat.zero_le _, by simpa using hv, rfl⟩)
theorem LV.st1 {G : GG} {lv : List (Option Value)} {ls' : Array Slot} {nL i : Nat} {v : Value} (h : lv_has ls' nL ((i, cv G v) :: (asl G 0 lv).filter (fun q => !(q.1 == i) && !(q.1 + 1 == i && q.2.category == 2)))) : LV G (ls1 lv i v) ls' nL := by
  refine ⟨h.1, h.2.1, fun q hq => h.2.2 q ?_⟩
  obtain ⟨w, -, h2, h3⟩ := (asl_mem G _ 0 q).mp hq
  rw [Nat.sub_zero] at h2
  rcases ls1_get lv i v q.1 w h2 with ⟨e1, e2⟩ | ⟨e1, e2, e3⟩
  · subst e2; rw [← e1]; exact List.mem_cons.mpr (Or.inl (Prod.ext rfl h3))
  · refine List.mem_cons_of_mem _ (List.mem_filter.mpr ⟨(asl_mem G lv 0 q).mpr ⟨w, Nat.zero_le _, by simpa using e2, h3⟩, ?_⟩)
    rw [h3, cv_cat]
    simp [e1]
    by_cases h4 : q.1 + 1 = i
    · right; intro h5; exact e3 ⟨h4, h5⟩
    · left; exact h4
theorem LV.st2 {G : GG} {lv : List (Option Value)} {ls' : Array Slot} {nL i : Nat} {v : Value} (h : lv_has ls' nL ((i, cv G v) :: (asl G 0 lv).filter (fun q => !(q.1 == i) && (!(q.1 == i + 1) && !(q.1 + 1 == i && q.2.category == 2))))) : LV G (ls2 lv i v) ls' nL := by
  refine ⟨h.1, h.2.1, fun q hq => h.2.2 q ?_⟩
  obtain ⟨w, -, h2, h3⟩ := (asl_mem G _ 0 q).mp hq
  rw [Nat.sub_zero] at h2
  rcases ls2_get lv i v q.1 w h2 with ⟨e1, e2⟩ | ⟨e1, e1', e2, e3⟩
  · subst e2; rw [← e1]; exact List.mem_cons.mpr (Or.inl (Prod.ext rfl h3))
  · refine List.mem_cons_of_mem _ (List.mem_filter.mpr ⟨(asl_mem G lv 0 q).mpr ⟨w, Nat.zero_le _, by simpa using e2, h3⟩, ?_⟩)
    rw [h3, cv_cat]
    simp [e1, e1']
    by_cases h4 : q.1 + 1 = i
    · right; intro h5; exact e3 ⟨h4, h5⟩
    · left; exact h4
/-- fewer locals are known -/
def lle : List (Option Value) → List (Option Value) → Prop
  | [], _ => True
  | none :: t, [] => lle t []
  | none :: t, _ :: u => lle t u
  | some _ :: _, [] => False
  | some v :: t, o :: u => o = some v ∧ lle t u
theorem lle_get : ∀ (a b : List (Option Value)), lle a b → ∀ (i : Nat) (v : Value), lg a i = some v → lg b i = some v
  | [], b, _, i, v, h => by simp [lg] at h
  | none :: t, [], hl, i, v, h => by
    cases i with
    | zero => simp [lg] at h
    | succ i => have := lle_get t [] hl i v (by simpa [lg] using h); simp [lg] at this
  | none :: t, _ :: u, hl, i, v, h => by
    cases i with
    | zero => simp [lg] at h
    | succ i => exact lle_get t u hl i v (by simpa [lg] using h)
  | some _ :: _, [], hl, i, v, h => absurd hl id
  | some w :: t, o :: u, hl, i, v, h => by
    cases i with
    | zero => simp [lg] at h ⊢; rw [hl.1, h]
    | succ i => exact lle_get t u hl.2 i v (by simpa [lg] using h)
theorem LV.le {G : GG} {a b : List (Option Value)} {ls : Array Slot} {nL : Nat} (h : LV G b ls nL) (hl : lle a b) : LV G a ls nL := by
  refine ⟨h.1, h.2.1, fun q hq => h.2.2 q ?_⟩
  obtain ⟨w, -, h2, h3⟩ := (asl_mem G _ 0 q).mp hq
  exact (asl_mem G b 0 q).mpr ⟨w, Nat.zero_le _, lle_get a b hl _ _ h2, h3⟩
end CORE
