section START
def R_law : String := "CountGatesLaw"
def lw_P (b : Addr) (xs : List Int32) (args : Array Value) (s : State) : Prop := args = #[.ref b] ∧ s.IntsAt b xs ∧ xs.length ≤ 3072 ∧ (Jvm.Cond.and given_1 narrow_1).before args s = true
def lw_Q (_ : Array Value) (s : State) (o : Outcome) (t : State) : Prop := o = .returned (some (.int 1)) ∧ Framed s o t [] 600000 7302249
def lw_Z (below : List Frame) (a : Array Value) (s : State) : State → Prop := fun t => ∃ o, t.status = .running ∧ Ended t below o ∧ lw_Q a s o t
/-- the law's own end, with 1 on the stack, nothing written that was there before, its room as the claim has it -/
theorem lw_ret {p : Program} {l : Launch} {e : Env} {s : State} {m : MethodId} {below : List Frame} {meth : Method} {c : Code} {b : Nat} (hx : p.tables.exec = Jvm.exec) (hb : c.code = code) (hr : meth.sig.returnType = ret) (hlocks : meth.locks = false) {pc : Nat} {H : Heap} {ls : Array Slot} (hdg : decode code pc = .ok (.ireturn, 1)) : W p l e room_1 s m #[Value.ref b] below meth c H [] 600000 7302249 (lw_Z below #[Value.ref b] s) (F0 m pc ls [.int 1]) := by
  intro T hT X
  obtain ⟨fs, hret, hrun, hended, hW, hframe⟩ := X.leave (v := some (.int 1)) (hlocks := hlocks) (fun h => by rw [hr] at h; cases h)
  have hmeth' : T.vm.method? m = some meth := X.method'
  refine ⟨T.setFrames fs, ?_, .returned (some (.int 1)), hrun, hended, rfl, ⟨_, rfl⟩, hW, hframe⟩
  jvm_step X.here [X.here.top, hx, hb, hdg, hmeth', hr, ret, narrow_b1]
  (try refine ⟨rfl, ?_⟩); (try refine ⟨rfl, ?_⟩)
  first | (intro acts; rw [hret _ acts rfl rfl rfl]) | rw [hret _ _ rfl rfl rfl]
  exact Steps.refl _
/-- what holds at the law's entry -/
def lw_At (p : Program) (s : State) (m : MethodId) (meth : Method) (c : Code) (b L : Nat) (xs : Nat → Int32) : Prop :=
  p.tables.exec = Jvm.exec ∧ c.code = code ∧ meth.sig.returnType = ret ∧ c.maxLocals = 4 ∧ s.vm.findClass R_law = some m.cls ∧ (∀ w ∈ lw_tbl, w.before #[Value.ref b] s = true) ∧ va_X b L xs s s.heap ∧ b < s.heap.size ∧ meth.locks = false ∧ (Jvm.Cond.and given_1 narrow_1).before #[Value.ref b] s = true ∧ meth.name = "law"
/-! the words of the start -/
theorem fc_at {c : Cond} (i : Nat) (h : (flatC (Jvm.Cond.and given_1 narrow_1))[i]? = some c) : c ∈ flatC (Jvm.Cond.and given_1 narrow_1) := List.mem_of_getElem? h
theorem tl_at {w : Cond} (i : Nat) (h : tables_1[i]? = some w) : w ∈ lw_tbl := List.mem_append_right _ (List.mem_of_getElem? h)
theorem st_el : ∀ j, j < 122 → (flatC (Jvm.Cond.and given_1 narrow_1))[37 + j]? = some (Cond.eq (.elem (.field (.string RX4 95) "java/lang/String" "value" "[B") (.int (Int32.ofNat j))) (.int (sTB.getD j 0))) := by decide +kernel
theorem nw_in : ∀ w ∈ NW, w ∈ lw_tbl := by
  intro w hw
  simp only [NW, List.mem_cons, List.not_mem_nil, or_false] at hw
  rcases hw with rfl | rfl | rfl | rfl | rfl | rfl | rfl | rfl | rfl | rfl
  · exact tl_at 31 (by decide +kernel)
  · exact tl_at 154 (by decide +kernel)
  · exact tl_at 170 (by decide +kernel)
  · exact tl_at 186 (by decide +kernel)
  · exact tl_at 262 (by decide +kernel)
  · exact tl_at 319 (by decide +kernel)
  · exact tl_at 384 (by decide +kernel)
  · exact tl_at 452 (by decide +kernel)
  · exact tl_at 809 (by decide +kernel)
  · exact tl_at 1018 (by decide +kernel)
theorem en_start {p : Program} {s : State} {m : MethodId} {meth : Method} {c : Code} {b L : Nat} {xs : Nat → Int32} (C0 : lw_At p s m meth c b L xs) : ∃ aK aV t : Nat, EN (s.heap.size, b, aK, aV, t) L xs s s.heap := by
  obtain ⟨hx, hb, hr, hml, hown, hts, hX, hbl, hlocks, hgv, hnm⟩ := C0
  have hf := flat_of_before _ hgv
  have hA : ∀ a : Nat, a < s.heap.size → ¬ (fun q : Nat => s.heap.size ≤ q) a := fun a h => Nat.not_le.mpr h
  obtain ⟨adK, adV, hS, hE⟩ := vk_Sof (args := #[Value.ref b]) (s := s) (N := 1) (tm := fun _ => Term.string RX4 95) (len := [sTL]) (byt := [sTB]) (A := fun q : Nat => s.heap.size ≤ q)
    (fun i hi => by rw [show i = 0 by omega]; decide)
    (fun i hi => hf _ (fc_at 33 (by decide +kernel)))
    (fun i hi => hf _ (fc_at 34 (by decide +kernel)))
    (fun i hi => hf _ (fc_at 35 (by decide +kernel)))
    (fun i hi => by rw [show i = 0 by omega]; exact hf _ (fc_at 36 (by decide +kernel)))
    (fun i hi j hj => by
      have e : i = 0 := by omega
      subst e
      exact hf _ (fc_at (37 + j) (st_el j hj)))
    (fun i j hi hj hne => absurd (show i = j by omega) hne) hA
  have hZ2 : va_Zq "jdk/internal/util/Preconditions" "SIOOBE_FORMATTER" "Ljava/util/function/BiFunction;" (fun q : Nat => s.heap.size ≤ q) s s.heap := va_Zqof (hts _ (tl_at 646 (by decide +kernel))) (hts _ (tl_at 16 (by decide +kernel))) (hf _ (fc_at 5 (by decide +kernel))) hA
  have hZ1 : va_Z "java/lang/String" "COMPACT_STRINGS" "Z" (.int 1) (fun q : Nat => s.heap.size ≤ q) s s.heap := va_Zof (hts _ (tl_at 630 (by decide +kernel))) (hts _ (tl_at 14 (by decide +kernel))) (va_eqt (hf _ (fc_at 4 (by decide +kernel)))) hA
  have hR : vk_R RX4 95 sTX (adK 0) s := vk_R.of (hts _ (tl_at 620 (by decide +kernel))) (hE 0 (by omega))
  have hS' : vk_S 1 [sTL] [sTB] (fun _ => adK 0) (fun _ => adV 0) (fun q : Nat => s.heap.size ≤ q) s s.heap := by
    refine ⟨fun i hi => ?_, fun i j hi hj _ => by omega⟩
    have e : i = 0 := by omega
    subst e
    exact hS.1 0 hi
  have hN : ∀ w ∈ NW, va_Nw w s := by
    intro w hw
    obtain ⟨a, i, x, hh, rfl⟩ := NW_is w hw
    exact va_Nw.of rfl (hts _ (nw_in _ hw))
  have h7 : va_AO RX7 s := va_AO.of (hts _ (tl_at 151 (by decide +kernel)))
  have h9 : va_AO RX9 s := va_AO.of (hts _ (tl_at 36 (by decide +kernel)))
  rcases hZ2 with z | ⟨t, z⟩
  · exact ⟨adK 0, adV 0, 0, hX, hbl, Nat.le_refl _, hR, hS', hZ1, Or.inl z, hN, h7, h9⟩
  · exact ⟨adK 0, adV 0, t, hX, hbl, Nat.le_refl _, hR, hS', hZ1, Or.inr z, hN, h7, h9⟩
theorem arr_start {s : State} {args : Array Value} {ty : FieldType} (h : (Cond.arrayClass ty).before args s = true) (hty : ∀ n, ty ≠ .object n) : ∃ cA : ClassId, ArrOfT s cA ty ∧ va_RA s cA ty := by
  obtain ⟨cA, kA, comp, h1, h2, h3⟩ := Cond.arrayClass_spec (show (Cond.arrayClass ty).holds args s none s [] = true from h)
  refine ⟨cA, fun n z => ⟨fun k h => (by cases h), kA, h2, comp, h3⟩, ?_⟩
  cases ty with
  | object n => exact absurd rfl (hty n)
  | _ => exact h1
theorem arq_start {s : State} {C : String} (h : va_AO C s) : ∃ cA : ClassId, ArrOfT s cA (.object C) ∧ va_RA s cA (.object C) := by
  obtain ⟨comp, cA, kA, h1, h2, h3, h4, h5⟩ := Cond.arrayOver_spec (show (Cond.arrayOver (.object C)).holds #[] s none s [] = true from h)
  exact ⟨cA, fun n z => ⟨fun k h => (by cases h), kA, h3, comp, h4⟩, kA, comp, h3, h4, h1, h5⟩
theorem k_start {s : State} {args : Array Value} {m : MethodId} (hts : ∀ w ∈ TB, w.before args s = true) (h7 : va_AO RX7 s) (h9 : va_AO RX9 s) : ∃ (D : va_G) (cy : Nat → ClassId), va_K D cls (tyl cy) s := by
  have h0 : ∀ ci : Nat, ∃ q : ClassId × (Nat → Nat), ci < 12 → u_Kn s (cnm ci) (tO ci) (nF ci) q.1 q.2 := by
    intro ci
    by_cases h : ci < 12
    · obtain ⟨cC, iS, hk⟩ := u_known hts (cls_at ci h).2.1 (hts _ (ini_ok ci h).2)
      exact ⟨(cC, iS), fun _ => hk⟩
    · exact ⟨(m.cls, fun _ => 0), fun h' => absurd h' h⟩
  obtain ⟨ad, had⟩ := Classical.axiomOfChoice h0
  obtain ⟨c12, b12⟩ := arr_start (hts _ ac_ok.1) (fun n h => by cases h)
  obtain ⟨c13, b13⟩ := arr_start (hts _ ac_ok.2.1) (fun n h => by cases h)
  obtain ⟨c14, b14⟩ := arr_start (hts _ ac_ok.2.2.1) (fun n h => by cases h)
  obtain ⟨c15, b15⟩ := arr_start (hts _ ac_ok.2.2.2) (fun n h => by cases h)
  obtain ⟨c16, b16⟩ := arq_start h7
  obtain ⟨c17, b17⟩ := arq_start h9
  refine ⟨(fun k => (ad k).1, fun k => (ad k).2), fun k => bif Nat.beq k 12 then c12 else bif Nat.beq k 13 then c13 else bif Nat.beq k 14 then c14 else bif Nat.beq k 15 then c15 else bif Nat.beq k 16 then c16 else c17, fun ci q hq => ?_, fun k q hq => ?_⟩
  · have hc : ci < 12 := (List.getElem?_eq_some_iff.mp hq).1
    rw [(cls_at ci hc).1] at hq
    cases hq
    exact had ci hc
  · match k, hq with
    | 0, hq => cases hq; exact b12
    | 1, hq => cases hq; exact b13
    | 2, hq => cases hq; exact b14
    | 3, hq => cases hq; exact b15
    | 4, hq => cases hq; exact b16
    | 5, hq => cases hq; exact b17
    | k + 6, hq => simp [tyl] at hq
end START
