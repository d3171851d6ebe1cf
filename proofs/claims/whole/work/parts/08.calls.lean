section CALLS
theorem goodTB {ws : List Cond} (h : ∀ w ∈ ws, w ∈ TB) : GoodIn TB ws := fun w hw => ⟨h w hw, good_of_word (List.all_eq_true.mp good_tb w (h w hw))⟩
/-- what the tables say of a method: its code, its class made ready; its locals are few -/
def OKm (N : MI) : Prop := Cond.code (mY N) (mB N) (mX N) (mR N) ∈ TB ∧ Cond.initialized (mY N).cls ∈ TB ∧ ((mY N).cls ≠ "java/lang/invoke/MethodHandle" ∧ (mY N).cls ≠ "java/lang/invoke/VarHandle") ∧ mX N ≤ 45
theorem OKm.ws {N : MI} (ok : OKm N) : ∀ w ∈ (Cond.code (mY N) (mB N) (mX N) (mR N) :: TB), w ∈ TB := fun w hw => (List.mem_cons.mp hw).elim (fun e => e ▸ ok.1) id
theorem KE.at {D : va_G} {cy : Nat → ClassId} {G : GG} {L : Nat} {xs : Nat → Int32} {s U : State} {H : Heap} {locs : List Loc} (hK : KE D cy G L xs s) (hS : va_S (fun q => G.1 ≤ q) s.heap H locs) (hU : U.heap = H) (hW : s.WarmedH U.vm) : KE D cy G L xs U := by
  refine ⟨va_K.moved hW.alike hK.1, ?_⟩
  rw [hU]
  exact (hK.2.kept hS.1 hS.2.1).moved hW
theorem KE.blind {D : va_G} {cy : Nat → ClassId} {G : GG} {L : Nat} {xs : Nat → Int32} {h : HP} {av : List Value} : FrameBlind (va_Pc av (fun U => KE D cy G L xs U ∧ HR D cy G h U.heap)) := by
  intro a U g mk q
  obtain ⟨q1, q2, q3⟩ := q
  exact ⟨q1, ⟨va_K.moved (u := U) (U := U.calling g mk a) (Vm.Alike.refl U.vm) q2.1, EN.same (s := U) (U := U.calling g mk a) rfl q2.2⟩, q3⟩
theorem run_back {p : Program} {l : Launch} {e : Env} {R : Room} {s : State} {m : MethodId} {args : Array Value} {below : List Frame} {meth : Method} {c : Code} {D : va_G} {cy : Nat → ClassId} {G : GG} {H : Heap} {locs : List Loc} {cells slots mc ms pc : Nat} {ls : Array Slot} {Z : State → Prop} {h : HP} {st0 rest : List Value} {Qc : Option Value → HP → Prop}
    (hr : va_Run p l e R s m args below meth c H locs cells slots mc ms (F0 m pc ls st0) rest (fun st oc t => ∃ (v : Option Value) (h' : HP), oc = .returned (v.map (cv G)) ∧ Qc v h' ∧ kN h ≤ kN h' ∧ HR D cy G h' t.heap ∧ va_F (fun q => G.1 ≤ q) st t) (fun q => G.1 ≤ q)) (hS : va_S (fun q => G.1 ≤ q) s.heap H locs)
    (kk : ∀ (v : Option Value) (h' : HP) (H1 : Heap) (locs1 : List Loc), Qc v h' → kN h ≤ kN h' → HR D cy G h' H1 → va_S (fun q => G.1 ≤ q) s.heap H1 locs1 → W p l e R s m args below meth c H1 locs1 (cells + mc) (slots + ms) Z (F0 m (pc + 3) ls ((v.map (cv G)).toList ++ rest))) :
    W p l e R s m args below meth c H locs cells slots Z (F0 m pc ls st0) := by
  intro T hT X
  obtain ⟨v, st₀, t, T', L', h0, X', hL, e1, e2, ⟨v', h', hv, hq, hn, hH', hz, hk⟩, st⟩ := hr T hT X
  cases hv
  rw [h0] at hz hk
  obtain ⟨t2, a1, b1⟩ := kk v' h' T'.heap (locs ++ L') hq hn (by rw [e1]; exact hH') ⟨Nat.le_trans hS.1 (by rw [e1]; exact hz), fun q h1 h2 => by rw [e1, hk q (Nat.lt_of_lt_of_le h1 hS.1) h2]; exact hS.2.1 q h1 h2, fun q hq => by
      rcases List.mem_append.mp hq with h | h
      · exact hS.2.2 q h
      · exact hL q h⟩ T' rfl X'
  exact ⟨t2, st t2 a1, b1⟩
theorem cat_cv (G : GG) (rest : List Value) : ((rest.map (cv G)).map fun v => v.category).sum = (rest.map fun v => v.category).sum := by
  rw [List.map_map]
  congr 1
  apply List.map_congr_left
  intro v _
  exact cv_cat G v
theorem LQ_le {d' d mx x : Nat} (h : d' + 1 ≤ d) (hm : mx ≤ 45) (hx : LQ d ≤ x) : 8 + (mx + 11) + LQ d' ≤ x := by unfold LQ at *; omega
theorem toL_cv (G : GG) (v : Option Value) (rest : List Value) : (v.map (cv G)).toList ++ rest.map (cv G) = (v.toList ++ rest).map (cv G) := by cases v <;> simp
theorem ev_callV {M : MI} {d bc bs pc : Nat} {lv : List (Option Value)} {h : HP} {Q : Option Value → HP → Prop} {N : MI} {d' bc' bs' i a ci : Nat} {as rest : List Value} {Qc : Option Value → HP → Prop} (hd : decode (mB M) pc = .ok (.invokevirtual i, 3)) (ok : OKm N) (hi : Cond.instanceMethod (mY N) ∈ TB) (hs : Cond.selects (mY N).cls (mY N) (mY N) ∈ TB) (hlk : Cond.methodLink (cnm (mO M)) i (mY N) ∈ TB) (hnp : (parseMethodDescriptor (mY N).desc).map (fun d => d.parameters.length) = some as.length) (hdd : d' + 1 ≤ d) (hrest : (rest.map fun v => v.category).sum ≤ 8) (hk : kK h a = ci) (hci : ci < 12 ∧ cnm ci = (mY N).cls)
    (hC : Ct N d' bc' bs' (.ref a :: as) h Qc) (k : ∀ v h', Qc v h' → kN h ≤ kN h' → Ev M d bc bs (pc + 3) lv (v.toList ++ rest) h' Q) : Ev M d (bc + bc') (bs + bs') pc lv (as.reverse ++ .ref a :: rest) h Q := by
  intro p l e R s m args below meth c D cy G L xs H locs cells slots ls Z C hdr hrr hK hH hS hl hZ
  have hk18 : kK h a < 18 := by rw [hk]; omega
  have hst : (as.reverse ++ Value.ref a :: rest).map (cv G) = (as.map (cv G)).reverse ++ .ref (G.1 + a) :: rest.map (cv G) := by
    rw [List.map_append, List.map_reverse, List.map_cons]
    show _ ++ Value.ref (ro G a) :: _ = _
    rw [hH.ro hk18]
  rw [hst]
  have hcc := cls_at ci hci.1
  have hP := hH.P hk18
  rw [ce_obj hk hci.1] at hP
  have hrec := va_recv hK.1 hP hcc.1 (q0 := 0) rfl
  have has : (.ref (G.1 + a) :: as.map (cv G) : List Value) = (Value.ref a :: as).map (cv G) := by
    rw [List.map_cons]
    show _ = Value.ref (ro G a) :: _
    rw [hH.ro hk18]
  have hG := goodTB (ws := wsV (cnm (mO M)) i (mY N).cls (mY N) (Cond.code (mY N) (mB N) (mX N) (mR N) :: TB)) (by
    intro w hw
    simp only [wsV, List.mem_append, List.mem_cons, List.not_mem_nil, or_false] at hw
    rcases hw with (rfl | rfl | rfl | rfl) | rfl | hw
    · exact hlk
    · exact hi
    · exact hs
    · exact ok.2.1
    · exact ok.1
    · exact hw)
  have hr := va_runV (As := as.map (cv G)) (rest := rest.map (cv G)) (b := G.1 + a) (C := (mY N).cls) (locs := locs) (cells := cells) (slots := slots) (below := below) (meth := meth) (H := H) (R := R) (e := e) (g := F0 m pc ls ((as.map (cv G)).reverse ++ .ref (G.1 + a) :: rest.map (cv G))) ⟨C.1, C.2.1, C.2.2.2.1, C.2.2.2.2.1, C.2.2.2.2.2.1⟩ (hC l D cy G L xs)
    (cwV as.length C.2.2.2.2.2.1 hG rfl rfl rfl ⟨rfl, ok.2.2.1.1, ok.2.2.1.2, hnp⟩ ⟨by show d' + 1 ≤ R.frames; omega, LQ_le hdd ok.2.2.2 hdr.2⟩)
    ⟨KE.blind, by rw [← hci.2]; exact hrec, fun U hU hW => ⟨by rw [has], hK.at hS hU hW, by rw [hU]; exact hH⟩⟩ rfl (by rw [List.length_map]) hl.1 rfl (lv_room (by rw [cat_cv]; exact hrest)) hd ⟨by omega, by omega⟩
  refine run_back hr hS (fun v h' H1 locs1 hq hn hH1 hS1 => ?_)
  rw [toL_cv]
  exact k v h' hq hn p l e R s m args below meth c D cy G L xs H1 locs1 (cells + bc') (slots + bs') ls Z C hdr ⟨by omega, by omega⟩ hK hH1 hS1 hl (fun v h'' H' locs' cells' slots' ls' pc' a1 a2 a3 a4 a5 a6 a7 => hZ v h'' H' locs' cells' slots' ls' pc' a1 a2 (Nat.le_trans hn a3) a4 a5 (by omega) (by omega))
theorem ev_callS {M : MI} {d bc bs pc : Nat} {lv : List (Option Value)} {h : HP} {Q : Option Value → HP → Prop} {N : MI} {d' bc' bs' i : Nat} {as rest : List Value} {Qc : Option Value → HP → Prop} (hd : decode (mB M) pc = .ok (.invokestatic i, 3)) (ok : OKm N) (hi : Cond.static (mY N) ∈ TB) (hlk : Cond.methodLink (cnm (mO M)) i (mY N) ∈ TB) (hnp : (parseMethodDescriptor (mY N).desc).map (fun d => d.parameters.length) = some as.length) (hdd : d' + 1 ≤ d) (hrest : (rest.map fun v => v.category).sum ≤ 8)
    (hC : Ct N d' bc' bs' as h Qc) (k : ∀ v h', Qc v h' → kN h ≤ kN h' → Ev M d bc bs (pc + 3) lv (v.toList ++ rest) h' Q) : Ev M d (bc + bc') (bs + bs') pc lv (as.reverse ++ rest) h Q := by
  intro p l e R s m args below meth c D cy G L xs H locs cells slots ls Z C hdr hrr hK hH hS hl hZ
  rw [List.map_append, List.map_reverse]
  have hG := goodTB (ws := va_wsS (cnm (mO M)) i (mY N) (Cond.code (mY N) (mB N) (mX N) (mR N) :: TB)) (by
    intro w hw
    simp only [va_wsS, List.mem_append, List.mem_cons, List.not_mem_nil, or_false] at hw
    rcases hw with (rfl | rfl | rfl) | rfl | hw
    · exact hlk
    · exact hi
    · exact ok.2.1
    · exact ok.1
    · exact hw)
  have hr := va_runS (As := as.map (cv G)) (rest := rest.map (cv G)) (locs := locs) (cells := cells) (slots := slots) (below := below) (meth := meth) (H := H) (R := R) (e := e) (g := F0 m pc ls ((as.map (cv G)).reverse ++ rest.map (cv G))) ⟨C.1, C.2.1, C.2.2.2.1, C.2.2.2.2.1, C.2.2.2.2.2.1⟩ (hC l D cy G L xs)
    (va_cwS as.length C.2.2.2.2.2.1 hG rfl rfl rfl ⟨ok.2.2.1.1, ok.2.2.1.2, hnp⟩ ⟨by show d' + 1 ≤ R.frames; omega, LQ_le hdd ok.2.2.2 hdr.2⟩)
    ⟨KE.blind, fun U hU hW => ⟨rfl, hK.at hS hU hW, by rw [hU]; exact hH⟩⟩ rfl (by rw [List.length_map]) hl.1 rfl (lv_room (by rw [cat_cv]; exact hrest)) hd ⟨by omega, by omega⟩
  refine run_back hr hS (fun v h' H1 locs1 hq hn hH1 hS1 => ?_)
  rw [toL_cv]
  exact k v h' hq hn p l e R s m args below meth c D cy G L xs H1 locs1 (cells + bc') (slots + bs') ls Z C hdr ⟨by omega, by omega⟩ hK hH1 hS1 hl (fun v h'' H' locs' cells' slots' ls' pc' a1 a2 a3 a4 a5 a6 a7 => hZ v h'' H' locs' cells' slots' ls' pc' a1 a2 (Nat.le_trans hn a3) a4 a5 (by omega) (by omega))
theorem ev_callSN {M : MI} {d bc bs pc : Nat} {lv : List (Option Value)} {h : HP} {Q : Option Value → HP → Prop} {N : MI} {d' bc' bs' i : Nat} {host : String} {as rest : List Value} {Qc : Option Value → HP → Prop} (hd : decode (mB M) pc = .ok (.invokestatic i, 3)) (ok : OKm N) (hi : Cond.static (mY N) ∈ TB) (hlk : Cond.methodLinkNest (cnm (mO M)) i (mY N) host ∈ NW) (hnp : (parseMethodDescriptor (mY N).desc).map (fun d => d.parameters.length) = some as.length) (hdd : d' + 1 ≤ d) (hrest : (rest.map fun v => v.category).sum ≤ 8)
    (hC : Ct N d' bc' bs' as h Qc) (k : ∀ v h', Qc v h' → kN h ≤ kN h' → Ev M d bc bs (pc + 3) lv (v.toList ++ rest) h' Q) : Ev M d (bc + bc') (bs + bs') pc lv (as.reverse ++ rest) h Q := by
  intro p l e R s m args below meth c D cy G L xs H locs cells slots ls Z C hdr hrr hK hH hS hl hZ
  rw [List.map_append, List.map_reverse]
  have hr := va_runSN (As := as.map (cv G)) (rest := rest.map (cv G)) (locs := locs) (cells := cells) (slots := slots) (below := below) (meth := meth) (H := H) (R := R) (e := e) (g := F0 m pc ls ((as.map (cv G)).reverse ++ rest.map (cv G))) ⟨C.1, C.2.1, C.2.2.2.1, C.2.2.2.2.1, C.2.2.2.2.2.1⟩ (hC l D cy G L xs)
    ⟨va_cnB as.length C.2.2.2.2.2.1 (goodTB ok.ws) rfl rfl rfl (hK.2.2.2.2.2.2.2.2.1 _ hlk) (C.2.2.2.2.2.1 _ ok.2.1) ⟨ok.2.2.1.1, ok.2.2.1.2, hnp⟩ ⟨by show d' + 1 ≤ R.frames; omega, LQ_le hdd ok.2.2.2 hdr.2⟩, C.2.2.2.2.2.1 _ hi, trivial⟩
    ⟨KE.blind, fun U hU hW => ⟨rfl, hK.at hS hU hW, by rw [hU]; exact hH⟩⟩ rfl (by rw [List.length_map]) hl.1 rfl (lv_room (by rw [cat_cv]; exact hrest)) hd ⟨by omega, by omega⟩
  refine run_back hr hS (fun v h' H1 locs1 hq hn hH1 hS1 => ?_)
  rw [toL_cv]
  exact k v h' hq hn p l e R s m args below meth c D cy G L xs H1 locs1 (cells + bc') (slots + bs') ls Z C hdr ⟨by omega, by omega⟩ hK hH1 hS1 hl (fun v h'' H' locs' cells' slots' ls' pc' a1 a2 a3 a4 a5 a6 a7 => hZ v h'' H' locs' cells' slots' ls' pc' a1 a2 (Nat.le_trans hn a3) a4 a5 (by omega) (by omega))
theorem ev_callI {M : MI} {d bc bs pc : Nat} {lv : List (Option Value)} {h : HP} {Q : Option Value → HP → Prop} {N : MI} {d' bc' bs' i a : Nat} {as rest : List Value} {Qc : Option Value → HP → Prop} (hd : decode (mB M) pc = .ok (.invokespecial i, 3)) (ok : OKm N) (hret : mR N = none) (hi : Cond.instanceMethod (mY N) ∈ TB) (hnm : (mY N).name = "<init>") (hlk : Cond.methodLink (cnm (mO M)) i (mY N) ∈ TB) (hnp : (parseMethodDescriptor (mY N).desc).map (fun d => d.parameters.length) = some as.length) (hdd : d' + 1 ≤ d) (hrest : (rest.map fun v => v.category).sum ≤ 8)
    (hC : Ct N d' bc' bs' (.ref a :: as) h Qc) (k : ∀ v h', Qc v h' → kN h ≤ kN h' → Ev M d bc bs (pc + 3) lv (v.toList ++ rest) h' Q) : Ev M d (bc + bc') (bs + bs') pc lv (as.reverse ++ .ref a :: rest) h Q := by
  intro p l e R s m args below meth c D cy G L xs H locs cells slots ls Z C hdr hrr hK hH hS hl hZ
  rw [List.map_append, List.map_reverse, List.map_cons]
  have hM := hC l D cy G L xs
  have hc1 := ok.1
  have hws := ok.ws
  rw [hret] at hM hc1 hws
  have hr := va_runI (As := as.map (cv G)) (rest := rest.map (cv G)) (b := ro G a) (locs := locs) (cells := cells) (slots := slots) (below := below) (meth := meth) (H := H) (R := R) (e := e) (g := F0 m pc ls ((as.map (cv G)).reverse ++ .ref (ro G a) :: rest.map (cv G))) ⟨C.1, C.2.1, C.2.2.2.1, C.2.2.2.2.1, C.2.2.2.2.2.1⟩ hM
    (cwI as.length C.2.2.2.2.2.1 (goodTB hws) rfl rfl rfl (C.2.2.2.2.2.1 _ ok.2.1) (C.2.2.2.2.2.1 _ hlk) (C.2.2.2.2.2.1 _ hi) hnm ⟨ok.2.2.1.1, ok.2.2.1.2, hnp⟩ ⟨by show d' + 1 ≤ R.frames; omega, LQ_le hdd ok.2.2.2 hdr.2⟩)
    ⟨KE.blind, fun U hU hW => ⟨rfl, hK.at hS hU hW, by rw [hU]; exact hH⟩⟩ rfl (by rw [List.length_map]) hl.1 rfl (lv_room (by rw [cat_cv]; exact hrest)) hd ⟨by omega, by omega⟩
  refine run_back hr hS (fun v h' H1 locs1 hq hn hH1 hS1 => ?_)
  rw [toL_cv]
  exact k v h' hq hn p l e R s m args below meth c D cy G L xs H1 locs1 (cells + bc') (slots + bs') ls Z C hdr ⟨by omega, by omega⟩ hK hH1 hS1 hl (fun v h'' H' locs' cells' slots' ls' pc' a1 a2 a3 a4 a5 a6 a7 => hZ v h'' H' locs' cells' slots' ls' pc' a1 a2 (Nat.le_trans hn a3) a4 a5 (by omega) (by omega))
theorem ev_callIN {M : MI} {d bc bs pc : Nat} {lv : List (Option Value)} {h : HP} {Q : Option Value → HP → Prop} {N : MI} {d' bc' bs' i a : Nat} {host : String} {as rest : List Value} {Qc : Option Value → HP → Prop} (hd : decode (mB M) pc = .ok (.invokespecial i, 3)) (ok : OKm N) (hret : mR N = none) (hi : Cond.instanceMethod (mY N) ∈ TB) (hnm : (mY N).name = "<init>") (hlk : Cond.methodLinkNest (cnm (mO M)) i (mY N) host ∈ NW) (hnp : (parseMethodDescriptor (mY N).desc).map (fun d => d.parameters.length) = some as.length) (hdd : d' + 1 ≤ d) (hrest : (rest.map fun v => v.category).sum ≤ 8)
    (hC : Ct N d' bc' bs' (.ref a :: as) h Qc) (k : ∀ v h', Qc v h' → kN h ≤ kN h' → Ev M d bc bs (pc + 3) lv (v.toList ++ rest) h' Q) : Ev M d (bc + bc') (bs + bs') pc lv (as.reverse ++ .ref a :: rest) h Q := by
  intro p l e R s m args below meth c D cy G L xs H locs cells slots ls Z C hdr hrr hK hH hS hl hZ
  rw [List.map_append, List.map_reverse, List.map_cons]
  have hM := hC l D cy G L xs
  have hws := ok.ws
  rw [hret] at hM hws
  have hr := va_runIN (As := as.map (cv G)) (rest := rest.map (cv G)) (b := ro G a) (locs := locs) (cells := cells) (slots := slots) (below := below) (meth := meth) (H := H) (R := R) (e := e) (g := F0 m pc ls ((as.map (cv G)).reverse ++ .ref (ro G a) :: rest.map (cv G))) ⟨C.1, C.2.1, C.2.2.2.1, C.2.2.2.2.1, C.2.2.2.2.2.1⟩ hM
    ⟨va_cnB as.length C.2.2.2.2.2.1 (goodTB hws) rfl rfl rfl (hK.2.2.2.2.2.2.2.2.1 _ hlk) (C.2.2.2.2.2.1 _ ok.2.1) ⟨ok.2.2.1.1, ok.2.2.1.2, hnp⟩ ⟨by show d' + 1 ≤ R.frames; omega, LQ_le hdd ok.2.2.2 hdr.2⟩, hnm, C.2.2.2.2.2.1 _ hi⟩
    ⟨KE.blind, fun U hU hW => ⟨rfl, hK.at hS hU hW, by rw [hU]; exact hH⟩⟩ rfl (by rw [List.length_map]) hl.1 rfl (lv_room (by rw [cat_cv]; exact hrest)) hd ⟨by omega, by omega⟩
  refine run_back hr hS (fun v h' H1 locs1 hq hn hH1 hS1 => ?_)
  rw [toL_cv]
  exact k v h' hq hn p l e R s m args below meth c D cy G L xs H1 locs1 (cells + bc') (slots + bs') ls Z C hdr ⟨by omega, by omega⟩ hK hH1 hS1 hl (fun v h'' H' locs' cells' slots' ls' pc' a1 a2 a3 a4 a5 a6 a7 => hZ v h'' H' locs' cells' slots' ls' pc' a1 a2 (Nat.le_trans hn a3) a4 a5 (by omega) (by omega))
/-- Ct of fewer cells, with a weaker end -/
theorem Ct.mono {M : MI} {d bc bs : Nat} {as : List Value} {h : HP} {Q Q' : Option Value → HP → Prop} (hC : Ct M d bc bs as h Q) (hq : ∀ v h', Q v h' → Q' v h') : Ct M d bc bs as h Q' := by
  intro l D cy G L xs p e ha hc hk s m args below hf hnn hP htt
  obtain ⟨k, o, a1, a2, a3, ⟨v, h', b1, b2, b3⟩, b4⟩ := hC l D cy G L xs p e ha hc hk s m args below hf hnn hP htt
  exact ⟨k, o, a1, a2, a3, ⟨v, h', b1, hq v h' b2, b3⟩, b4⟩
end CALLS
