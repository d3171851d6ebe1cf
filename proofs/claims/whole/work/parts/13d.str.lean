section STR
/-! the text constant: 1000001 is its cell, 1000002 its bytes', 1000003 a cell outside -/
theorem ev_ldcS {M : MI} {d bc bs pc : Nat} {lv : List (Option Value)} {st : List Value} {h : HP} {Q : Option Value → HP → Prop} (hd : decode (mB M) pc = .ok (.ldc 95, 2)) (hO : mO M = 4)
    (k : Ev M d bc bs (pc + 2) lv (.ref 1000001 :: st) h Q) : Ev M d bc bs pc lv st h Q := by
  refine ev_full (Nat.le_refl _) (fun {p l e R s m args below meth c D cy G L xs H locs cells slots ls Z} C hdr hrr hK hH hS hl kk => ?_) k
  have hown := C.2.2.2.2.1
  rw [hO] at hown
  exact va_ldcS C.1 C.2.1 (own := RX4) hown hK.2.2.2.2.1 hd (kk _ _ _ hH hS hl)
theorem ev_gst {M : MI} {d bc bs pc i : Nat} {lv : List (Option Value)} {st : List Value} {h : HP} {Q : Option Value → HP → Prop} (hd : decode (mB M) pc = .ok (.getstatic i, 3)) (hlk : Cond.fieldLink (cnm (mO M)) i "java/lang/String" "COMPACT_STRINGS" "Z" ∈ TB)
    (k : Ev M d bc bs (pc + 3) lv (.int 1 :: st) h Q) : Ev M d bc bs pc lv st h Q := by
  refine ev_full (Nat.le_refl _) (fun {p l e R s m args below meth c D cy G L xs H locs cells slots ls Z} C hdr hrr hK hH hS hl kk => ?_) k
  exact va_gets C.1 C.2.1 hK.2.2.2.2.2.2.1 hS C.2.2.2.2.1 (C.2.2.2.2.2.1 _ hlk) (fun x h => h) hd (kk _ _ _ hH hS hl)
theorem ev_gsz {M : MI} {d bc bs pc i : Nat} {lv : List (Option Value)} {st : List Value} {h : HP} {Q : Option Value → HP → Prop} (hd : decode (mB M) pc = .ok (.getstatic i, 3)) (hlk : Cond.fieldLink (cnm (mO M)) i "jdk/internal/util/Preconditions" "SIOOBE_FORMATTER" "Ljava/util/function/BiFunction;" ∈ TB)
    (k0 : Ev M d bc bs (pc + 3) lv (.null :: st) h Q) (k1 : Ev M d bc bs (pc + 3) lv (.ref 1000003 :: st) h Q) : Ev M d bc bs pc lv st h Q := by
  intro p l e R s m args below meth c D cy G L xs H locs cells slots ls Z C hdr hrr hK hH hS hl hZ
  rcases hK.2.2.2.2.2.2.2.1 with hz | hz
  · exact va_gets C.1 C.2.1 hz hS C.2.2.2.2.1 (C.2.2.2.2.2.1 _ hlk) (fun x h => h) hd (k0 p l e R s m args below meth c D cy G L xs H locs cells slots ls Z C hdr hrr hK hH hS hl hZ)
  · exact va_gets C.1 C.2.1 hz hS C.2.2.2.2.1 (C.2.2.2.2.2.1 _ hlk) (fun x h => h) hd (k1 p l e R s m args below meth c D cy G L xs H locs cells slots ls Z C hdr hrr hK hH hS hl hZ)
theorem ev_scod {M : MI} {d bc bs pc i : Nat} {lv : List (Option Value)} {st : List Value} {h : HP} {Q : Option Value → HP → Prop} (hd : decode (mB M) pc = .ok (.getfield i, 3)) (hlk : Cond.fieldLink (cnm (mO M)) i "java/lang/String" "coder" "B" ∈ TB)
    (k : Ev M d bc bs (pc + 3) lv (.int 0 :: st) h Q) : Ev M d bc bs pc lv (.ref 1000001 :: st) h Q := by
  refine ev_full (Nat.le_refl _) (fun {p l e R s m args below meth c D cy G L xs H locs cells slots ls Z} C hdr hrr hK hH hS hl kk => ?_) k
  exact vk_getf C.1 C.2.1 (hK.2.2.2.2.2.1.1 0 (by decide)).2.1 hS C.2.2.2.2.1 (C.2.2.2.2.2.1 _ hlk) (fun x h => h) hd (kk _ _ _ hH hS hl)
theorem ev_sval {M : MI} {d bc bs pc i : Nat} {lv : List (Option Value)} {st : List Value} {h : HP} {Q : Option Value → HP → Prop} (hd : decode (mB M) pc = .ok (.getfield i, 3)) (hlk : Cond.fieldLink (cnm (mO M)) i "java/lang/String" "value" "[B" ∈ TB)
    (k : Ev M d bc bs (pc + 3) lv (.ref 1000002 :: st) h Q) : Ev M d bc bs pc lv (.ref 1000001 :: st) h Q := by
  refine ev_full (Nat.le_refl _) (fun {p l e R s m args below meth c D cy G L xs H locs cells slots ls Z} C hdr hrr hK hH hS hl kk => ?_) k
  exact vk_getf C.1 C.2.1 (hK.2.2.2.2.2.1.1 0 (by decide)).2.2.1 hS C.2.2.2.2.1 (C.2.2.2.2.2.1 _ hlk) (fun x h => h) hd (kk _ _ _ hH hS hl)
theorem ev_svlen {M : MI} {d bc bs pc : Nat} {lv : List (Option Value)} {st : List Value} {h : HP} {Q : Option Value → HP → Prop} (hd : decode (mB M) pc = .ok (.arraylength, 1))
    (k : Ev M d bc bs (pc + 1) lv (.int 122 :: st) h Q) : Ev M d bc bs pc lv (.ref 1000002 :: st) h Q := by
  refine ev_full (Nat.le_refl _) (fun {p l e R s m args below meth c D cy G L xs H locs cells slots ls Z} C hdr hrr hK hH hS hl kk => ?_) k
  exact va_tlen C.1 C.2.1 (hK.2.2.2.2.2.1.1 0 (by decide)).2.2.2 hS (by decide) hd (kk _ _ _ hH hS hl)
theorem ev_svld {M : MI} {d bc bs pc : Nat} {i : Int32} {lv : List (Option Value)} {st : List Value} {h : HP} {Q : Option Value → HP → Prop} (hd : decode (mB M) pc = .ok (.baload, 1)) (hin : vp_in i 122)
    (k : Ev M d bc bs (pc + 1) lv (.int (chA i) :: st) h Q) : Ev M d bc bs pc lv (.int i :: .ref 1000002 :: st) h Q := by
  refine ev_full (Nat.le_refl _) (fun {p l e R s m args below meth c D cy G L xs H locs cells slots ls Z} C hdr hrr hK hH hS hl kk => ?_) k
  exact va_tb C.1 C.2.1 (hK.2.2.2.2.2.1.1 0 (by decide)).2.2.2 hS hin rfl hd (kk _ _ _ hH hS hl)
theorem ev_callStr {M : MI} {d bc bs pc : Nat} {lv : List (Option Value)} {h : HP} {Q : Option Value → HP → Prop} {N : MI} {d' bc' bs' i : Nat} {as rest : List Value} {Qc : Option Value → HP → Prop} (hd : decode (mB M) pc = .ok (.invokevirtual i, 3)) (ok : OKm N) (hcls : (mY N).cls = "java/lang/String") (hi : Cond.instanceMethod (mY N) ∈ TB) (hs : Cond.selects (mY N).cls (mY N) (mY N) ∈ TB) (hlk : Cond.methodLink (cnm (mO M)) i (mY N) ∈ TB) (hnp : (parseMethodDescriptor (mY N).desc).map (fun d => d.parameters.length) = some as.length) (hdd : d' + 1 ≤ d) (hrest : (rest.map fun v => v.category).sum ≤ 8)
    (hC : Ct N d' bc' bs' (.ref 1000001 :: as) h Qc) (k : ∀ v h', Qc v h' → kN h ≤ kN h' → Ev M d bc bs (pc + 3) lv (v.toList ++ rest) h' Q) : Ev M d (bc + bc') (bs + bs') pc lv (as.reverse ++ .ref 1000001 :: rest) h Q := by
  intro p l e R s m args below meth c D cy G L xs H locs cells slots ls Z C hdr hrr hK hH hS hl hZ
  have hst : (as.reverse ++ Value.ref 1000001 :: rest).map (cv G) = (as.map (cv G)).reverse ++ .ref G.2.2.1 :: rest.map (cv G) := by
    rw [List.map_append, List.map_reverse, List.map_cons]
    rfl
  rw [hst]
  have hrec := vk_recv (i := 0) hK.2.2.2.2.2.1 (by decide) hS
  have hG := goodTB (ws := wsV (cnm (mO M)) i (mY N).cls (mY N) (Cond.code (mY N) (mB N) (mX N) (mR N) :: TB)) (by
    intro w hw
    simp only [wsV, List.mem_append, List.mem_cons, List.not_mem_nil, or_false] at hw
    rcases hw with (rfl | rfl | rfl | rfl) | rfl | hw
    · exact hlk
    · exact hi
    · exact hs
    · exact ok.2.1
    · exact ok.1
    · exact hw)
  have hr := va_runV (As := as.map (cv G)) (rest := rest.map (cv G)) (b := G.2.2.1) (C := (mY N).cls) (locs := locs) (cells := cells) (slots := slots) (below := below) (meth := meth) (H := H) (R := R) (e := e) (g := F0 m pc ls ((as.map (cv G)).reverse ++ .ref G.2.2.1 :: rest.map (cv G))) ⟨C.1, C.2.1, C.2.2.2.1, C.2.2.2.2.1, C.2.2.2.2.2.1⟩ (hC l D cy G L xs)
    (cwV as.length C.2.2.2.2.2.1 hG rfl rfl rfl ⟨rfl, ok.2.2.1.1, ok.2.2.1.2, hnp⟩ ⟨by show d' + 1 ≤ R.frames; omega, LQ_le hdd ok.2.2.2 hdr.2⟩)
    ⟨KE.blind, by rw [hcls]; exact hrec, fun U hU hW => ⟨rfl, hK.at hS hU hW, by rw [hU]; exact hH⟩⟩ rfl (by rw [List.length_map]) hl.1 rfl (lv_room (by rw [cat_cv]; exact hrest)) hd ⟨by omega, by omega⟩
  refine run_back hr hS (fun v h' H1 locs1 hq hn hH1 hS1 => ?_)
  rw [toL_cv]
  exact k v h' hq hn p l e R s m args below meth c D cy G L xs H1 locs1 (cells + bc') (slots + bs') ls Z C hdr ⟨by omega, by omega⟩ hK hH1 hS1 hl (fun v h'' H' locs' cells' slots' ls' pc' a1 a2 a3 a4 a5 a6 a7 => hZ v h'' H' locs' cells' slots' ls' pc' a1 a2 (Nat.le_trans hn a3) a4 a5 (by omega) (by omega))
theorem ev_i2c {M : MI} {d bc bs pc : Nat} {x : Int32} {lv : List (Option Value)} {st : List Value} {h : HP} {Q : Option Value → HP → Prop} (hd : decode (mB M) pc = .ok (.i2c, 1))
    (k : Ev M d bc bs (pc + 1) lv (.int (x.toUInt32 % 65536).toInt32 :: st) h Q) : Ev M d bc bs pc lv (.int x :: st) h Q :=
  ev_of (fun hx hb hl k => lv_i2c hx hb hd rfl k) k
set_option maxRecDepth 20000 in
theorem sl_cs : Cond.fieldLink (cnm 15) 38 "java/lang/String" "COMPACT_STRINGS" "Z" ∈ TB := tm 629 rfl
set_option maxRecDepth 20000 in
theorem sl_si : Cond.fieldLink (cnm 15) 1053 "jdk/internal/util/Preconditions" "SIOOBE_FORMATTER" "Ljava/util/function/BiFunction;" ∈ TB := tm 645 rfl
set_option maxRecDepth 20000 in
theorem sl_v : Cond.fieldLink (cnm 15) 9 "java/lang/String" "value" "[B" ∈ TB := tm 1841 rfl
set_option maxRecDepth 20000 in
theorem sl_c : Cond.fieldLink (cnm 15) 15 "java/lang/String" "coder" "B" ∈ TB := tm 1842 rfl
theorem ct_coder (h : HP) : Ct mJ0_coder_7d493 1 0 0 [.ref 1000001] h (fun v h' => v = some (.int 0) ∧ h' = h) := by
  refine Ct.of (lv := [some (.ref 1000001)]) rfl rfl rfl (show (_ : Nat) ≤ _ from Nat.le_of_ble_eq_true rfl) (fun G => rfl) ?_
  refine ev_gst (dcd tokJ0_coder_7d493 rfl) sl_cs ?_
  refine Ev.steps tokJ0_coder_7d493 2 (P := True) (pc' := 7) (lv' := [some (.ref 1000001)]) (st' := [.ref 1000001]) (h' := h) rfl trivial ?_
  refine ev_scod (dcd tokJ0_coder_7d493 rfl) sl_c ?_
  refine Ev.steps tokJ0_coder_7d493 1 (P := True) (pc' := 14) (lv' := [some (.ref 1000001)]) (st' := [.int 0]) (h' := h) rfl trivial ?_
  exact Ev.retn tokJ0_coder_7d493 rfl rfl (by decide) ⟨rfl, rfl⟩
theorem ct_isLatin1 (h : HP) : Ct mJ0_isLatin1_aae02 1 0 0 [.ref 1000001] h (fun v h' => v = some (.int 1) ∧ h' = h) := by
  refine Ct.of (lv := [some (.ref 1000001)]) rfl rfl rfl (show (_ : Nat) ≤ _ from Nat.le_of_ble_eq_true rfl) (fun G => rfl) ?_
  refine ev_gst (dcd tokJ0_isLatin1_aae02 rfl) sl_cs ?_
  refine Ev.steps tokJ0_isLatin1_aae02 2 (P := True) (pc' := 7) (lv' := [some (.ref 1000001)]) (st' := [.ref 1000001]) (h' := h) rfl trivial ?_
  refine ev_scod (dcd tokJ0_isLatin1_aae02 rfl) sl_c ?_
  refine Ev.steps tokJ0_isLatin1_aae02 3 (P := True) (pc' := 18) (lv' := [some (.ref 1000001)]) (st' := [.int 1]) (h' := h) rfl trivial ?_
  exact Ev.retn tokJ0_isLatin1_aae02 rfl rfl (by decide) ⟨rfl, rfl⟩
theorem ct_strlen (h : HP) : Ct mJ0_length_8abf5 2 0 0 [.ref 1000001] h (fun v h' => v = some (.int 122) ∧ h' = h) := by
  refine Ct.of (lv := [some (.ref 1000001)]) rfl rfl rfl (show (_ : Nat) ≤ _ from Nat.le_of_ble_eq_true rfl) (fun G => rfl) ?_
  refine Ev.steps tokJ0_length_8abf5 1 (P := True) (pc' := 1) (lv' := [some (.ref 1000001)]) (st' := [.ref 1000001]) (h' := h) rfl trivial ?_
  refine ev_sval (dcd tokJ0_length_8abf5 rfl) sl_v ?_
  refine ev_svlen (dcd tokJ0_length_8abf5 rfl) ?_
  refine Ev.steps tokJ0_length_8abf5 1 (P := True) (pc' := 6) (lv' := [some (.ref 1000001)]) (st' := [.ref 1000001, .int 122]) (h' := h) rfl trivial ?_
  refine ev_callStr (N := mJ0_coder_7d493) (d' := 1) (bc := 0) (bs := 0) (bc' := 0) (bs' := 0) (as := []) (rest := [.int 122]) (dcd tokJ0_length_8abf5 rfl) okJ0_coder_7d493 rfl inJ0_coder_7d493 seJ0_coder_7d493 lk15_335 rfl (by decide) (Nat.le_of_ble_eq_true rfl) (ct_coder h) (fun v h' hq hn => ?_)
  obtain ⟨rfl, rfl⟩ := hq
  refine Ev.steps tokJ0_length_8abf5 1 (P := True) (pc' := 10) (lv' := [some (.ref 1000001)]) (st' := [.int 122]) (h' := h') rfl trivial ?_
  exact Ev.reti tokJ0_length_8abf5 rfl rfl ⟨rfl, rfl⟩
theorem ct_pchk (h : HP) (i : Int32) (r : Value) (hr : r = .null ∨ r = .ref 1000003) (hi : 0 ≤ i ∧ i < 122) : Ct mJ3_checkIndex_8e157 1 0 0 [.int i, .int 122, r] h (fun v h' => v = some (.int i) ∧ h' = h) := by
  have h0 : ¬ i < 0 := Int32.not_lt.mpr hi.1
  rcases hr with rfl | rfl
  · refine Ct.of (lv := [some (.int i), some (.int 122), some .null]) rfl rfl rfl (show (_ : Nat) ≤ _ from Nat.le_of_ble_eq_true rfl) (fun G => rfl) ?_
    refine Ev.steps tokJ3_checkIndex_8e157 2 (P := True) (pc' := if i < 0 then 9 else 4) (lv' := [some (.int i), some (.int 122), some .null]) (st' := []) (h' := h) rfl trivial ?_
    rw [if_neg h0]
    refine Ev.steps tokJ3_checkIndex_8e157 3 (P := True) (pc' := if i < 122 then 16 else 9) (lv' := [some (.int i), some (.int 122), some .null]) (st' := []) (h' := h) rfl trivial ?_
    rw [if_pos hi.2]
    refine Ev.steps tokJ3_checkIndex_8e157 1 (P := True) (pc' := 17) (lv' := [some (.int i), some (.int 122), some .null]) (st' := [.int i]) (h' := h) rfl trivial ?_
    exact Ev.reti tokJ3_checkIndex_8e157 rfl rfl ⟨rfl, rfl⟩
  · refine Ct.of (lv := [some (.int i), some (.int 122), some (.ref 1000003)]) rfl rfl rfl (show (_ : Nat) ≤ _ from Nat.le_of_ble_eq_true rfl) (fun G => rfl) ?_
    refine Ev.steps tokJ3_checkIndex_8e157 2 (P := True) (pc' := if i < 0 then 9 else 4) (lv' := [some (.int i), some (.int 122), some (.ref 1000003)]) (st' := []) (h' := h) rfl trivial ?_
    rw [if_neg h0]
    refine Ev.steps tokJ3_checkIndex_8e157 3 (P := True) (pc' := if i < 122 then 16 else 9) (lv' := [some (.int i), some (.int 122), some (.ref 1000003)]) (st' := []) (h' := h) rfl trivial ?_
    rw [if_pos hi.2]
    refine Ev.steps tokJ3_checkIndex_8e157 1 (P := True) (pc' := 17) (lv' := [some (.int i), some (.int 122), some (.ref 1000003)]) (st' := [.int i]) (h' := h) rfl trivial ?_
    exact Ev.reti tokJ3_checkIndex_8e157 rfl rfl ⟨rfl, rfl⟩
theorem ct_schk (h : HP) (i : Int32) (hi : 0 ≤ i ∧ i < 122) : Ct mJ0_checkIndex_df160 2 0 0 [.int i, .int 122] h (fun v h' => v = none ∧ h' = h) := by
  refine Ct.of (lv := [some (.int i), some (.int 122)]) rfl rfl rfl (show (_ : Nat) ≤ _ from Nat.le_of_ble_eq_true rfl) (fun G => rfl) ?_
  refine Ev.steps tokJ0_checkIndex_df160 2 (P := True) (pc' := 2) (lv' := [some (.int i), some (.int 122)]) (st' := [.int 122, .int i]) (h' := h) rfl trivial ?_
  refine ev_gsz (dcd tokJ0_checkIndex_df160 rfl) sl_si ?_ ?_
  · refine ev_callS (N := mJ3_checkIndex_8e157) (d' := 1) (bc := 0) (bs := 0) (bc' := 0) (bs' := 0) (as := [.int i, .int 122, .null]) (rest := []) (dcd tokJ0_checkIndex_df160 rfl) okJ3_checkIndex_8e157 inJ3_checkIndex_8e157 lk15_1059 rfl (by decide) (Nat.le_of_ble_eq_true rfl) (ct_pchk h i .null (Or.inl rfl) hi) (fun v h' hq hn => ?_)
    obtain ⟨rfl, rfl⟩ := hq
    refine Ev.steps tokJ0_checkIndex_df160 1 (P := True) (pc' := 9) (lv' := [some (.int i), some (.int 122)]) (st' := []) (h' := h') rfl trivial ?_
    exact Ev.retv tokJ0_checkIndex_df160 rfl rfl ⟨rfl, rfl⟩
  · refine ev_callS (N := mJ3_checkIndex_8e157) (d' := 1) (bc := 0) (bs := 0) (bc' := 0) (bs' := 0) (as := [.int i, .int 122, .ref 1000003]) (rest := []) (dcd tokJ0_checkIndex_df160 rfl) okJ3_checkIndex_8e157 inJ3_checkIndex_8e157 lk15_1059 rfl (by decide) (Nat.le_of_ble_eq_true rfl) (ct_pchk h i (.ref 1000003) (Or.inr rfl) hi) (fun v h' hq hn => ?_)
    obtain ⟨rfl, rfl⟩ := hq
    refine Ev.steps tokJ0_checkIndex_df160 1 (P := True) (pc' := 9) (lv' := [some (.int i), some (.int 122)]) (st' := []) (h' := h') rfl trivial ?_
    exact Ev.retv tokJ0_checkIndex_df160 rfl rfl ⟨rfl, rfl⟩
theorem chA_small : ∀ j : Nat, j < 122 → 0 ≤ sTB.getD j 0 ∧ sTB.getD j 0 < 128 ∧ ((sTB.getD j 0 &&& 255).toUInt32 % 65536).toInt32 = sTB.getD j 0 ∧ narrow .char (.int (sTB.getD j 0)) = .int (sTB.getD j 0) := by decide +kernel
theorem in122 {i : Int32} (hi : 0 ≤ i ∧ i < 122) : i.toNatClampNeg < 122 ∧ vp_in i 122 := by
  have h1 : (0 : Int) ≤ i.toInt := by simpa using Int32.le_iff_toInt_le.mp hi.1
  have h2 : i.toInt < 122 := by simpa using Int32.lt_iff_toInt_lt.mp hi.2
  have h3 : i.toNatClampNeg < 122 := by show i.toInt.toNat < 122; omega
  refine ⟨h3, ?_⟩
  rintro (h | h)
  · exact Int32.not_lt.mpr hi.1 h
  · omega
theorem ct_lat (h : HP) (i : Int32) (hi : 0 ≤ i ∧ i < 122) : Ct mJ1_charAt_3b067 3 0 0 [.ref 1000002, .int i] h (fun v h' => v = some (.int (chA i)) ∧ h' = h) := by
  refine Ct.of (lv := [some (.ref 1000002), some (.int i)]) rfl rfl rfl (show (_ : Nat) ≤ _ from Nat.le_of_ble_eq_true rfl) (fun G => rfl) ?_
  refine Ev.steps tokJ1_charAt_3b067 2 (P := True) (pc' := 2) (lv' := [some (.ref 1000002), some (.int i)]) (st' := [.ref 1000002, .int i]) (h' := h) rfl trivial ?_
  refine ev_svlen (dcd tokJ1_charAt_3b067 rfl) ?_
  refine ev_callS (N := mJ0_checkIndex_df160) (d' := 2) (bc := 0) (bs := 0) (bc' := 0) (bs' := 0) (as := [.int i, .int 122]) (rest := []) (dcd tokJ1_charAt_3b067 rfl) okJ0_checkIndex_df160 inJ0_checkIndex_df160 lk16_9 rfl (by decide) (Nat.le_of_ble_eq_true rfl) (ct_schk h i hi) (fun v h' hq hn => ?_)
  obtain ⟨rfl, rfl⟩ := hq
  refine Ev.steps tokJ1_charAt_3b067 2 (P := True) (pc' := 8) (lv' := [some (.ref 1000002), some (.int i)]) (st' := [.int i, .ref 1000002]) (h' := h') rfl trivial ?_
  refine ev_svld (dcd tokJ1_charAt_3b067 rfl) (in122 hi).2 ?_
  refine Ev.steps tokJ1_charAt_3b067 2 (P := True) (pc' := 13) (lv' := [some (.ref 1000002), some (.int i)]) (st' := [.int (chA i &&& 255)]) (h' := h') rfl trivial ?_
  refine ev_i2c (dcd tokJ1_charAt_3b067 rfl) ?_
  have hs := chA_small _ (in122 hi).1
  rw [show ((chA i &&& 255).toUInt32 % 65536).toInt32 = chA i from hs.2.2.1]
  exact Ev.retn tokJ1_charAt_3b067 rfl rfl hs.2.2.2 ⟨rfl, rfl⟩
theorem ct_charAt (h : HP) (i : Int32) (hi : 0 ≤ i ∧ i < 122) : Ct mJ0_charAt_5068e 4 0 0 [.ref 1000001, .int i] h (fun v h' => v = some (.int (chA i)) ∧ h' = h) := by
  refine Ct.of (lv := [some (.ref 1000001), some (.int i)]) rfl rfl rfl (show (_ : Nat) ≤ _ from Nat.le_of_ble_eq_true rfl) (fun G => rfl) ?_
  refine Ev.steps tokJ0_charAt_5068e 1 (P := True) (pc' := 1) (lv' := [some (.ref 1000001), some (.int i)]) (st' := [.ref 1000001]) (h' := h) rfl trivial ?_
  refine ev_callStr (N := mJ0_isLatin1_aae02) (d' := 1) (bc := 0) (bs := 0) (bc' := 0) (bs' := 0) (as := []) (rest := []) (dcd tokJ0_charAt_5068e rfl) okJ0_isLatin1_aae02 rfl inJ0_isLatin1_aae02 seJ0_isLatin1_aae02 lk15_492 rfl (by decide) (Nat.le_of_ble_eq_true rfl) (ct_isLatin1 h) (fun v h' hq hn => ?_)
  obtain ⟨rfl, rfl⟩ := hq
  refine Ev.steps tokJ0_charAt_5068e 2 (P := True) (pc' := 8) (lv' := [some (.ref 1000001), some (.int i)]) (st' := [.ref 1000001]) (h' := h') rfl trivial ?_
  refine ev_sval (dcd tokJ0_charAt_5068e rfl) sl_v ?_
  refine Ev.steps tokJ0_charAt_5068e 1 (P := True) (pc' := 12) (lv' := [some (.ref 1000001), some (.int i)]) (st' := [.int i, .ref 1000002]) (h' := h') rfl trivial ?_
  refine ev_callS (N := mJ1_charAt_3b067) (d' := 3) (bc := 0) (bs := 0) (bc' := 0) (bs' := 0) (as := [.ref 1000002, .int i]) (rest := []) (dcd tokJ0_charAt_5068e rfl) okJ1_charAt_3b067 inJ1_charAt_3b067 lk15_495 rfl (by decide) (Nat.le_of_ble_eq_true rfl) (ct_lat h' i hi) (fun v h' hq hn => ?_)
  obtain ⟨rfl, rfl⟩ := hq
  exact Ev.retn tokJ0_charAt_5068e rfl rfl (chA_small _ (in122 hi).1).2.2.2 ⟨rfl, rfl⟩
end STR
