section CASES
def mLaw (L : Nat) (xs : Nat → Int32) : MI := (12, yL_law, cL_law, 4, some .boolean, tbL_law, some (L, xs))
theorem tokLaw (L : Nat) (xs : Nat → Int32) : TOK (mLaw L xs) := by
  refine TOK.of ?_
  show (tbL_law.all fun q => decide (decode cL_law q.1 = .ok q.2)) = true
  have p10 : ((tbL_law.drop 1000).all fun q => decide (decode cL_law q.1 = .ok q.2)) = true := drop_all _ 100 tkL_law_10 (by decide +kernel)
  have p9 : ((tbL_law.drop 900).all fun q => decide (decode cL_law q.1 = .ok q.2)) = true := drop_all _ 100 tkL_law_9 (by rw [List.drop_drop]; exact p10)
  have p8 : ((tbL_law.drop 800).all fun q => decide (decode cL_law q.1 = .ok q.2)) = true := drop_all _ 100 tkL_law_8 (by rw [List.drop_drop]; exact p9)
  have p7 : ((tbL_law.drop 700).all fun q => decide (decode cL_law q.1 = .ok q.2)) = true := drop_all _ 100 tkL_law_7 (by rw [List.drop_drop]; exact p8)
  have p6 : ((tbL_law.drop 600).all fun q => decide (decode cL_law q.1 = .ok q.2)) = true := drop_all _ 100 tkL_law_6 (by rw [List.drop_drop]; exact p7)
  have p5 : ((tbL_law.drop 500).all fun q => decide (decode cL_law q.1 = .ok q.2)) = true := drop_all _ 100 tkL_law_5 (by rw [List.drop_drop]; exact p6)
  have p4 : ((tbL_law.drop 400).all fun q => decide (decode cL_law q.1 = .ok q.2)) = true := drop_all _ 100 tkL_law_4 (by rw [List.drop_drop]; exact p5)
  have p3 : ((tbL_law.drop 300).all fun q => decide (decode cL_law q.1 = .ok q.2)) = true := drop_all _ 100 tkL_law_3 (by rw [List.drop_drop]; exact p4)
  have p2 : ((tbL_law.drop 200).all fun q => decide (decode cL_law q.1 = .ok q.2)) = true := drop_all _ 100 tkL_law_2 (by rw [List.drop_drop]; exact p3)
  have p1 : ((tbL_law.drop 100).all fun q => decide (decode cL_law q.1 = .ok q.2)) = true := drop_all _ 100 tkL_law_1 (by rw [List.drop_drop]; exact p2)
  have p0 : ((tbL_law.drop 0).all fun q => decide (decode cL_law q.1 = .ok q.2)) = true := drop_all _ 100 tkL_law_0 (by rw [List.drop_drop]; exact p1)
  exact p0
theorem sc_in {i k L : Nat} (h : i + k < L) (hL : L ≤ 3072) : vp_in (iN i + iN k) L := by rw [iN_add]; exact inb_ok (inb_t h (by omega))
theorem sc_at (xs : Nat → Int32) {i k : Nat} (h : i + k < 4000) : xs (iN i + iN k).toNatClampNeg = xs (i + k) := by rw [iN_add, iN_nat (by omega)]
theorem sc_at1 (xs : Nat → Int32) {i : Nat} (h : i + 1 < 4000) : xs (iN i + 1).toNatClampNeg = xs (i + 1) := sc_at xs (k := 1) h
theorem sc_at2 (xs : Nat → Int32) {i : Nat} (h : i + 2 < 4000) : xs (iN i + 2).toNatClampNeg = xs (i + 2) := sc_at xs (k := 2) h
theorem sc_at3 (xs : Nat → Int32) {i : Nat} (h : i + 3 < 4000) : xs (iN i + 3).toNatClampNeg = xs (i + 3) := sc_at xs (k := 3) h
theorem sc_at4 (xs : Nat → Int32) {i : Nat} (h : i + 4 < 4000) : xs (iN i + 4).toNatClampNeg = xs (i + 4) := sc_at xs (k := 4) h
theorem sc_at5 (xs : Nat → Int32) {i : Nat} (h : i + 5 < 4000) : xs (iN i + 5).toNatClampNeg = xs (i + 5) := sc_at xs (k := 5) h
set_option maxRecDepth 60000 in
theorem cs_0 (L : Nat) (xs : Nat → Int32) (i : Nat) (hi : i + 6 ≤ L) (hL : L ≤ 3072) {x : XT} {S : ST} (h : Rel x S S) (hx : XW x) (hlt : 158 + x.1 + 5 < 1000000) {bc bs : Nat} {Q : Option Value → HP → Prop} (k : ∀ x' S', Rel x' S' S' → XW x' → x'.1 ≤ x.1 + 5 → Ev (mLaw L xs) 131 bc bs 1535 [some (.ref 1000000), some (.ref 0), some (.ref 130), some (.int (iN i))] [] (mkS x' S') Q) : Ev (mLaw L xs) 131 (bc + 5) (bs + 500) 216 [some (.ref 1000000), some (.ref 0), some (.ref 130), some (.int (iN i))] [] (mkS x S) Q := by
  have T := tokLaw L xs
  obtain ⟨r, S1, S2, e1, e2, e3⟩ := b_gate x S h (xs (i + 1)) (xs (i + 2)) (xs (i + 3)) (xs (i + 4))
  refine Ev.wd (bc := bc) (bs := bs) ?_ (by omega) (by omega)
  refine Ev.steps T 5 (P := True) (pc' := 221) (lv' := [some (.ref 1000000), some (.ref 0), some (.ref 130), some (.int (iN i))]) (st' := [.int (iN i + 1), .ref 1000000, .ref 0]) (h' := mkS x S) rfl trivial ?_
  refine ev_sld (dcd T rfl) rfl (sc_in (k := 1) (by omega) hL) ?_
  rw [sc_at1 xs (by omega)]
  refine Ev.steps T 4 (P := True) (pc' := 226) (lv' := [some (.ref 1000000), some (.ref 0), some (.ref 130), some (.int (iN i))]) (st' := [.int (iN i + 2), .ref 1000000, .int (xs (i + 1)), .ref 0]) (h' := mkS x S) rfl trivial ?_
  refine ev_sld (dcd T rfl) rfl (sc_in (k := 2) (by omega) hL) ?_
  rw [sc_at2 xs (by omega)]
  refine Ev.steps T 4 (P := True) (pc' := 231) (lv' := [some (.ref 1000000), some (.ref 0), some (.ref 130), some (.int (iN i))]) (st' := [.int (iN i + 3), .ref 1000000, .int (xs (i + 2)), .int (xs (i + 1)), .ref 0]) (h' := mkS x S) rfl trivial ?_
  refine ev_sld (dcd T rfl) rfl (sc_in (k := 3) (by omega) hL) ?_
  rw [sc_at3 xs (by omega)]
  refine Ev.steps T 4 (P := True) (pc' := 236) (lv' := [some (.ref 1000000), some (.ref 0), some (.ref 130), some (.int (iN i))]) (st' := [.int (iN i + 4), .ref 1000000, .int (xs (i + 3)), .int (xs (i + 2)), .int (xs (i + 1)), .ref 0]) (h' := mkS x S) rfl trivial ?_
  refine ev_sld (dcd T rfl) rfl (sc_in (k := 4) (by omega) hL) ?_
  rw [sc_at4 xs (by omega)]
  refine ev_callV (N := mX10_gate) (d' := 3) (bc := bc) (bs := bs) (bc' := 0) (bs' := 0) (as := [.int (xs (i + 1)), .int (xs (i + 2)), .int (xs (i + 3)), .int (xs (i + 4))]) (rest := []) (a := 0) (ci := 10) (dcd T rfl) okX10_gate inX10_gate seX10_gate lk12_13 rfl (by decide) (Nat.le_of_ble_eq_true rfl) rfl ⟨by decide, rfl⟩ (gpX10_gate_0 x S (xs (i + 1)) (xs (i + 2)) (xs (i + 3)) (xs (i + 4)) _ _ e1) (fun v h' hq hn => ?_)
  obtain ⟨rfl, rfl⟩ := hq
  refine Ev.steps T 5 (P := True) (pc' := 245) (lv' := [some (.ref 1000000), some (.ref 0), some (.ref 130), some (.int (iN i))]) (st' := [.int (iN i + 1), .ref 1000000, .ref 130, .int r]) (h' := mkS x S1) rfl trivial ?_
  refine ev_sld (dcd T rfl) rfl (sc_in (k := 1) (by omega) hL) ?_
  rw [sc_at1 xs (by omega)]
  refine Ev.steps T 4 (P := True) (pc' := 250) (lv' := [some (.ref 1000000), some (.ref 0), some (.ref 130), some (.int (iN i))]) (st' := [.int (iN i + 2), .ref 1000000, .int (xs (i + 1)), .ref 130, .int r]) (h' := mkS x S1) rfl trivial ?_
  refine ev_sld (dcd T rfl) rfl (sc_in (k := 2) (by omega) hL) ?_
  rw [sc_at2 xs (by omega)]
  refine Ev.steps T 4 (P := True) (pc' := 255) (lv' := [some (.ref 1000000), some (.ref 0), some (.ref 130), some (.int (iN i))]) (st' := [.int (iN i + 3), .ref 1000000, .int (xs (i + 2)), .int (xs (i + 1)), .ref 130, .int r]) (h' := mkS x S1) rfl trivial ?_
  refine ev_sld (dcd T rfl) rfl (sc_in (k := 3) (by omega) hL) ?_
  rw [sc_at3 xs (by omega)]
  refine Ev.steps T 4 (P := True) (pc' := 260) (lv' := [some (.ref 1000000), some (.ref 0), some (.ref 130), some (.int (iN i))]) (st' := [.int (iN i + 4), .ref 1000000, .int (xs (i + 3)), .int (xs (i + 2)), .int (xs (i + 1)), .ref 130, .int r]) (h' := mkS x S1) rfl trivial ?_
  refine ev_sld (dcd T rfl) rfl (sc_in (k := 4) (by omega) hL) ?_
  rw [sc_at4 xs (by omega)]
  refine ev_callV (N := mX11_gate) (d' := 4) (bc := bc) (bs := bs) (bc' := 0) (bs' := 0) (as := [.int (xs (i + 1)), .int (xs (i + 2)), .int (xs (i + 3)), .int (xs (i + 4))]) (rest := [.int r]) (a := 130) (ci := 11) (dcd T rfl) okX11_gate inX11_gate seX11_gate lk12_17 rfl (by decide) (Nat.le_of_ble_eq_true rfl) rfl ⟨by decide, rfl⟩ (gpX11_gate_130 x S1 (xs (i + 1)) (xs (i + 2)) (xs (i + 3)) (xs (i + 4)) _ _ e2) (fun v h' hq hn => ?_)
  obtain ⟨rfl, rfl⟩ := hq
  refine Ev.steps T 1 (P := True) (pc' := if r = r then 1535 else 267) (lv' := [some (.ref 1000000), some (.ref 0), some (.ref 130), some (.int (iN i))]) (st' := []) (h' := mkS x S2) rfl trivial ?_
  rw [if_pos rfl]
  exact k x S2 e3 hx (by omega)
set_option maxRecDepth 60000 in
theorem cs_1 (L : Nat) (xs : Nat → Int32) (i : Nat) (hi : i + 6 ≤ L) (hL : L ≤ 3072) {x : XT} {S : ST} (h : Rel x S S) (hx : XW x) (hlt : 158 + x.1 + 5 < 1000000) {bc bs : Nat} {Q : Option Value → HP → Prop} (k : ∀ x' S', Rel x' S' S' → XW x' → x'.1 ≤ x.1 + 5 → Ev (mLaw L xs) 131 bc bs 1535 [some (.ref 1000000), some (.ref 0), some (.ref 130), some (.int (iN i))] [] (mkS x' S') Q) : Ev (mLaw L xs) 131 (bc + 5) (bs + 500) 269 [some (.ref 1000000), some (.ref 0), some (.ref 130), some (.int (iN i))] [] (mkS x S) Q := by
  have T := tokLaw L xs
  obtain ⟨r, S1, S2, e1, e2, e3⟩ := b_at x S h (xs (i + 1)) (xs (i + 2))
  refine Ev.wd (bc := bc) (bs := bs) ?_ (by omega) (by omega)
  refine Ev.steps T 5 (P := True) (pc' := 274) (lv' := [some (.ref 1000000), some (.ref 0), some (.ref 130), some (.int (iN i))]) (st' := [.int (iN i + 1), .ref 1000000, .ref 0]) (h' := mkS x S) rfl trivial ?_
  refine ev_sld (dcd T rfl) rfl (sc_in (k := 1) (by omega) hL) ?_
  rw [sc_at1 xs (by omega)]
  refine Ev.steps T 4 (P := True) (pc' := 279) (lv' := [some (.ref 1000000), some (.ref 0), some (.ref 130), some (.int (iN i))]) (st' := [.int (iN i + 2), .ref 1000000, .int (xs (i + 1)), .ref 0]) (h' := mkS x S) rfl trivial ?_
  refine ev_sld (dcd T rfl) rfl (sc_in (k := 2) (by omega) hL) ?_
  rw [sc_at2 xs (by omega)]
  refine ev_callV (N := mX10_at) (d' := 2) (bc := bc) (bs := bs) (bc' := 0) (bs' := 0) (as := [.int (xs (i + 1)), .int (xs (i + 2))]) (rest := []) (a := 0) (ci := 10) (dcd T rfl) okX10_at inX10_at seX10_at lk12_18 rfl (by decide) (Nat.le_of_ble_eq_true rfl) rfl ⟨by decide, rfl⟩ (gpX10_at_0 x S (xs (i + 1)) (xs (i + 2)) _ _ e1) (fun v h' hq hn => ?_)
  obtain ⟨rfl, rfl⟩ := hq
  refine Ev.steps T 5 (P := True) (pc' := 288) (lv' := [some (.ref 1000000), some (.ref 0), some (.ref 130), some (.int (iN i))]) (st' := [.int (iN i + 1), .ref 1000000, .ref 130, .int r]) (h' := mkS x S1) rfl trivial ?_
  refine ev_sld (dcd T rfl) rfl (sc_in (k := 1) (by omega) hL) ?_
  rw [sc_at1 xs (by omega)]
  refine Ev.steps T 4 (P := True) (pc' := 293) (lv' := [some (.ref 1000000), some (.ref 0), some (.ref 130), some (.int (iN i))]) (st' := [.int (iN i + 2), .ref 1000000, .int (xs (i + 1)), .ref 130, .int r]) (h' := mkS x S1) rfl trivial ?_
  refine ev_sld (dcd T rfl) rfl (sc_in (k := 2) (by omega) hL) ?_
  rw [sc_at2 xs (by omega)]
  refine ev_callV (N := mX11_at) (d' := 3) (bc := bc) (bs := bs) (bc' := 0) (bs' := 0) (as := [.int (xs (i + 1)), .int (xs (i + 2))]) (rest := [.int r]) (a := 130) (ci := 11) (dcd T rfl) okX11_at inX11_at seX11_at lk12_22 rfl (by decide) (Nat.le_of_ble_eq_true rfl) rfl ⟨by decide, rfl⟩ (gpX11_at_130 x S1 (xs (i + 1)) (xs (i + 2)) _ _ e2) (fun v h' hq hn => ?_)
  obtain ⟨rfl, rfl⟩ := hq
  refine Ev.steps T 1 (P := True) (pc' := if r = r then 1535 else 300) (lv' := [some (.ref 1000000), some (.ref 0), some (.ref 130), some (.int (iN i))]) (st' := []) (h' := mkS x S2) rfl trivial ?_
  rw [if_pos rfl]
  exact k x S2 e3 hx (by omega)
set_option maxRecDepth 60000 in
theorem cs_2 (L : Nat) (xs : Nat → Int32) (i : Nat) (hi : i + 6 ≤ L) (hL : L ≤ 3072) {x : XT} {S : ST} (h : Rel x S S) (hx : XW x) (hlt : 158 + x.1 + 5 < 1000000) {bc bs : Nat} {Q : Option Value → HP → Prop} (k : ∀ x' S', Rel x' S' S' → XW x' → x'.1 ≤ x.1 + 5 → Ev (mLaw L xs) 131 bc bs 1535 [some (.ref 1000000), some (.ref 0), some (.ref 130), some (.int (iN i))] [] (mkS x' S') Q) : Ev (mLaw L xs) 131 (bc + 5) (bs + 500) 302 [some (.ref 1000000), some (.ref 0), some (.ref 130), some (.int (iN i))] [] (mkS x S) Q := by
  have T := tokLaw L xs
  obtain ⟨r, S1, S2, e1, e2, e3⟩ := b_goer x S h (xs (i + 1)) (xs (i + 2)) (xs (i + 3))
  refine Ev.wd (bc := bc) (bs := bs) ?_ (by omega) (by omega)
  refine Ev.steps T 5 (P := True) (pc' := 307) (lv' := [some (.ref 1000000), some (.ref 0), some (.ref 130), some (.int (iN i))]) (st' := [.int (iN i + 1), .ref 1000000, .ref 0]) (h' := mkS x S) rfl trivial ?_
  refine ev_sld (dcd T rfl) rfl (sc_in (k := 1) (by omega) hL) ?_
  rw [sc_at1 xs (by omega)]
  refine Ev.steps T 4 (P := True) (pc' := 312) (lv' := [some (.ref 1000000), some (.ref 0), some (.ref 130), some (.int (iN i))]) (st' := [.int (iN i + 2), .ref 1000000, .int (xs (i + 1)), .ref 0]) (h' := mkS x S) rfl trivial ?_
  refine ev_sld (dcd T rfl) rfl (sc_in (k := 2) (by omega) hL) ?_
  rw [sc_at2 xs (by omega)]
  refine Ev.steps T 4 (P := True) (pc' := 317) (lv' := [some (.ref 1000000), some (.ref 0), some (.ref 130), some (.int (iN i))]) (st' := [.int (iN i + 3), .ref 1000000, .int (xs (i + 2)), .int (xs (i + 1)), .ref 0]) (h' := mkS x S) rfl trivial ?_
  refine ev_sld (dcd T rfl) rfl (sc_in (k := 3) (by omega) hL) ?_
  rw [sc_at3 xs (by omega)]
  refine ev_callV (N := mX10_goer) (d' := 3) (bc := bc) (bs := bs) (bc' := 0) (bs' := 0) (as := [.int (xs (i + 1)), .int (xs (i + 2)), .int (xs (i + 3))]) (rest := []) (a := 0) (ci := 10) (dcd T rfl) okX10_goer inX10_goer seX10_goer lk12_23 rfl (by decide) (Nat.le_of_ble_eq_true rfl) rfl ⟨by decide, rfl⟩ (gpX10_goer_0 x S (xs (i + 1)) (xs (i + 2)) (xs (i + 3)) _ _ e1) (fun v h' hq hn => ?_)
  obtain ⟨rfl, rfl⟩ := hq
  refine Ev.steps T 5 (P := True) (pc' := 326) (lv' := [some (.ref 1000000), some (.ref 0), some (.ref 130), some (.int (iN i))]) (st' := [.int (iN i + 1), .ref 1000000, .ref 130, .int r]) (h' := mkS x S1) rfl trivial ?_
  refine ev_sld (dcd T rfl) rfl (sc_in (k := 1) (by omega) hL) ?_
  rw [sc_at1 xs (by omega)]
  refine Ev.steps T 4 (P := True) (pc' := 331) (lv' := [some (.ref 1000000), some (.ref 0), some (.ref 130), some (.int (iN i))]) (st' := [.int (iN i + 2), .ref 1000000, .int (xs (i + 1)), .ref 130, .int r]) (h' := mkS x S1) rfl trivial ?_
  refine ev_sld (dcd T rfl) rfl (sc_in (k := 2) (by omega) hL) ?_
  rw [sc_at2 xs (by omega)]
  refine Ev.steps T 4 (P := True) (pc' := 336) (lv' := [some (.ref 1000000), some (.ref 0), some (.ref 130), some (.int (iN i))]) (st' := [.int (iN i + 3), .ref 1000000, .int (xs (i + 2)), .int (xs (i + 1)), .ref 130, .int r]) (h' := mkS x S1) rfl trivial ?_
  refine ev_sld (dcd T rfl) rfl (sc_in (k := 3) (by omega) hL) ?_
  rw [sc_at3 xs (by omega)]
  refine ev_callV (N := mX11_goer) (d' := 3) (bc := bc) (bs := bs) (bc' := 0) (bs' := 0) (as := [.int (xs (i + 1)), .int (xs (i + 2)), .int (xs (i + 3))]) (rest := [.int r]) (a := 130) (ci := 11) (dcd T rfl) okX11_goer inX11_goer seX11_goer lk12_27 rfl (by decide) (Nat.le_of_ble_eq_true rfl) rfl ⟨by decide, rfl⟩ (gpX11_goer_130 x S1 (xs (i + 1)) (xs (i + 2)) (xs (i + 3)) _ _ e2) (fun v h' hq hn => ?_)
  obtain ⟨rfl, rfl⟩ := hq
  refine Ev.steps T 1 (P := True) (pc' := if r = r then 1535 else 343) (lv' := [some (.ref 1000000), some (.ref 0), some (.ref 130), some (.int (iN i))]) (st' := []) (h' := mkS x S2) rfl trivial ?_
  rw [if_pos rfl]
  exact k x S2 e3 hx (by omega)
set_option maxRecDepth 60000 in
theorem cs_3 (L : Nat) (xs : Nat → Int32) (i : Nat) (hi : i + 6 ≤ L) (hL : L ≤ 3072) {x : XT} {S : ST} (h : Rel x S S) (hx : XW x) (hlt : 158 + x.1 + 5 < 1000000) {bc bs : Nat} {Q : Option Value → HP → Prop} (k : ∀ x' S', Rel x' S' S' → XW x' → x'.1 ≤ x.1 + 5 → Ev (mLaw L xs) 131 bc bs 1535 [some (.ref 1000000), some (.ref 0), some (.ref 130), some (.int (iN i))] [] (mkS x' S') Q) : Ev (mLaw L xs) 131 (bc + 5) (bs + 500) 345 [some (.ref 1000000), some (.ref 0), some (.ref 130), some (.int (iN i))] [] (mkS x S) Q := by
  have T := tokLaw L xs
  obtain ⟨r, S1, S2, e1, e2, e3⟩ := b_of x S h (xs (i + 1)) (xs (i + 2))
  refine Ev.wd (bc := bc) (bs := bs) ?_ (by omega) (by omega)
  refine Ev.steps T 5 (P := True) (pc' := 350) (lv' := [some (.ref 1000000), some (.ref 0), some (.ref 130), some (.int (iN i))]) (st' := [.int (iN i + 1), .ref 1000000, .ref 0]) (h' := mkS x S) rfl trivial ?_
  refine ev_sld (dcd T rfl) rfl (sc_in (k := 1) (by omega) hL) ?_
  rw [sc_at1 xs (by omega)]
  refine Ev.steps T 4 (P := True) (pc' := 355) (lv' := [some (.ref 1000000), some (.ref 0), some (.ref 130), some (.int (iN i))]) (st' := [.int (iN i + 2), .ref 1000000, .int (xs (i + 1)), .ref 0]) (h' := mkS x S) rfl trivial ?_
  refine ev_sld (dcd T rfl) rfl (sc_in (k := 2) (by omega) hL) ?_
  rw [sc_at2 xs (by omega)]
  refine ev_callV (N := mX10_of) (d' := 6) (bc := bc) (bs := bs) (bc' := 0) (bs' := 0) (as := [.int (xs (i + 1)), .int (xs (i + 2))]) (rest := []) (a := 0) (ci := 10) (dcd T rfl) okX10_of inX10_of seX10_of lk12_28 rfl (by decide) (Nat.le_of_ble_eq_true rfl) rfl ⟨by decide, rfl⟩ (gpX10_of_0 x S (xs (i + 1)) (xs (i + 2)) _ _ e1) (fun v h' hq hn => ?_)
  obtain ⟨rfl, rfl⟩ := hq
  refine Ev.steps T 5 (P := True) (pc' := 364) (lv' := [some (.ref 1000000), some (.ref 0), some (.ref 130), some (.int (iN i))]) (st' := [.int (iN i + 1), .ref 1000000, .ref 130, .int r]) (h' := mkS x S1) rfl trivial ?_
  refine ev_sld (dcd T rfl) rfl (sc_in (k := 1) (by omega) hL) ?_
  rw [sc_at1 xs (by omega)]
  refine Ev.steps T 4 (P := True) (pc' := 369) (lv' := [some (.ref 1000000), some (.ref 0), some (.ref 130), some (.int (iN i))]) (st' := [.int (iN i + 2), .ref 1000000, .int (xs (i + 1)), .ref 130, .int r]) (h' := mkS x S1) rfl trivial ?_
  refine ev_sld (dcd T rfl) rfl (sc_in (k := 2) (by omega) hL) ?_
  rw [sc_at2 xs (by omega)]
  refine ev_callV (N := mX11_of) (d' := 128) (bc := bc) (bs := bs) (bc' := 0) (bs' := 0) (as := [.int (xs (i + 1)), .int (xs (i + 2))]) (rest := [.int r]) (a := 130) (ci := 11) (dcd T rfl) okX11_of inX11_of seX11_of lk12_31 rfl (by decide) (Nat.le_of_ble_eq_true rfl) rfl ⟨by decide, rfl⟩ (gpX11_of_130 x S1 (xs (i + 1)) (xs (i + 2)) _ _ e2) (fun v h' hq hn => ?_)
  obtain ⟨rfl, rfl⟩ := hq
  refine Ev.steps T 1 (P := True) (pc' := if r = r then 1535 else 376) (lv' := [some (.ref 1000000), some (.ref 0), some (.ref 130), some (.int (iN i))]) (st' := []) (h' := mkS x S2) rfl trivial ?_
  rw [if_pos rfl]
  exact k x S2 e3 hx (by omega)
set_option maxRecDepth 60000 in
theorem cs_4 (L : Nat) (xs : Nat → Int32) (i : Nat) (hi : i + 6 ≤ L) (hL : L ≤ 3072) {x : XT} {S : ST} (h : Rel x S S) (hx : XW x) (hlt : 158 + x.1 + 5 < 1000000) {bc bs : Nat} {Q : Option Value → HP → Prop} (k : ∀ x' S', Rel x' S' S' → XW x' → x'.1 ≤ x.1 + 5 → Ev (mLaw L xs) 131 bc bs 1535 [some (.ref 1000000), some (.ref 0), some (.ref 130), some (.int (iN i))] [] (mkS x' S') Q) : Ev (mLaw L xs) 131 (bc + 5) (bs + 500) 378 [some (.ref 1000000), some (.ref 0), some (.ref 130), some (.int (iN i))] [] (mkS x S) Q := by
  have T := tokLaw L xs
  obtain ⟨r, S1, S2, e1, e2, e3⟩ := b_asks x S h (xs (i + 1)) (xs (i + 2)) (xs (i + 3)) (xs (i + 4))
  refine Ev.wd (bc := bc) (bs := bs) ?_ (by omega) (by omega)
  refine Ev.steps T 5 (P := True) (pc' := 383) (lv' := [some (.ref 1000000), some (.ref 0), some (.ref 130), some (.int (iN i))]) (st' := [.int (iN i + 1), .ref 1000000, .ref 0]) (h' := mkS x S) rfl trivial ?_
  refine ev_sld (dcd T rfl) rfl (sc_in (k := 1) (by omega) hL) ?_
  rw [sc_at1 xs (by omega)]
  refine Ev.steps T 4 (P := True) (pc' := 388) (lv' := [some (.ref 1000000), some (.ref 0), some (.ref 130), some (.int (iN i))]) (st' := [.int (iN i + 2), .ref 1000000, .int (xs (i + 1)), .ref 0]) (h' := mkS x S) rfl trivial ?_
  refine ev_sld (dcd T rfl) rfl (sc_in (k := 2) (by omega) hL) ?_
  rw [sc_at2 xs (by omega)]
  refine Ev.steps T 4 (P := True) (pc' := 393) (lv' := [some (.ref 1000000), some (.ref 0), some (.ref 130), some (.int (iN i))]) (st' := [.int (iN i + 3), .ref 1000000, .int (xs (i + 2)), .int (xs (i + 1)), .ref 0]) (h' := mkS x S) rfl trivial ?_
  refine ev_sld (dcd T rfl) rfl (sc_in (k := 3) (by omega) hL) ?_
  rw [sc_at3 xs (by omega)]
  refine Ev.steps T 4 (P := True) (pc' := 398) (lv' := [some (.ref 1000000), some (.ref 0), some (.ref 130), some (.int (iN i))]) (st' := [.int (iN i + 4), .ref 1000000, .int (xs (i + 3)), .int (xs (i + 2)), .int (xs (i + 1)), .ref 0]) (h' := mkS x S) rfl trivial ?_
  refine ev_sld (dcd T rfl) rfl (sc_in (k := 4) (by omega) hL) ?_
  rw [sc_at4 xs (by omega)]
  refine ev_callV (N := mX10_asks) (d' := 4) (bc := bc) (bs := bs) (bc' := 0) (bs' := 0) (as := [.int (xs (i + 1)), .int (xs (i + 2)), .int (xs (i + 3)), .int (xs (i + 4))]) (rest := []) (a := 0) (ci := 10) (dcd T rfl) okX10_asks inX10_asks seX10_asks lk12_32 rfl (by decide) (Nat.le_of_ble_eq_true rfl) rfl ⟨by decide, rfl⟩ (gpX10_asks_0 x S (xs (i + 1)) (xs (i + 2)) (xs (i + 3)) (xs (i + 4)) _ _ e1) (fun v h' hq hn => ?_)
  obtain ⟨rfl, rfl⟩ := hq
  refine Ev.steps T 5 (P := True) (pc' := 407) (lv' := [some (.ref 1000000), some (.ref 0), some (.ref 130), some (.int (iN i))]) (st' := [.int (iN i + 1), .ref 1000000, .ref 130, .int r]) (h' := mkS x S1) rfl trivial ?_
  refine ev_sld (dcd T rfl) rfl (sc_in (k := 1) (by omega) hL) ?_
  rw [sc_at1 xs (by omega)]
  refine Ev.steps T 4 (P := True) (pc' := 412) (lv' := [some (.ref 1000000), some (.ref 0), some (.ref 130), some (.int (iN i))]) (st' := [.int (iN i + 2), .ref 1000000, .int (xs (i + 1)), .ref 130, .int r]) (h' := mkS x S1) rfl trivial ?_
  refine ev_sld (dcd T rfl) rfl (sc_in (k := 2) (by omega) hL) ?_
  rw [sc_at2 xs (by omega)]
  refine Ev.steps T 4 (P := True) (pc' := 417) (lv' := [some (.ref 1000000), some (.ref 0), some (.ref 130), some (.int (iN i))]) (st' := [.int (iN i + 3), .ref 1000000, .int (xs (i + 2)), .int (xs (i + 1)), .ref 130, .int r]) (h' := mkS x S1) rfl trivial ?_
  refine ev_sld (dcd T rfl) rfl (sc_in (k := 3) (by omega) hL) ?_
  rw [sc_at3 xs (by omega)]
  refine Ev.steps T 4 (P := True) (pc' := 422) (lv' := [some (.ref 1000000), some (.ref 0), some (.ref 130), some (.int (iN i))]) (st' := [.int (iN i + 4), .ref 1000000, .int (xs (i + 3)), .int (xs (i + 2)), .int (xs (i + 1)), .ref 130, .int r]) (h' := mkS x S1) rfl trivial ?_
  refine ev_sld (dcd T rfl) rfl (sc_in (k := 4) (by omega) hL) ?_
  rw [sc_at4 xs (by omega)]
  refine ev_callV (N := mX11_asks) (d' := 126) (bc := bc) (bs := bs) (bc' := 0) (bs' := 0) (as := [.int (xs (i + 1)), .int (xs (i + 2)), .int (xs (i + 3)), .int (xs (i + 4))]) (rest := [.int r]) (a := 130) (ci := 11) (dcd T rfl) okX11_asks inX11_asks seX11_asks lk12_35 rfl (by decide) (Nat.le_of_ble_eq_true rfl) rfl ⟨by decide, rfl⟩ (gpX11_asks_130 x S1 (xs (i + 1)) (xs (i + 2)) (xs (i + 3)) (xs (i + 4)) _ _ e2) (fun v h' hq hn => ?_)
  obtain ⟨rfl, rfl⟩ := hq
  refine Ev.steps T 1 (P := True) (pc' := if r = r then 1535 else 429) (lv' := [some (.ref 1000000), some (.ref 0), some (.ref 130), some (.int (iN i))]) (st' := []) (h' := mkS x S2) rfl trivial ?_
  rw [if_pos rfl]
  exact k x S2 e3 hx (by omega)
set_option maxRecDepth 60000 in
theorem cs_5 (L : Nat) (xs : Nat → Int32) (i : Nat) (hi : i + 6 ≤ L) (hL : L ≤ 3072) {x : XT} {S : ST} (h : Rel x S S) (hx : XW x) (hlt : 158 + x.1 + 5 < 1000000) {bc bs : Nat} {Q : Option Value → HP → Prop} (k : ∀ x' S', Rel x' S' S' → XW x' → x'.1 ≤ x.1 + 5 → Ev (mLaw L xs) 131 bc bs 1535 [some (.ref 1000000), some (.ref 0), some (.ref 130), some (.int (iN i))] [] (mkS x' S') Q) : Ev (mLaw L xs) 131 (bc + 5) (bs + 500) 431 [some (.ref 1000000), some (.ref 0), some (.ref 130), some (.int (iN i))] [] (mkS x S) Q := by
  have T := tokLaw L xs
  obtain ⟨r, S1, S2, e1, e2, e3⟩ := b_terms x S h (xs (i + 1)) (xs (i + 2))
  refine Ev.wd (bc := bc) (bs := bs) ?_ (by omega) (by omega)
  refine Ev.steps T 5 (P := True) (pc' := 436) (lv' := [some (.ref 1000000), some (.ref 0), some (.ref 130), some (.int (iN i))]) (st' := [.int (iN i + 1), .ref 1000000, .ref 0]) (h' := mkS x S) rfl trivial ?_
  refine ev_sld (dcd T rfl) rfl (sc_in (k := 1) (by omega) hL) ?_
  rw [sc_at1 xs (by omega)]
  refine Ev.steps T 4 (P := True) (pc' := 441) (lv' := [some (.ref 1000000), some (.ref 0), some (.ref 130), some (.int (iN i))]) (st' := [.int (iN i + 2), .ref 1000000, .int (xs (i + 1)), .ref 0]) (h' := mkS x S) rfl trivial ?_
  refine ev_sld (dcd T rfl) rfl (sc_in (k := 2) (by omega) hL) ?_
  rw [sc_at2 xs (by omega)]
  refine ev_callV (N := mX10_terms) (d' := 3) (bc := bc) (bs := bs) (bc' := 0) (bs' := 0) (as := [.int (xs (i + 1)), .int (xs (i + 2))]) (rest := []) (a := 0) (ci := 10) (dcd T rfl) okX10_terms inX10_terms seX10_terms lk12_36 rfl (by decide) (Nat.le_of_ble_eq_true rfl) rfl ⟨by decide, rfl⟩ (gpX10_terms_0 x S (xs (i + 1)) (xs (i + 2)) _ _ e1) (fun v h' hq hn => ?_)
  obtain ⟨rfl, rfl⟩ := hq
  refine Ev.steps T 5 (P := True) (pc' := 450) (lv' := [some (.ref 1000000), some (.ref 0), some (.ref 130), some (.int (iN i))]) (st' := [.int (iN i + 1), .ref 1000000, .ref 130, .int r]) (h' := mkS x S1) rfl trivial ?_
  refine ev_sld (dcd T rfl) rfl (sc_in (k := 1) (by omega) hL) ?_
  rw [sc_at1 xs (by omega)]
  refine Ev.steps T 4 (P := True) (pc' := 455) (lv' := [some (.ref 1000000), some (.ref 0), some (.ref 130), some (.int (iN i))]) (st' := [.int (iN i + 2), .ref 1000000, .int (xs (i + 1)), .ref 130, .int r]) (h' := mkS x S1) rfl trivial ?_
  refine ev_sld (dcd T rfl) rfl (sc_in (k := 2) (by omega) hL) ?_
  rw [sc_at2 xs (by omega)]
  refine ev_callV (N := mX11_terms) (d' := 3) (bc := bc) (bs := bs) (bc' := 0) (bs' := 0) (as := [.int (xs (i + 1)), .int (xs (i + 2))]) (rest := [.int r]) (a := 130) (ci := 11) (dcd T rfl) okX11_terms inX11_terms seX11_terms lk12_39 rfl (by decide) (Nat.le_of_ble_eq_true rfl) rfl ⟨by decide, rfl⟩ (gpX11_terms_130 x S1 (xs (i + 1)) (xs (i + 2)) _ _ e2) (fun v h' hq hn => ?_)
  obtain ⟨rfl, rfl⟩ := hq
  refine Ev.steps T 1 (P := True) (pc' := if r = r then 1535 else 462) (lv' := [some (.ref 1000000), some (.ref 0), some (.ref 130), some (.int (iN i))]) (st' := []) (h' := mkS x S2) rfl trivial ?_
  rw [if_pos rfl]
  exact k x S2 e3 hx (by omega)
end CASES
