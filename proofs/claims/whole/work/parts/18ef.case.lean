section CASES
set_option maxRecDepth 60000 in
theorem cs_36 (L : Nat) (xs : Nat → Int32) (i : Nat) (hi : i + 6 ≤ L) (hL : L ≤ 3072) {x : XT} {S : ST} (h : Rel x S S) (hx : XW x) (hlt : 158 + x.1 + 5 < 1000000) {bc bs : Nat} {Q : Option Value → HP → Prop} (k : ∀ x' S', Rel x' S' S' → XW x' → x'.1 ≤ x.1 + 5 → Ev (mLaw L xs) 131 bc bs 1535 [some (.ref 1000000), some (.ref 0), some (.ref 130), some (.int (iN i))] [] (mkS x' S') Q) : Ev (mLaw L xs) 131 (bc + 5) (bs + 500) 1387 [some (.ref 1000000), some (.ref 0), some (.ref 130), some (.int (iN i))] [] (mkS x S) Q := by
  have T := tokLaw L xs
  obtain ⟨r, S1, S2, e1, e2, e3⟩ := b_days x S h (xs (i + 1)) (xs (i + 2))
  refine Ev.wd (bc := bc) (bs := bs) ?_ (by omega) (by omega)
  refine Ev.steps T 5 (P := True) (pc' := 1392) (lv' := [some (.ref 1000000), some (.ref 0), some (.ref 130), some (.int (iN i))]) (st' := [.int (iN i + 1), .ref 1000000, .ref 0]) (h' := mkS x S) rfl trivial ?_
  refine ev_sld (dcd T rfl) rfl (sc_in (k := 1) (by omega) hL) ?_
  rw [sc_at1 xs (by omega)]
  refine Ev.steps T 4 (P := True) (pc' := 1397) (lv' := [some (.ref 1000000), some (.ref 0), some (.ref 130), some (.int (iN i))]) (st' := [.int (iN i + 2), .ref 1000000, .int (xs (i + 1)), .ref 0]) (h' := mkS x S) rfl trivial ?_
  refine ev_sld (dcd T rfl) rfl (sc_in (k := 2) (by omega) hL) ?_
  rw [sc_at2 xs (by omega)]
  refine ev_callV (N := mX10_days) (d' := 6) (bc := bc) (bs := bs) (bc' := 0) (bs' := 0) (as := [.int (xs (i + 1)), .int (xs (i + 2))]) (rest := []) (a := 0) (ci := 10) (dcd T rfl) okX10_days inX10_days seX10_days lk12_165 rfl (by decide) (Nat.le_of_ble_eq_true rfl) rfl ⟨by decide, rfl⟩ (gpX10_days_0 x S (xs (i + 1)) (xs (i + 2)) _ _ e1) (fun v h' hq hn => ?_)
  obtain ⟨rfl, rfl⟩ := hq
  refine Ev.steps T 5 (P := True) (pc' := 1406) (lv' := [some (.ref 1000000), some (.ref 0), some (.ref 130), some (.int (iN i))]) (st' := [.int (iN i + 1), .ref 1000000, .ref 130, .int r]) (h' := mkS x S1) rfl trivial ?_
  refine ev_sld (dcd T rfl) rfl (sc_in (k := 1) (by omega) hL) ?_
  rw [sc_at1 xs (by omega)]
  refine Ev.steps T 4 (P := True) (pc' := 1411) (lv' := [some (.ref 1000000), some (.ref 0), some (.ref 130), some (.int (iN i))]) (st' := [.int (iN i + 2), .ref 1000000, .int (xs (i + 1)), .ref 130, .int r]) (h' := mkS x S1) rfl trivial ?_
  refine ev_sld (dcd T rfl) rfl (sc_in (k := 2) (by omega) hL) ?_
  rw [sc_at2 xs (by omega)]
  refine ev_callV (N := mX11_days) (d' := 127) (bc := bc) (bs := bs) (bc' := 0) (bs' := 0) (as := [.int (xs (i + 1)), .int (xs (i + 2))]) (rest := [.int r]) (a := 130) (ci := 11) (dcd T rfl) okX11_days inX11_days seX11_days lk12_168 rfl (by decide) (Nat.le_of_ble_eq_true rfl) rfl ⟨by decide, rfl⟩ (gpX11_days_130 x S1 (xs (i + 1)) (xs (i + 2)) _ _ e2) (fun v h' hq hn => ?_)
  obtain ⟨rfl, rfl⟩ := hq
  refine Ev.steps T 1 (P := True) (pc' := if r = r then 1535 else 1418) (lv' := [some (.ref 1000000), some (.ref 0), some (.ref 130), some (.int (iN i))]) (st' := []) (h' := mkS x S2) rfl trivial ?_
  rw [if_pos rfl]
  exact k x S2 e3 hx (by omega)
set_option maxRecDepth 60000 in
theorem cs_37 (L : Nat) (xs : Nat → Int32) (i : Nat) (hi : i + 6 ≤ L) (hL : L ≤ 3072) {x : XT} {S : ST} (h : Rel x S S) (hx : XW x) (hlt : 158 + x.1 + 5 < 1000000) {bc bs : Nat} {Q : Option Value → HP → Prop} (k : ∀ x' S', Rel x' S' S' → XW x' → x'.1 ≤ x.1 + 5 → Ev (mLaw L xs) 131 bc bs 1535 [some (.ref 1000000), some (.ref 0), some (.ref 130), some (.int (iN i))] [] (mkS x' S') Q) : Ev (mLaw L xs) 131 (bc + 5) (bs + 500) 1420 [some (.ref 1000000), some (.ref 0), some (.ref 130), some (.int (iN i))] [] (mkS x S) Q := by
  have T := tokLaw L xs
  obtain ⟨r, S1, S2, e1, e2, e3⟩ := b_drawn x S h (xs (i + 1)) (xs (i + 2))
  refine Ev.wd (bc := bc) (bs := bs) ?_ (by omega) (by omega)
  refine Ev.steps T 5 (P := True) (pc' := 1425) (lv' := [some (.ref 1000000), some (.ref 0), some (.ref 130), some (.int (iN i))]) (st' := [.int (iN i + 1), .ref 1000000, .ref 0]) (h' := mkS x S) rfl trivial ?_
  refine ev_sld (dcd T rfl) rfl (sc_in (k := 1) (by omega) hL) ?_
  rw [sc_at1 xs (by omega)]
  refine Ev.steps T 4 (P := True) (pc' := 1430) (lv' := [some (.ref 1000000), some (.ref 0), some (.ref 130), some (.int (iN i))]) (st' := [.int (iN i + 2), .ref 1000000, .int (xs (i + 1)), .ref 0]) (h' := mkS x S) rfl trivial ?_
  refine ev_sld (dcd T rfl) rfl (sc_in (k := 2) (by omega) hL) ?_
  rw [sc_at2 xs (by omega)]
  refine ev_callV (N := mX10_drawn) (d' := 3) (bc := bc) (bs := bs) (bc' := 0) (bs' := 0) (as := [.int (xs (i + 1)), .int (xs (i + 2))]) (rest := []) (a := 0) (ci := 10) (dcd T rfl) okX10_drawn inX10_drawn seX10_drawn lk12_169 rfl (by decide) (Nat.le_of_ble_eq_true rfl) rfl ⟨by decide, rfl⟩ (gpX10_drawn_0 x S (xs (i + 1)) (xs (i + 2)) _ _ e1) (fun v h' hq hn => ?_)
  obtain ⟨rfl, rfl⟩ := hq
  refine Ev.steps T 5 (P := True) (pc' := 1439) (lv' := [some (.ref 1000000), some (.ref 0), some (.ref 130), some (.int (iN i))]) (st' := [.int (iN i + 1), .ref 1000000, .ref 130, .int r]) (h' := mkS x S1) rfl trivial ?_
  refine ev_sld (dcd T rfl) rfl (sc_in (k := 1) (by omega) hL) ?_
  rw [sc_at1 xs (by omega)]
  refine Ev.steps T 4 (P := True) (pc' := 1444) (lv' := [some (.ref 1000000), some (.ref 0), some (.ref 130), some (.int (iN i))]) (st' := [.int (iN i + 2), .ref 1000000, .int (xs (i + 1)), .ref 130, .int r]) (h' := mkS x S1) rfl trivial ?_
  refine ev_sld (dcd T rfl) rfl (sc_in (k := 2) (by omega) hL) ?_
  rw [sc_at2 xs (by omega)]
  refine ev_callV (N := mX11_drawn) (d' := 2) (bc := bc) (bs := bs) (bc' := 0) (bs' := 0) (as := [.int (xs (i + 1)), .int (xs (i + 2))]) (rest := [.int r]) (a := 130) (ci := 11) (dcd T rfl) okX11_drawn inX11_drawn seX11_drawn lk12_172 rfl (by decide) (Nat.le_of_ble_eq_true rfl) rfl ⟨by decide, rfl⟩ (gpX11_drawn_130 x S1 (xs (i + 1)) (xs (i + 2)) _ _ e2) (fun v h' hq hn => ?_)
  obtain ⟨rfl, rfl⟩ := hq
  refine Ev.steps T 1 (P := True) (pc' := if r = r then 1535 else 1451) (lv' := [some (.ref 1000000), some (.ref 0), some (.ref 130), some (.int (iN i))]) (st' := []) (h' := mkS x S2) rfl trivial ?_
  rw [if_pos rfl]
  exact k x S2 e3 hx (by omega)
set_option maxRecDepth 60000 in
theorem cs_38 (L : Nat) (xs : Nat → Int32) (i : Nat) (hi : i + 6 ≤ L) (hL : L ≤ 3072) {x : XT} {S : ST} (h : Rel x S S) (hx : XW x) (hlt : 158 + x.1 + 5 < 1000000) {bc bs : Nat} {Q : Option Value → HP → Prop} (k : ∀ x' S', Rel x' S' S' → XW x' → x'.1 ≤ x.1 + 5 → Ev (mLaw L xs) 131 bc bs 1535 [some (.ref 1000000), some (.ref 0), some (.ref 130), some (.int (iN i))] [] (mkS x' S') Q) : Ev (mLaw L xs) 131 (bc + 5) (bs + 500) 1453 [some (.ref 1000000), some (.ref 0), some (.ref 130), some (.int (iN i))] [] (mkS x S) Q := by
  have T := tokLaw L xs
  obtain ⟨r, S1, S2, e1, e2, e3⟩ := b_image x S h (xs (i + 1))
  refine Ev.wd (bc := bc) (bs := bs) ?_ (by omega) (by omega)
  refine Ev.steps T 5 (P := True) (pc' := 1458) (lv' := [some (.ref 1000000), some (.ref 0), some (.ref 130), some (.int (iN i))]) (st' := [.int (iN i + 1), .ref 1000000, .ref 0]) (h' := mkS x S) rfl trivial ?_
  refine ev_sld (dcd T rfl) rfl (sc_in (k := 1) (by omega) hL) ?_
  rw [sc_at1 xs (by omega)]
  refine ev_callV (N := mX10_image) (d' := 2) (bc := bc) (bs := bs) (bc' := 0) (bs' := 0) (as := [.int (xs (i + 1))]) (rest := []) (a := 0) (ci := 10) (dcd T rfl) okX10_image inX10_image seX10_image lk12_173 rfl (by decide) (Nat.le_of_ble_eq_true rfl) rfl ⟨by decide, rfl⟩ (gpX10_image_0 x S (xs (i + 1)) _ _ e1) (fun v h' hq hn => ?_)
  obtain ⟨rfl, rfl⟩ := hq
  refine Ev.steps T 5 (P := True) (pc' := 1467) (lv' := [some (.ref 1000000), some (.ref 0), some (.ref 130), some (.int (iN i))]) (st' := [.int (iN i + 1), .ref 1000000, .ref 130, .int r]) (h' := mkS x S1) rfl trivial ?_
  refine ev_sld (dcd T rfl) rfl (sc_in (k := 1) (by omega) hL) ?_
  rw [sc_at1 xs (by omega)]
  refine ev_callV (N := mX11_image) (d' := 2) (bc := bc) (bs := bs) (bc' := 0) (bs' := 0) (as := [.int (xs (i + 1))]) (rest := [.int r]) (a := 130) (ci := 11) (dcd T rfl) okX11_image inX11_image seX11_image lk12_176 rfl (by decide) (Nat.le_of_ble_eq_true rfl) rfl ⟨by decide, rfl⟩ (gpX11_image_130 x S1 (xs (i + 1)) _ _ e2) (fun v h' hq hn => ?_)
  obtain ⟨rfl, rfl⟩ := hq
  refine Ev.steps T 1 (P := True) (pc' := if r = r then 1535 else 1474) (lv' := [some (.ref 1000000), some (.ref 0), some (.ref 130), some (.int (iN i))]) (st' := []) (h' := mkS x S2) rfl trivial ?_
  rw [if_pos rfl]
  exact k x S2 e3 hx (by omega)
set_option maxRecDepth 60000 in
theorem cs_39 (L : Nat) (xs : Nat → Int32) (i : Nat) (hi : i + 6 ≤ L) (hL : L ≤ 3072) {x : XT} {S : ST} (h : Rel x S S) (hx : XW x) (hlt : 158 + x.1 + 5 < 1000000) {bc bs : Nat} {Q : Option Value → HP → Prop} (k : ∀ x' S', Rel x' S' S' → XW x' → x'.1 ≤ x.1 + 5 → Ev (mLaw L xs) 131 bc bs 1535 [some (.ref 1000000), some (.ref 0), some (.ref 130), some (.int (iN i))] [] (mkS x' S') Q) : Ev (mLaw L xs) 131 (bc + 5) (bs + 500) 1476 [some (.ref 1000000), some (.ref 0), some (.ref 130), some (.int (iN i))] [] (mkS x S) Q := by
  have T := tokLaw L xs
  obtain ⟨r, S1, S2, e1, e2, e3⟩ := b_back x S h (xs (i + 1))
  refine Ev.wd (bc := bc) (bs := bs) ?_ (by omega) (by omega)
  refine Ev.steps T 5 (P := True) (pc' := 1481) (lv' := [some (.ref 1000000), some (.ref 0), some (.ref 130), some (.int (iN i))]) (st' := [.int (iN i + 1), .ref 1000000, .ref 0]) (h' := mkS x S) rfl trivial ?_
  refine ev_sld (dcd T rfl) rfl (sc_in (k := 1) (by omega) hL) ?_
  rw [sc_at1 xs (by omega)]
  refine ev_callV (N := mX10_back) (d' := 3) (bc := bc) (bs := bs) (bc' := 0) (bs' := 0) (as := [.int (xs (i + 1))]) (rest := []) (a := 0) (ci := 10) (dcd T rfl) okX10_back inX10_back seX10_back lk12_177 rfl (by decide) (Nat.le_of_ble_eq_true rfl) rfl ⟨by decide, rfl⟩ (gpX10_back_0 x S (xs (i + 1)) _ _ e1) (fun v h' hq hn => ?_)
  obtain ⟨rfl, rfl⟩ := hq
  refine Ev.steps T 5 (P := True) (pc' := 1490) (lv' := [some (.ref 1000000), some (.ref 0), some (.ref 130), some (.int (iN i))]) (st' := [.int (iN i + 1), .ref 1000000, .ref 130, .int r]) (h' := mkS x S1) rfl trivial ?_
  refine ev_sld (dcd T rfl) rfl (sc_in (k := 1) (by omega) hL) ?_
  rw [sc_at1 xs (by omega)]
  refine ev_callV (N := mX11_back) (d' := 3) (bc := bc) (bs := bs) (bc' := 0) (bs' := 0) (as := [.int (xs (i + 1))]) (rest := [.int r]) (a := 130) (ci := 11) (dcd T rfl) okX11_back inX11_back seX11_back lk12_180 rfl (by decide) (Nat.le_of_ble_eq_true rfl) rfl ⟨by decide, rfl⟩ (gpX11_back_130 x S1 (xs (i + 1)) _ _ e2) (fun v h' hq hn => ?_)
  obtain ⟨rfl, rfl⟩ := hq
  refine Ev.steps T 1 (P := True) (pc' := if r = r then 1535 else 1497) (lv' := [some (.ref 1000000), some (.ref 0), some (.ref 130), some (.int (iN i))]) (st' := []) (h' := mkS x S2) rfl trivial ?_
  rw [if_pos rfl]
  exact k x S2 e3 hx (by omega)
set_option maxRecDepth 60000 in
theorem cs_40 (L : Nat) (xs : Nat → Int32) (i : Nat) (hi : i + 6 ≤ L) (hL : L ≤ 3072) {x : XT} {S : ST} (h : Rel x S S) (hx : XW x) (hlt : 158 + x.1 + 5 < 1000000) {bc bs : Nat} {Q : Option Value → HP → Prop} (k : ∀ x' S', Rel x' S' S' → XW x' → x'.1 ≤ x.1 + 5 → Ev (mLaw L xs) 131 bc bs 1535 [some (.ref 1000000), some (.ref 0), some (.ref 130), some (.int (iN i))] [] (mkS x' S') Q) : Ev (mLaw L xs) 131 (bc + 5) (bs + 500) 1499 [some (.ref 1000000), some (.ref 0), some (.ref 130), some (.int (iN i))] [] (mkS x S) Q := by
  have T := tokLaw L xs
  obtain ⟨r, S1, S2, e1, e2, e3⟩ := b_count x S h (xs (i + 1))
  refine Ev.wd (bc := bc) (bs := bs) ?_ (by omega) (by omega)
  refine Ev.steps T 5 (P := True) (pc' := 1504) (lv' := [some (.ref 1000000), some (.ref 0), some (.ref 130), some (.int (iN i))]) (st' := [.int (iN i + 1), .ref 1000000, .ref 0]) (h' := mkS x S) rfl trivial ?_
  refine ev_sld (dcd T rfl) rfl (sc_in (k := 1) (by omega) hL) ?_
  rw [sc_at1 xs (by omega)]
  refine ev_callV (N := mX10_count) (d' := 2) (bc := bc) (bs := bs) (bc' := 0) (bs' := 0) (as := [.int (xs (i + 1))]) (rest := []) (a := 0) (ci := 10) (dcd T rfl) okX10_count inX10_count seX10_count lk12_181 rfl (by decide) (Nat.le_of_ble_eq_true rfl) rfl ⟨by decide, rfl⟩ (gpX10_count_0 x S (xs (i + 1)) _ _ e1) (fun v h' hq hn => ?_)
  obtain ⟨rfl, rfl⟩ := hq
  refine Ev.steps T 5 (P := True) (pc' := 1513) (lv' := [some (.ref 1000000), some (.ref 0), some (.ref 130), some (.int (iN i))]) (st' := [.int (iN i + 1), .ref 1000000, .ref 130, .int r]) (h' := mkS x S1) rfl trivial ?_
  refine ev_sld (dcd T rfl) rfl (sc_in (k := 1) (by omega) hL) ?_
  rw [sc_at1 xs (by omega)]
  refine ev_callV (N := mX11_count) (d' := 2) (bc := bc) (bs := bs) (bc' := 0) (bs' := 0) (as := [.int (xs (i + 1))]) (rest := [.int r]) (a := 130) (ci := 11) (dcd T rfl) okX11_count inX11_count seX11_count lk12_184 rfl (by decide) (Nat.le_of_ble_eq_true rfl) rfl ⟨by decide, rfl⟩ (gpX11_count_130 x S1 (xs (i + 1)) _ _ e2) (fun v h' hq hn => ?_)
  obtain ⟨rfl, rfl⟩ := hq
  refine Ev.steps T 1 (P := True) (pc' := if r = r then 1535 else 1520) (lv' := [some (.ref 1000000), some (.ref 0), some (.ref 130), some (.int (iN i))]) (st' := []) (h' := mkS x S2) rfl trivial ?_
  rw [if_pos rfl]
  exact k x S2 e3 hx (by omega)
set_option maxRecDepth 60000 in
theorem cs_41 (L : Nat) (xs : Nat → Int32) (i : Nat) (hi : i + 6 ≤ L) (hL : L ≤ 3072) {x : XT} {S : ST} (h : Rel x S S) (hx : XW x) (hlt : 158 + x.1 + 5 < 1000000) {bc bs : Nat} {Q : Option Value → HP → Prop} (k : ∀ x' S', Rel x' S' S' → XW x' → x'.1 ≤ x.1 + 5 → Ev (mLaw L xs) 131 bc bs 1535 [some (.ref 1000000), some (.ref 0), some (.ref 130), some (.int (iN i))] [] (mkS x' S') Q) : Ev (mLaw L xs) 131 (bc + 5) (bs + 500) 1522 [some (.ref 1000000), some (.ref 0), some (.ref 130), some (.int (iN i))] [] (mkS x S) Q := by
  have T := tokLaw L xs
  obtain ⟨r, S1, S2, e1, e2, e3⟩ := b_status x S h
  refine Ev.wd (bc := bc) (bs := bs) ?_ (by omega) (by omega)
  refine Ev.steps T 1 (P := True) (pc' := 1523) (lv' := [some (.ref 1000000), some (.ref 0), some (.ref 130), some (.int (iN i))]) (st' := [.ref 0]) (h' := mkS x S) rfl trivial ?_
  refine ev_callV (N := mX10_status) (d' := 1) (bc := bc) (bs := bs) (bc' := 0) (bs' := 0) (as := []) (rest := []) (a := 0) (ci := 10) (dcd T rfl) okX10_status inX10_status seX10_status lk12_185 rfl (by decide) (Nat.le_of_ble_eq_true rfl) rfl ⟨by decide, rfl⟩ (gpX10_status_0 x S _ _ e1) (fun v h' hq hn => ?_)
  obtain ⟨rfl, rfl⟩ := hq
  refine Ev.steps T 1 (P := True) (pc' := 1527) (lv' := [some (.ref 1000000), some (.ref 0), some (.ref 130), some (.int (iN i))]) (st' := [.ref 130, .int r]) (h' := mkS x S1) rfl trivial ?_
  refine ev_callV (N := mX11_status) (d' := 1) (bc := bc) (bs := bs) (bc' := 0) (bs' := 0) (as := []) (rest := [.int r]) (a := 130) (ci := 11) (dcd T rfl) okX11_status inX11_status seX11_status lk12_188 rfl (by decide) (Nat.le_of_ble_eq_true rfl) rfl ⟨by decide, rfl⟩ (gpX11_status_130 x S1 _ _ e2) (fun v h' hq hn => ?_)
  obtain ⟨rfl, rfl⟩ := hq
  refine Ev.steps T 1 (P := True) (pc' := if r = r then 1535 else 1533) (lv' := [some (.ref 1000000), some (.ref 0), some (.ref 130), some (.int (iN i))]) (st' := []) (h' := mkS x S2) rfl trivial ?_
  rw [if_pos rfl]
  exact k x S2 e3 hx (by omega)
end CASES
