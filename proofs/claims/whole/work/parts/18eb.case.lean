section CASES
set_option maxRecDepth 60000 in
theorem cs_6 (L : Nat) (xs : Nat → Int32) (i : Nat) (hi : i + 6 ≤ L) (hL : L ≤ 3072) {x : XT} {S : ST} (h : Rel x S S) (hx : XW x) (hlt : 158 + x.1 + 5 < 1000000) {bc bs : Nat} {Q : Option Value → HP → Prop} (k : ∀ x' S', Rel x' S' S' → XW x' → x'.1 ≤ x.1 + 5 → Ev (mLaw L xs) 131 bc bs 1535 [some (.ref 1000000), some (.ref 0), some (.ref 130), some (.int (iN i))] [] (mkS x' S') Q) : Ev (mLaw L xs) 131 (bc + 5) (bs + 500) 464 [some (.ref 1000000), some (.ref 0), some (.ref 130), some (.int (iN i))] [] (mkS x S) Q := by
  have T := tokLaw L xs
  obtain ⟨r, S1, S2, e1, e2, e3⟩ := b_feed x S h (xs (i + 1)) (xs (i + 2)) (xs (i + 3)) (xs (i + 4)) (xs (i + 5))
  refine Ev.wd (bc := bc) (bs := bs) ?_ (by omega) (by omega)
  refine Ev.steps T 5 (P := True) (pc' := 469) (lv' := [some (.ref 1000000), some (.ref 0), some (.ref 130), some (.int (iN i))]) (st' := [.int (iN i + 1), .ref 1000000, .ref 0]) (h' := mkS x S) rfl trivial ?_
  refine ev_sld (dcd T rfl) rfl (sc_in (k := 1) (by omega) hL) ?_
  rw [sc_at1 xs (by omega)]
  refine Ev.steps T 4 (P := True) (pc' := 474) (lv' := [some (.ref 1000000), some (.ref 0), some (.ref 130), some (.int (iN i))]) (st' := [.int (iN i + 2), .ref 1000000, .int (xs (i + 1)), .ref 0]) (h' := mkS x S) rfl trivial ?_
  refine ev_sld (dcd T rfl) rfl (sc_in (k := 2) (by omega) hL) ?_
  rw [sc_at2 xs (by omega)]
  refine Ev.steps T 4 (P := True) (pc' := 479) (lv' := [some (.ref 1000000), some (.ref 0), some (.ref 130), some (.int (iN i))]) (st' := [.int (iN i + 3), .ref 1000000, .int (xs (i + 2)), .int (xs (i + 1)), .ref 0]) (h' := mkS x S) rfl trivial ?_
  refine ev_sld (dcd T rfl) rfl (sc_in (k := 3) (by omega) hL) ?_
  rw [sc_at3 xs (by omega)]
  refine Ev.steps T 4 (P := True) (pc' := 484) (lv' := [some (.ref 1000000), some (.ref 0), some (.ref 130), some (.int (iN i))]) (st' := [.int (iN i + 4), .ref 1000000, .int (xs (i + 3)), .int (xs (i + 2)), .int (xs (i + 1)), .ref 0]) (h' := mkS x S) rfl trivial ?_
  refine ev_sld (dcd T rfl) rfl (sc_in (k := 4) (by omega) hL) ?_
  rw [sc_at4 xs (by omega)]
  refine Ev.steps T 4 (P := True) (pc' := 489) (lv' := [some (.ref 1000000), some (.ref 0), some (.ref 130), some (.int (iN i))]) (st' := [.int (iN i + 5), .ref 1000000, .int (xs (i + 4)), .int (xs (i + 3)), .int (xs (i + 2)), .int (xs (i + 1)), .ref 0]) (h' := mkS x S) rfl trivial ?_
  refine ev_sld (dcd T rfl) rfl (sc_in (k := 5) (by omega) hL) ?_
  rw [sc_at5 xs (by omega)]
  refine ev_callV (N := mX10_feed) (d' := 3) (bc := bc) (bs := bs) (bc' := 0) (bs' := 0) (as := [.int (xs (i + 1)), .int (xs (i + 2)), .int (xs (i + 3)), .int (xs (i + 4)), .int (xs (i + 5))]) (rest := []) (a := 0) (ci := 10) (dcd T rfl) okX10_feed inX10_feed seX10_feed lk12_40 rfl (by decide) (Nat.le_of_ble_eq_true rfl) rfl ⟨by decide, rfl⟩ (gpX10_feed_0 x S (xs (i + 1)) (xs (i + 2)) (xs (i + 3)) (xs (i + 4)) (xs (i + 5)) _ _ e1) (fun v h' hq hn => ?_)
  obtain ⟨rfl, rfl⟩ := hq
  refine Ev.steps T 5 (P := True) (pc' := 498) (lv' := [some (.ref 1000000), some (.ref 0), some (.ref 130), some (.int (iN i))]) (st' := [.int (iN i + 1), .ref 1000000, .ref 130, .int r]) (h' := mkS x S1) rfl trivial ?_
  refine ev_sld (dcd T rfl) rfl (sc_in (k := 1) (by omega) hL) ?_
  rw [sc_at1 xs (by omega)]
  refine Ev.steps T 4 (P := True) (pc' := 503) (lv' := [some (.ref 1000000), some (.ref 0), some (.ref 130), some (.int (iN i))]) (st' := [.int (iN i + 2), .ref 1000000, .int (xs (i + 1)), .ref 130, .int r]) (h' := mkS x S1) rfl trivial ?_
  refine ev_sld (dcd T rfl) rfl (sc_in (k := 2) (by omega) hL) ?_
  rw [sc_at2 xs (by omega)]
  refine Ev.steps T 4 (P := True) (pc' := 508) (lv' := [some (.ref 1000000), some (.ref 0), some (.ref 130), some (.int (iN i))]) (st' := [.int (iN i + 3), .ref 1000000, .int (xs (i + 2)), .int (xs (i + 1)), .ref 130, .int r]) (h' := mkS x S1) rfl trivial ?_
  refine ev_sld (dcd T rfl) rfl (sc_in (k := 3) (by omega) hL) ?_
  rw [sc_at3 xs (by omega)]
  refine Ev.steps T 4 (P := True) (pc' := 513) (lv' := [some (.ref 1000000), some (.ref 0), some (.ref 130), some (.int (iN i))]) (st' := [.int (iN i + 4), .ref 1000000, .int (xs (i + 3)), .int (xs (i + 2)), .int (xs (i + 1)), .ref 130, .int r]) (h' := mkS x S1) rfl trivial ?_
  refine ev_sld (dcd T rfl) rfl (sc_in (k := 4) (by omega) hL) ?_
  rw [sc_at4 xs (by omega)]
  refine Ev.steps T 4 (P := True) (pc' := 518) (lv' := [some (.ref 1000000), some (.ref 0), some (.ref 130), some (.int (iN i))]) (st' := [.int (iN i + 5), .ref 1000000, .int (xs (i + 4)), .int (xs (i + 3)), .int (xs (i + 2)), .int (xs (i + 1)), .ref 130, .int r]) (h' := mkS x S1) rfl trivial ?_
  refine ev_sld (dcd T rfl) rfl (sc_in (k := 5) (by omega) hL) ?_
  rw [sc_at5 xs (by omega)]
  refine ev_callV (N := mX11_feed) (d' := 1) (bc := bc) (bs := bs) (bc' := 0) (bs' := 0) (as := [.int (xs (i + 1)), .int (xs (i + 2)), .int (xs (i + 3)), .int (xs (i + 4)), .int (xs (i + 5))]) (rest := [.int r]) (a := 130) (ci := 11) (dcd T rfl) okX11_feed inX11_feed seX11_feed lk12_44 rfl (by decide) (Nat.le_of_ble_eq_true rfl) rfl ⟨by decide, rfl⟩ (gpX11_feed_130 x S1 (xs (i + 1)) (xs (i + 2)) (xs (i + 3)) (xs (i + 4)) (xs (i + 5)) _ _ e2) (fun v h' hq hn => ?_)
  obtain ⟨rfl, rfl⟩ := hq
  refine Ev.steps T 1 (P := True) (pc' := if r = r then 1535 else 525) (lv' := [some (.ref 1000000), some (.ref 0), some (.ref 130), some (.int (iN i))]) (st' := []) (h' := mkS x S2) rfl trivial ?_
  rw [if_pos rfl]
  exact k x S2 e3 hx (by omega)
set_option maxRecDepth 60000 in
theorem cs_7 (L : Nat) (xs : Nat → Int32) (i : Nat) (hi : i + 6 ≤ L) (hL : L ≤ 3072) {x : XT} {S : ST} (h : Rel x S S) (hx : XW x) (hlt : 158 + x.1 + 5 < 1000000) {bc bs : Nat} {Q : Option Value → HP → Prop} (k : ∀ x' S', Rel x' S' S' → XW x' → x'.1 ≤ x.1 + 5 → Ev (mLaw L xs) 131 bc bs 1535 [some (.ref 1000000), some (.ref 0), some (.ref 130), some (.int (iN i))] [] (mkS x' S') Q) : Ev (mLaw L xs) 131 (bc + 5) (bs + 500) 527 [some (.ref 1000000), some (.ref 0), some (.ref 130), some (.int (iN i))] [] (mkS x S) Q := by
  have T := tokLaw L xs
  obtain ⟨r, S1, S2, e1, e2, e3⟩ := b_end x S h (xs (i + 1))
  refine Ev.wd (bc := bc) (bs := bs) ?_ (by omega) (by omega)
  refine Ev.steps T 5 (P := True) (pc' := 532) (lv' := [some (.ref 1000000), some (.ref 0), some (.ref 130), some (.int (iN i))]) (st' := [.int (iN i + 1), .ref 1000000, .ref 0]) (h' := mkS x S) rfl trivial ?_
  refine ev_sld (dcd T rfl) rfl (sc_in (k := 1) (by omega) hL) ?_
  rw [sc_at1 xs (by omega)]
  refine ev_callV (N := mX10_end) (d' := 2) (bc := bc) (bs := bs) (bc' := 0) (bs' := 0) (as := [.int (xs (i + 1))]) (rest := []) (a := 0) (ci := 10) (dcd T rfl) okX10_end inX10_end seX10_end lk12_45 rfl (by decide) (Nat.le_of_ble_eq_true rfl) rfl ⟨by decide, rfl⟩ (gpX10_end_0 x S (xs (i + 1)) _ _ e1) (fun v h' hq hn => ?_)
  obtain ⟨rfl, rfl⟩ := hq
  refine Ev.steps T 5 (P := True) (pc' := 541) (lv' := [some (.ref 1000000), some (.ref 0), some (.ref 130), some (.int (iN i))]) (st' := [.int (iN i + 1), .ref 1000000, .ref 130, .int r]) (h' := mkS x S1) rfl trivial ?_
  refine ev_sld (dcd T rfl) rfl (sc_in (k := 1) (by omega) hL) ?_
  rw [sc_at1 xs (by omega)]
  refine ev_callV (N := mX11_end) (d' := 2) (bc := bc) (bs := bs) (bc' := 0) (bs' := 0) (as := [.int (xs (i + 1))]) (rest := [.int r]) (a := 130) (ci := 11) (dcd T rfl) okX11_end inX11_end seX11_end lk12_49 rfl (by decide) (Nat.le_of_ble_eq_true rfl) rfl ⟨by decide, rfl⟩ (gpX11_end_130 x S1 (xs (i + 1)) _ _ e2) (fun v h' hq hn => ?_)
  obtain ⟨rfl, rfl⟩ := hq
  refine Ev.steps T 1 (P := True) (pc' := if r = r then 1535 else 548) (lv' := [some (.ref 1000000), some (.ref 0), some (.ref 130), some (.int (iN i))]) (st' := []) (h' := mkS x S2) rfl trivial ?_
  rw [if_pos rfl]
  exact k x S2 e3 hx (by omega)
set_option maxRecDepth 60000 in
theorem cs_8 (L : Nat) (xs : Nat → Int32) (i : Nat) (hi : i + 6 ≤ L) (hL : L ≤ 3072) {x : XT} {S : ST} (h : Rel x S S) (hx : XW x) (hlt : 158 + x.1 + 5 < 1000000) {bc bs : Nat} {Q : Option Value → HP → Prop} (k : ∀ x' S', Rel x' S' S' → XW x' → x'.1 ≤ x.1 + 5 → Ev (mLaw L xs) 131 bc bs 1535 [some (.ref 1000000), some (.ref 0), some (.ref 130), some (.int (iN i))] [] (mkS x' S') Q) : Ev (mLaw L xs) 131 (bc + 5) (bs + 500) 550 [some (.ref 1000000), some (.ref 0), some (.ref 130), some (.int (iN i))] [] (mkS x S) Q := by
  have T := tokLaw L xs
  obtain ⟨r, S1, S2, e1, e2, e3⟩ := b_row x S h
  refine Ev.wd (bc := bc) (bs := bs) ?_ (by omega) (by omega)
  refine Ev.steps T 1 (P := True) (pc' := 551) (lv' := [some (.ref 1000000), some (.ref 0), some (.ref 130), some (.int (iN i))]) (st' := [.ref 0]) (h' := mkS x S) rfl trivial ?_
  refine ev_callV (N := mX10_row) (d' := 3) (bc := bc) (bs := bs) (bc' := 0) (bs' := 0) (as := []) (rest := []) (a := 0) (ci := 10) (dcd T rfl) okX10_row inX10_row seX10_row lk12_50 rfl (by decide) (Nat.le_of_ble_eq_true rfl) rfl ⟨by decide, rfl⟩ (gpX10_row_0 x S _ _ e1) (fun v h' hq hn => ?_)
  obtain ⟨rfl, rfl⟩ := hq
  refine Ev.steps T 1 (P := True) (pc' := 555) (lv' := [some (.ref 1000000), some (.ref 0), some (.ref 130), some (.int (iN i))]) (st' := [.ref 130, .int r]) (h' := mkS x S1) rfl trivial ?_
  refine ev_callV (N := mX11_row) (d' := 4) (bc := bc) (bs := bs) (bc' := 0) (bs' := 0) (as := []) (rest := [.int r]) (a := 130) (ci := 11) (dcd T rfl) okX11_row inX11_row seX11_row lk12_54 rfl (by decide) (Nat.le_of_ble_eq_true rfl) rfl ⟨by decide, rfl⟩ (gpX11_row_130 x S1 _ _ e2) (fun v h' hq hn => ?_)
  obtain ⟨rfl, rfl⟩ := hq
  refine Ev.steps T 1 (P := True) (pc' := if r = r then 1535 else 561) (lv' := [some (.ref 1000000), some (.ref 0), some (.ref 130), some (.int (iN i))]) (st' := []) (h' := mkS x S2) rfl trivial ?_
  rw [if_pos rfl]
  exact k x S2 e3 hx (by omega)
set_option maxRecDepth 60000 in
theorem cs_9 (L : Nat) (xs : Nat → Int32) (i : Nat) (hi : i + 6 ≤ L) (hL : L ≤ 3072) {x : XT} {S : ST} (h : Rel x S S) (hx : XW x) (hlt : 158 + x.1 + 5 < 1000000) {bc bs : Nat} {Q : Option Value → HP → Prop} (k : ∀ x' S', Rel x' S' S' → XW x' → x'.1 ≤ x.1 + 5 → Ev (mLaw L xs) 131 bc bs 1535 [some (.ref 1000000), some (.ref 0), some (.ref 130), some (.int (iN i))] [] (mkS x' S') Q) : Ev (mLaw L xs) 131 (bc + 5) (bs + 500) 563 [some (.ref 1000000), some (.ref 0), some (.ref 130), some (.int (iN i))] [] (mkS x S) Q := by
  have T := tokLaw L xs
  obtain ⟨r, S1, S2, e1, e2, e3⟩ := b_rust x S h
  refine Ev.wd (bc := bc) (bs := bs) ?_ (by omega) (by omega)
  refine Ev.steps T 1 (P := True) (pc' := 564) (lv' := [some (.ref 1000000), some (.ref 0), some (.ref 130), some (.int (iN i))]) (st' := [.ref 0]) (h' := mkS x S) rfl trivial ?_
  refine ev_callV (N := mX10_rust) (d' := 1) (bc := bc) (bs := bs) (bc' := 0) (bs' := 0) (as := []) (rest := []) (a := 0) (ci := 10) (dcd T rfl) okX10_rust inX10_rust seX10_rust lk12_55 rfl (by decide) (Nat.le_of_ble_eq_true rfl) rfl ⟨by decide, rfl⟩ (gpX10_rust_0 x S _ _ e1) (fun v h' hq hn => ?_)
  obtain ⟨rfl, rfl⟩ := hq
  refine Ev.steps T 1 (P := True) (pc' := 568) (lv' := [some (.ref 1000000), some (.ref 0), some (.ref 130), some (.int (iN i))]) (st' := [.ref 130, .int r]) (h' := mkS x S1) rfl trivial ?_
  refine ev_callV (N := mX11_rust) (d' := 1) (bc := bc) (bs := bs) (bc' := 0) (bs' := 0) (as := []) (rest := [.int r]) (a := 130) (ci := 11) (dcd T rfl) okX11_rust inX11_rust seX11_rust lk12_58 rfl (by decide) (Nat.le_of_ble_eq_true rfl) rfl ⟨by decide, rfl⟩ (gpX11_rust_130 x S1 _ _ e2) (fun v h' hq hn => ?_)
  obtain ⟨rfl, rfl⟩ := hq
  refine Ev.steps T 1 (P := True) (pc' := if r = r then 1535 else 574) (lv' := [some (.ref 1000000), some (.ref 0), some (.ref 130), some (.int (iN i))]) (st' := []) (h' := mkS x S2) rfl trivial ?_
  rw [if_pos rfl]
  exact k x S2 e3 hx (by omega)
set_option maxRecDepth 60000 in
theorem cs_10 (L : Nat) (xs : Nat → Int32) (i : Nat) (hi : i + 6 ≤ L) (hL : L ≤ 3072) {x : XT} {S : ST} (h : Rel x S S) (hx : XW x) (hlt : 158 + x.1 + 5 < 1000000) {bc bs : Nat} {Q : Option Value → HP → Prop} (k : ∀ x' S', Rel x' S' S' → XW x' → x'.1 ≤ x.1 + 5 → Ev (mLaw L xs) 131 bc bs 1535 [some (.ref 1000000), some (.ref 0), some (.ref 130), some (.int (iN i))] [] (mkS x' S') Q) : Ev (mLaw L xs) 131 (bc + 5) (bs + 500) 576 [some (.ref 1000000), some (.ref 0), some (.ref 130), some (.int (iN i))] [] (mkS x S) Q := by
  have T := tokLaw L xs
  obtain ⟨r, x', S1, S2, ct, e2, e3, e4, e5⟩ := gp_law x S h hx hlt
  refine Ev.steps T 1 (P := True) (pc' := 577) (lv' := [some (.ref 1000000), some (.ref 0), some (.ref 130), some (.int (iN i))]) (st' := [.ref 0]) (h' := mkS x S) rfl trivial ?_
  refine ev_callV (N := mX10_law) (d' := 67) (bc := bc) (bs := bs) (bc' := 5) (bs' := 500) (as := []) (rest := []) (a := 0) (ci := 10) (dcd T rfl) okX10_law inX10_law seX10_law lk12_59 rfl (by decide) (Nat.le_of_ble_eq_true rfl) rfl ⟨by decide, rfl⟩ ct (fun v h' hq hn => ?_)
  obtain ⟨rfl, rfl⟩ := hq
  refine Ev.steps T 1 (P := True) (pc' := 581) (lv' := [some (.ref 1000000), some (.ref 0), some (.ref 130), some (.int (iN i))]) (st' := [.ref 130, .int r]) (h' := mkS x' S1) rfl trivial ?_
  refine ev_callV (N := mX11_law) (d' := 128) (bc := bc) (bs := bs) (bc' := 0) (bs' := 0) (as := []) (rest := [.int r]) (a := 130) (ci := 11) (dcd T rfl) okX11_law inX11_law seX11_law lk12_62 rfl (by decide) (Nat.le_of_ble_eq_true rfl) rfl ⟨by decide, rfl⟩ (gpX11_law_130 x' S1 _ _ e2) (fun v h' hq hn => ?_)
  obtain ⟨rfl, rfl⟩ := hq
  refine Ev.steps T 1 (P := True) (pc' := if r = r then 1535 else 587) (lv' := [some (.ref 1000000), some (.ref 0), some (.ref 130), some (.int (iN i))]) (st' := []) (h' := mkS x' S2) rfl trivial ?_
  rw [if_pos rfl]
  exact k x' S2 e3 e4 e5
set_option maxRecDepth 60000 in
theorem cs_11 (L : Nat) (xs : Nat → Int32) (i : Nat) (hi : i + 6 ≤ L) (hL : L ≤ 3072) {x : XT} {S : ST} (h : Rel x S S) (hx : XW x) (hlt : 158 + x.1 + 5 < 1000000) {bc bs : Nat} {Q : Option Value → HP → Prop} (k : ∀ x' S', Rel x' S' S' → XW x' → x'.1 ≤ x.1 + 5 → Ev (mLaw L xs) 131 bc bs 1535 [some (.ref 1000000), some (.ref 0), some (.ref 130), some (.int (iN i))] [] (mkS x' S') Q) : Ev (mLaw L xs) 131 (bc + 5) (bs + 500) 589 [some (.ref 1000000), some (.ref 0), some (.ref 130), some (.int (iN i))] [] (mkS x S) Q := by
  have T := tokLaw L xs
  obtain ⟨r, S1, S2, e1, e2, e3⟩ := b_orders x S h
  refine Ev.wd (bc := bc) (bs := bs) ?_ (by omega) (by omega)
  refine Ev.steps T 1 (P := True) (pc' := 590) (lv' := [some (.ref 1000000), some (.ref 0), some (.ref 130), some (.int (iN i))]) (st' := [.ref 0]) (h' := mkS x S) rfl trivial ?_
  refine ev_callV (N := mX10_orders) (d' := 67) (bc := bc) (bs := bs) (bc' := 0) (bs' := 0) (as := []) (rest := []) (a := 0) (ci := 10) (dcd T rfl) okX10_orders inX10_orders seX10_orders lk12_63 rfl (by decide) (Nat.le_of_ble_eq_true rfl) rfl ⟨by decide, rfl⟩ (gpX10_orders_0 x S _ _ e1) (fun v h' hq hn => ?_)
  obtain ⟨rfl, rfl⟩ := hq
  refine Ev.steps T 1 (P := True) (pc' := 594) (lv' := [some (.ref 1000000), some (.ref 0), some (.ref 130), some (.int (iN i))]) (st' := [.ref 130, .int r]) (h' := mkS x S1) rfl trivial ?_
  refine ev_callV (N := mX11_orders) (d' := 130) (bc := bc) (bs := bs) (bc' := 0) (bs' := 0) (as := []) (rest := [.int r]) (a := 130) (ci := 11) (dcd T rfl) okX11_orders inX11_orders seX11_orders lk12_66 rfl (by decide) (Nat.le_of_ble_eq_true rfl) rfl ⟨by decide, rfl⟩ (gpX11_orders_130 x S1 _ _ e2) (fun v h' hq hn => ?_)
  obtain ⟨rfl, rfl⟩ := hq
  refine Ev.steps T 1 (P := True) (pc' := if r = r then 1535 else 600) (lv' := [some (.ref 1000000), some (.ref 0), some (.ref 130), some (.int (iN i))]) (st' := []) (h' := mkS x S2) rfl trivial ?_
  rw [if_pos rfl]
  exact k x S2 e3 hx (by omega)
set_option maxRecDepth 60000 in
theorem cs_12 (L : Nat) (xs : Nat → Int32) (i : Nat) (hi : i + 6 ≤ L) (hL : L ≤ 3072) {x : XT} {S : ST} (h : Rel x S S) (hx : XW x) (hlt : 158 + x.1 + 5 < 1000000) {bc bs : Nat} {Q : Option Value → HP → Prop} (k : ∀ x' S', Rel x' S' S' → XW x' → x'.1 ≤ x.1 + 5 → Ev (mLaw L xs) 131 bc bs 1535 [some (.ref 1000000), some (.ref 0), some (.ref 130), some (.int (iN i))] [] (mkS x' S') Q) : Ev (mLaw L xs) 131 (bc + 5) (bs + 500) 602 [some (.ref 1000000), some (.ref 0), some (.ref 130), some (.int (iN i))] [] (mkS x S) Q := by
  have T := tokLaw L xs
  obtain ⟨r, S1, S2, e1, e2, e3⟩ := b_fault x S h
  refine Ev.wd (bc := bc) (bs := bs) ?_ (by omega) (by omega)
  refine Ev.steps T 1 (P := True) (pc' := 603) (lv' := [some (.ref 1000000), some (.ref 0), some (.ref 130), some (.int (iN i))]) (st' := [.ref 0]) (h' := mkS x S) rfl trivial ?_
  refine ev_callV (N := mX10_fault) (d' := 1) (bc := bc) (bs := bs) (bc' := 0) (bs' := 0) (as := []) (rest := []) (a := 0) (ci := 10) (dcd T rfl) okX10_fault inX10_fault seX10_fault lk12_67 rfl (by decide) (Nat.le_of_ble_eq_true rfl) rfl ⟨by decide, rfl⟩ (gpX10_fault_0 x S _ _ e1) (fun v h' hq hn => ?_)
  obtain ⟨rfl, rfl⟩ := hq
  refine Ev.steps T 1 (P := True) (pc' := 607) (lv' := [some (.ref 1000000), some (.ref 0), some (.ref 130), some (.int (iN i))]) (st' := [.ref 130, .int r]) (h' := mkS x S1) rfl trivial ?_
  refine ev_callV (N := mX11_fault) (d' := 1) (bc := bc) (bs := bs) (bc' := 0) (bs' := 0) (as := []) (rest := [.int r]) (a := 130) (ci := 11) (dcd T rfl) okX11_fault inX11_fault seX11_fault lk12_70 rfl (by decide) (Nat.le_of_ble_eq_true rfl) rfl ⟨by decide, rfl⟩ (gpX11_fault_130 x S1 _ _ e2) (fun v h' hq hn => ?_)
  obtain ⟨rfl, rfl⟩ := hq
  refine Ev.steps T 1 (P := True) (pc' := if r = r then 1535 else 613) (lv' := [some (.ref 1000000), some (.ref 0), some (.ref 130), some (.int (iN i))]) (st' := []) (h' := mkS x S2) rfl trivial ?_
  rw [if_pos rfl]
  exact k x S2 e3 hx (by omega)
set_option maxRecDepth 60000 in
theorem cs_13 (L : Nat) (xs : Nat → Int32) (i : Nat) (hi : i + 6 ≤ L) (hL : L ≤ 3072) {x : XT} {S : ST} (h : Rel x S S) (hx : XW x) (hlt : 158 + x.1 + 5 < 1000000) {bc bs : Nat} {Q : Option Value → HP → Prop} (k : ∀ x' S', Rel x' S' S' → XW x' → x'.1 ≤ x.1 + 5 → Ev (mLaw L xs) 131 bc bs 1535 [some (.ref 1000000), some (.ref 0), some (.ref 130), some (.int (iN i))] [] (mkS x' S') Q) : Ev (mLaw L xs) 131 (bc + 5) (bs + 500) 615 [some (.ref 1000000), some (.ref 0), some (.ref 130), some (.int (iN i))] [] (mkS x S) Q := by
  have T := tokLaw L xs
  obtain ⟨r, S1, S2, e1, e2, e3⟩ := b_stopped x S h
  refine Ev.wd (bc := bc) (bs := bs) ?_ (by omega) (by omega)
  refine Ev.steps T 1 (P := True) (pc' := 616) (lv' := [some (.ref 1000000), some (.ref 0), some (.ref 130), some (.int (iN i))]) (st' := [.ref 0]) (h' := mkS x S) rfl trivial ?_
  refine ev_callV (N := mX10_stopped) (d' := 1) (bc := bc) (bs := bs) (bc' := 0) (bs' := 0) (as := []) (rest := []) (a := 0) (ci := 10) (dcd T rfl) okX10_stopped inX10_stopped seX10_stopped lk12_71 rfl (by decide) (Nat.le_of_ble_eq_true rfl) rfl ⟨by decide, rfl⟩ (gpX10_stopped_0 x S _ _ e1) (fun v h' hq hn => ?_)
  obtain ⟨rfl, rfl⟩ := hq
  refine Ev.steps T 1 (P := True) (pc' := 620) (lv' := [some (.ref 1000000), some (.ref 0), some (.ref 130), some (.int (iN i))]) (st' := [.ref 130, .int r]) (h' := mkS x S1) rfl trivial ?_
  refine ev_callV (N := mX11_stopped) (d' := 1) (bc := bc) (bs := bs) (bc' := 0) (bs' := 0) (as := []) (rest := [.int r]) (a := 130) (ci := 11) (dcd T rfl) okX11_stopped inX11_stopped seX11_stopped lk12_74 rfl (by decide) (Nat.le_of_ble_eq_true rfl) rfl ⟨by decide, rfl⟩ (gpX11_stopped_130 x S1 _ _ e2) (fun v h' hq hn => ?_)
  obtain ⟨rfl, rfl⟩ := hq
  refine Ev.steps T 1 (P := True) (pc' := if r = r then 1535 else 626) (lv' := [some (.ref 1000000), some (.ref 0), some (.ref 130), some (.int (iN i))]) (st' := []) (h' := mkS x S2) rfl trivial ?_
  rw [if_pos rfl]
  exact k x S2 e3 hx (by omega)
end CASES
