section CASES
set_option maxRecDepth 60000 in
theorem cs_28 (L : Nat) (xs : Nat → Int32) (i : Nat) (hi : i + 6 ≤ L) (hL : L ≤ 3072) {x : XT} {S : ST} (h : Rel x S S) (hx : XW x) (hlt : 158 + x.1 + 5 < 1000000) {bc bs : Nat} {Q : Option Value → HP → Prop} (k : ∀ x' S', Rel x' S' S' → XW x' → x'.1 ≤ x.1 + 5 → Ev (mLaw L xs) 131 bc bs 1535 [some (.ref 1000000), some (.ref 0), some (.ref 130), some (.int (iN i))] [] (mkS x' S') Q) : Ev (mLaw L xs) 131 (bc + 5) (bs + 500) 1112 [some (.ref 1000000), some (.ref 0), some (.ref 130), some (.int (iN i))] [] (mkS x S) Q := by
  have T := tokLaw L xs
  obtain ⟨r, S1, S2, e1, e2, e3⟩ := b_cut x S h (xs (i + 1)) (xs (i + 2)) (xs (i + 3))
  refine Ev.wd (bc := bc) (bs := bs) ?_ (by omega) (by omega)
  refine Ev.steps T 5 (P := True) (pc' := 1117) (lv' := [some (.ref 1000000), some (.ref 0), some (.ref 130), some (.int (iN i))]) (st' := [.int (iN i + 1), .ref 1000000, .ref 0]) (h' := mkS x S) rfl trivial ?_
  refine ev_sld (dcd T rfl) rfl (sc_in (k := 1) (by omega) hL) ?_
  rw [sc_at1 xs (by omega)]
  refine Ev.steps T 4 (P := True) (pc' := 1122) (lv' := [some (.ref 1000000), some (.ref 0), some (.ref 130), some (.int (iN i))]) (st' := [.int (iN i + 2), .ref 1000000, .int (xs (i + 1)), .ref 0]) (h' := mkS x S) rfl trivial ?_
  refine ev_sld (dcd T rfl) rfl (sc_in (k := 2) (by omega) hL) ?_
  rw [sc_at2 xs (by omega)]
  refine Ev.steps T 4 (P := True) (pc' := 1127) (lv' := [some (.ref 1000000), some (.ref 0), some (.ref 130), some (.int (iN i))]) (st' := [.int (iN i + 3), .ref 1000000, .int (xs (i + 2)), .int (xs (i + 1)), .ref 0]) (h' := mkS x S) rfl trivial ?_
  refine ev_sld (dcd T rfl) rfl (sc_in (k := 3) (by omega) hL) ?_
  rw [sc_at3 xs (by omega)]
  refine ev_callV (N := mX10_cut) (d' := 8) (bc := bc) (bs := bs) (bc' := 0) (bs' := 0) (as := [.int (xs (i + 1)), .int (xs (i + 2)), .int (xs (i + 3))]) (rest := []) (a := 0) (ci := 10) (dcd T rfl) okX10_cut inX10_cut seX10_cut lk12_132 rfl (by decide) (Nat.le_of_ble_eq_true rfl) rfl ⟨by decide, rfl⟩ (gpX10_cut_0 x S (xs (i + 1)) (xs (i + 2)) (xs (i + 3)) _ _ e1) (fun v h' hq hn => ?_)
  obtain ⟨rfl, rfl⟩ := hq
  refine Ev.steps T 5 (P := True) (pc' := 1136) (lv' := [some (.ref 1000000), some (.ref 0), some (.ref 130), some (.int (iN i))]) (st' := [.int (iN i + 1), .ref 1000000, .ref 130, .int r]) (h' := mkS x S1) rfl trivial ?_
  refine ev_sld (dcd T rfl) rfl (sc_in (k := 1) (by omega) hL) ?_
  rw [sc_at1 xs (by omega)]
  refine Ev.steps T 4 (P := True) (pc' := 1141) (lv' := [some (.ref 1000000), some (.ref 0), some (.ref 130), some (.int (iN i))]) (st' := [.int (iN i + 2), .ref 1000000, .int (xs (i + 1)), .ref 130, .int r]) (h' := mkS x S1) rfl trivial ?_
  refine ev_sld (dcd T rfl) rfl (sc_in (k := 2) (by omega) hL) ?_
  rw [sc_at2 xs (by omega)]
  refine Ev.steps T 4 (P := True) (pc' := 1146) (lv' := [some (.ref 1000000), some (.ref 0), some (.ref 130), some (.int (iN i))]) (st' := [.int (iN i + 3), .ref 1000000, .int (xs (i + 2)), .int (xs (i + 1)), .ref 130, .int r]) (h' := mkS x S1) rfl trivial ?_
  refine ev_sld (dcd T rfl) rfl (sc_in (k := 3) (by omega) hL) ?_
  rw [sc_at3 xs (by omega)]
  refine ev_callV (N := mX11_cut) (d' := 128) (bc := bc) (bs := bs) (bc' := 0) (bs' := 0) (as := [.int (xs (i + 1)), .int (xs (i + 2)), .int (xs (i + 3))]) (rest := [.int r]) (a := 130) (ci := 11) (dcd T rfl) okX11_cut inX11_cut seX11_cut lk12_135 rfl (by decide) (Nat.le_of_ble_eq_true rfl) rfl ⟨by decide, rfl⟩ (gpX11_cut_130 x S1 (xs (i + 1)) (xs (i + 2)) (xs (i + 3)) _ _ e2) (fun v h' hq hn => ?_)
  obtain ⟨rfl, rfl⟩ := hq
  refine Ev.steps T 1 (P := True) (pc' := if r = r then 1535 else 1153) (lv' := [some (.ref 1000000), some (.ref 0), some (.ref 130), some (.int (iN i))]) (st' := []) (h' := mkS x S2) rfl trivial ?_
  rw [if_pos rfl]
  exact k x S2 e3 hx (by omega)
set_option maxRecDepth 60000 in
theorem cs_29 (L : Nat) (xs : Nat → Int32) (i : Nat) (hi : i + 6 ≤ L) (hL : L ≤ 3072) {x : XT} {S : ST} (h : Rel x S S) (hx : XW x) (hlt : 158 + x.1 + 5 < 1000000) {bc bs : Nat} {Q : Option Value → HP → Prop} (k : ∀ x' S', Rel x' S' S' → XW x' → x'.1 ≤ x.1 + 5 → Ev (mLaw L xs) 131 bc bs 1535 [some (.ref 1000000), some (.ref 0), some (.ref 130), some (.int (iN i))] [] (mkS x' S') Q) : Ev (mLaw L xs) 131 (bc + 5) (bs + 500) 1155 [some (.ref 1000000), some (.ref 0), some (.ref 130), some (.int (iN i))] [] (mkS x S) Q := by
  have T := tokLaw L xs
  obtain ⟨r, S1, S2, e1, e2, e3⟩ := b_meet x S h (xs (i + 1)) (xs (i + 2)) (xs (i + 3))
  refine Ev.wd (bc := bc) (bs := bs) ?_ (by omega) (by omega)
  refine Ev.steps T 5 (P := True) (pc' := 1160) (lv' := [some (.ref 1000000), some (.ref 0), some (.ref 130), some (.int (iN i))]) (st' := [.int (iN i + 1), .ref 1000000, .ref 0]) (h' := mkS x S) rfl trivial ?_
  refine ev_sld (dcd T rfl) rfl (sc_in (k := 1) (by omega) hL) ?_
  rw [sc_at1 xs (by omega)]
  refine Ev.steps T 4 (P := True) (pc' := 1165) (lv' := [some (.ref 1000000), some (.ref 0), some (.ref 130), some (.int (iN i))]) (st' := [.int (iN i + 2), .ref 1000000, .int (xs (i + 1)), .ref 0]) (h' := mkS x S) rfl trivial ?_
  refine ev_sld (dcd T rfl) rfl (sc_in (k := 2) (by omega) hL) ?_
  rw [sc_at2 xs (by omega)]
  refine Ev.steps T 4 (P := True) (pc' := 1170) (lv' := [some (.ref 1000000), some (.ref 0), some (.ref 130), some (.int (iN i))]) (st' := [.int (iN i + 3), .ref 1000000, .int (xs (i + 2)), .int (xs (i + 1)), .ref 0]) (h' := mkS x S) rfl trivial ?_
  refine ev_sld (dcd T rfl) rfl (sc_in (k := 3) (by omega) hL) ?_
  rw [sc_at3 xs (by omega)]
  refine ev_callV (N := mX10_meet) (d' := 8) (bc := bc) (bs := bs) (bc' := 0) (bs' := 0) (as := [.int (xs (i + 1)), .int (xs (i + 2)), .int (xs (i + 3))]) (rest := []) (a := 0) (ci := 10) (dcd T rfl) okX10_meet inX10_meet seX10_meet lk12_136 rfl (by decide) (Nat.le_of_ble_eq_true rfl) rfl ⟨by decide, rfl⟩ (gpX10_meet_0 x S (xs (i + 1)) (xs (i + 2)) (xs (i + 3)) _ _ e1) (fun v h' hq hn => ?_)
  obtain ⟨rfl, rfl⟩ := hq
  refine Ev.steps T 5 (P := True) (pc' := 1179) (lv' := [some (.ref 1000000), some (.ref 0), some (.ref 130), some (.int (iN i))]) (st' := [.int (iN i + 1), .ref 1000000, .ref 130, .int r]) (h' := mkS x S1) rfl trivial ?_
  refine ev_sld (dcd T rfl) rfl (sc_in (k := 1) (by omega) hL) ?_
  rw [sc_at1 xs (by omega)]
  refine Ev.steps T 4 (P := True) (pc' := 1184) (lv' := [some (.ref 1000000), some (.ref 0), some (.ref 130), some (.int (iN i))]) (st' := [.int (iN i + 2), .ref 1000000, .int (xs (i + 1)), .ref 130, .int r]) (h' := mkS x S1) rfl trivial ?_
  refine ev_sld (dcd T rfl) rfl (sc_in (k := 2) (by omega) hL) ?_
  rw [sc_at2 xs (by omega)]
  refine Ev.steps T 4 (P := True) (pc' := 1189) (lv' := [some (.ref 1000000), some (.ref 0), some (.ref 130), some (.int (iN i))]) (st' := [.int (iN i + 3), .ref 1000000, .int (xs (i + 2)), .int (xs (i + 1)), .ref 130, .int r]) (h' := mkS x S1) rfl trivial ?_
  refine ev_sld (dcd T rfl) rfl (sc_in (k := 3) (by omega) hL) ?_
  rw [sc_at3 xs (by omega)]
  refine ev_callV (N := mX11_meet) (d' := 128) (bc := bc) (bs := bs) (bc' := 0) (bs' := 0) (as := [.int (xs (i + 1)), .int (xs (i + 2)), .int (xs (i + 3))]) (rest := [.int r]) (a := 130) (ci := 11) (dcd T rfl) okX11_meet inX11_meet seX11_meet lk12_139 rfl (by decide) (Nat.le_of_ble_eq_true rfl) rfl ⟨by decide, rfl⟩ (gpX11_meet_130 x S1 (xs (i + 1)) (xs (i + 2)) (xs (i + 3)) _ _ e2) (fun v h' hq hn => ?_)
  obtain ⟨rfl, rfl⟩ := hq
  refine Ev.steps T 1 (P := True) (pc' := if r = r then 1535 else 1196) (lv' := [some (.ref 1000000), some (.ref 0), some (.ref 130), some (.int (iN i))]) (st' := []) (h' := mkS x S2) rfl trivial ?_
  rw [if_pos rfl]
  exact k x S2 e3 hx (by omega)
set_option maxRecDepth 60000 in
theorem cs_30 (L : Nat) (xs : Nat → Int32) (i : Nat) (hi : i + 6 ≤ L) (hL : L ≤ 3072) {x : XT} {S : ST} (h : Rel x S S) (hx : XW x) (hlt : 158 + x.1 + 5 < 1000000) {bc bs : Nat} {Q : Option Value → HP → Prop} (k : ∀ x' S', Rel x' S' S' → XW x' → x'.1 ≤ x.1 + 5 → Ev (mLaw L xs) 131 bc bs 1535 [some (.ref 1000000), some (.ref 0), some (.ref 130), some (.int (iN i))] [] (mkS x' S') Q) : Ev (mLaw L xs) 131 (bc + 5) (bs + 500) 1198 [some (.ref 1000000), some (.ref 0), some (.ref 130), some (.int (iN i))] [] (mkS x S) Q := by
  have T := tokLaw L xs
  obtain ⟨r, S1, S2, e1, e2, e3⟩ := b_seen x S h (xs (i + 1)) (xs (i + 2)) (xs (i + 3))
  refine Ev.wd (bc := bc) (bs := bs) ?_ (by omega) (by omega)
  refine Ev.steps T 5 (P := True) (pc' := 1203) (lv' := [some (.ref 1000000), some (.ref 0), some (.ref 130), some (.int (iN i))]) (st' := [.int (iN i + 1), .ref 1000000, .ref 0]) (h' := mkS x S) rfl trivial ?_
  refine ev_sld (dcd T rfl) rfl (sc_in (k := 1) (by omega) hL) ?_
  rw [sc_at1 xs (by omega)]
  refine Ev.steps T 4 (P := True) (pc' := 1208) (lv' := [some (.ref 1000000), some (.ref 0), some (.ref 130), some (.int (iN i))]) (st' := [.int (iN i + 2), .ref 1000000, .int (xs (i + 1)), .ref 0]) (h' := mkS x S) rfl trivial ?_
  refine ev_sld (dcd T rfl) rfl (sc_in (k := 2) (by omega) hL) ?_
  rw [sc_at2 xs (by omega)]
  refine Ev.steps T 4 (P := True) (pc' := 1213) (lv' := [some (.ref 1000000), some (.ref 0), some (.ref 130), some (.int (iN i))]) (st' := [.int (iN i + 3), .ref 1000000, .int (xs (i + 2)), .int (xs (i + 1)), .ref 0]) (h' := mkS x S) rfl trivial ?_
  refine ev_sld (dcd T rfl) rfl (sc_in (k := 3) (by omega) hL) ?_
  rw [sc_at3 xs (by omega)]
  refine ev_callV (N := mX10_seen) (d' := 3) (bc := bc) (bs := bs) (bc' := 0) (bs' := 0) (as := [.int (xs (i + 1)), .int (xs (i + 2)), .int (xs (i + 3))]) (rest := []) (a := 0) (ci := 10) (dcd T rfl) okX10_seen inX10_seen seX10_seen lk12_140 rfl (by decide) (Nat.le_of_ble_eq_true rfl) rfl ⟨by decide, rfl⟩ (gpX10_seen_0 x S (xs (i + 1)) (xs (i + 2)) (xs (i + 3)) _ _ e1) (fun v h' hq hn => ?_)
  obtain ⟨rfl, rfl⟩ := hq
  refine Ev.steps T 5 (P := True) (pc' := 1222) (lv' := [some (.ref 1000000), some (.ref 0), some (.ref 130), some (.int (iN i))]) (st' := [.int (iN i + 1), .ref 1000000, .ref 130, .int r]) (h' := mkS x S1) rfl trivial ?_
  refine ev_sld (dcd T rfl) rfl (sc_in (k := 1) (by omega) hL) ?_
  rw [sc_at1 xs (by omega)]
  refine Ev.steps T 4 (P := True) (pc' := 1227) (lv' := [some (.ref 1000000), some (.ref 0), some (.ref 130), some (.int (iN i))]) (st' := [.int (iN i + 2), .ref 1000000, .int (xs (i + 1)), .ref 130, .int r]) (h' := mkS x S1) rfl trivial ?_
  refine ev_sld (dcd T rfl) rfl (sc_in (k := 2) (by omega) hL) ?_
  rw [sc_at2 xs (by omega)]
  refine Ev.steps T 4 (P := True) (pc' := 1232) (lv' := [some (.ref 1000000), some (.ref 0), some (.ref 130), some (.int (iN i))]) (st' := [.int (iN i + 3), .ref 1000000, .int (xs (i + 2)), .int (xs (i + 1)), .ref 130, .int r]) (h' := mkS x S1) rfl trivial ?_
  refine ev_sld (dcd T rfl) rfl (sc_in (k := 3) (by omega) hL) ?_
  rw [sc_at3 xs (by omega)]
  refine ev_callV (N := mX11_seen) (d' := 3) (bc := bc) (bs := bs) (bc' := 0) (bs' := 0) (as := [.int (xs (i + 1)), .int (xs (i + 2)), .int (xs (i + 3))]) (rest := [.int r]) (a := 130) (ci := 11) (dcd T rfl) okX11_seen inX11_seen seX11_seen lk12_143 rfl (by decide) (Nat.le_of_ble_eq_true rfl) rfl ⟨by decide, rfl⟩ (gpX11_seen_130 x S1 (xs (i + 1)) (xs (i + 2)) (xs (i + 3)) _ _ e2) (fun v h' hq hn => ?_)
  obtain ⟨rfl, rfl⟩ := hq
  refine Ev.steps T 1 (P := True) (pc' := if r = r then 1535 else 1239) (lv' := [some (.ref 1000000), some (.ref 0), some (.ref 130), some (.int (iN i))]) (st' := []) (h' := mkS x S2) rfl trivial ?_
  rw [if_pos rfl]
  exact k x S2 e3 hx (by omega)
set_option maxRecDepth 60000 in
theorem cs_31 (L : Nat) (xs : Nat → Int32) (i : Nat) (hi : i + 6 ≤ L) (hL : L ≤ 3072) {x : XT} {S : ST} (h : Rel x S S) (hx : XW x) (hlt : 158 + x.1 + 5 < 1000000) {bc bs : Nat} {Q : Option Value → HP → Prop} (k : ∀ x' S', Rel x' S' S' → XW x' → x'.1 ≤ x.1 + 5 → Ev (mLaw L xs) 131 bc bs 1535 [some (.ref 1000000), some (.ref 0), some (.ref 130), some (.int (iN i))] [] (mkS x' S') Q) : Ev (mLaw L xs) 131 (bc + 5) (bs + 500) 1241 [some (.ref 1000000), some (.ref 0), some (.ref 130), some (.int (iN i))] [] (mkS x S) Q := by
  have T := tokLaw L xs
  obtain ⟨r, S1, S2, e1, e2, e3⟩ := b_forget x S h
  refine Ev.wd (bc := bc) (bs := bs) ?_ (by omega) (by omega)
  refine Ev.steps T 1 (P := True) (pc' := 1242) (lv' := [some (.ref 1000000), some (.ref 0), some (.ref 130), some (.int (iN i))]) (st' := [.ref 0]) (h' := mkS x S) rfl trivial ?_
  refine ev_callV (N := mX10_forget) (d' := 1) (bc := bc) (bs := bs) (bc' := 0) (bs' := 0) (as := []) (rest := []) (a := 0) (ci := 10) (dcd T rfl) okX10_forget inX10_forget seX10_forget lk12_144 rfl (by decide) (Nat.le_of_ble_eq_true rfl) rfl ⟨by decide, rfl⟩ (gpX10_forget_0 x S _ _ e1) (fun v h' hq hn => ?_)
  obtain ⟨rfl, rfl⟩ := hq
  refine Ev.steps T 1 (P := True) (pc' := 1246) (lv' := [some (.ref 1000000), some (.ref 0), some (.ref 130), some (.int (iN i))]) (st' := [.ref 130, .int r]) (h' := mkS x S1) rfl trivial ?_
  refine ev_callV (N := mX11_forget) (d' := 1) (bc := bc) (bs := bs) (bc' := 0) (bs' := 0) (as := []) (rest := [.int r]) (a := 130) (ci := 11) (dcd T rfl) okX11_forget inX11_forget seX11_forget lk12_147 rfl (by decide) (Nat.le_of_ble_eq_true rfl) rfl ⟨by decide, rfl⟩ (gpX11_forget_130 x S1 _ _ e2) (fun v h' hq hn => ?_)
  obtain ⟨rfl, rfl⟩ := hq
  refine Ev.steps T 1 (P := True) (pc' := if r = r then 1535 else 1252) (lv' := [some (.ref 1000000), some (.ref 0), some (.ref 130), some (.int (iN i))]) (st' := []) (h' := mkS x S2) rfl trivial ?_
  rw [if_pos rfl]
  exact k x S2 e3 hx (by omega)
set_option maxRecDepth 60000 in
theorem cs_32 (L : Nat) (xs : Nat → Int32) (i : Nat) (hi : i + 6 ≤ L) (hL : L ≤ 3072) {x : XT} {S : ST} (h : Rel x S S) (hx : XW x) (hlt : 158 + x.1 + 5 < 1000000) {bc bs : Nat} {Q : Option Value → HP → Prop} (k : ∀ x' S', Rel x' S' S' → XW x' → x'.1 ≤ x.1 + 5 → Ev (mLaw L xs) 131 bc bs 1535 [some (.ref 1000000), some (.ref 0), some (.ref 130), some (.int (iN i))] [] (mkS x' S') Q) : Ev (mLaw L xs) 131 (bc + 5) (bs + 500) 1254 [some (.ref 1000000), some (.ref 0), some (.ref 130), some (.int (iN i))] [] (mkS x S) Q := by
  have T := tokLaw L xs
  obtain ⟨r, S1, S2, e1, e2, e3⟩ := b_kinds x S h
  refine Ev.wd (bc := bc) (bs := bs) ?_ (by omega) (by omega)
  refine Ev.steps T 1 (P := True) (pc' := 1255) (lv' := [some (.ref 1000000), some (.ref 0), some (.ref 130), some (.int (iN i))]) (st' := [.ref 0]) (h' := mkS x S) rfl trivial ?_
  refine ev_callV (N := mX10_kinds) (d' := 6) (bc := bc) (bs := bs) (bc' := 0) (bs' := 0) (as := []) (rest := []) (a := 0) (ci := 10) (dcd T rfl) okX10_kinds inX10_kinds seX10_kinds lk12_148 rfl (by decide) (Nat.le_of_ble_eq_true rfl) rfl ⟨by decide, rfl⟩ (gpX10_kinds_0 x S _ _ e1) (fun v h' hq hn => ?_)
  obtain ⟨rfl, rfl⟩ := hq
  refine Ev.steps T 1 (P := True) (pc' := 1259) (lv' := [some (.ref 1000000), some (.ref 0), some (.ref 130), some (.int (iN i))]) (st' := [.ref 130, .int r]) (h' := mkS x S1) rfl trivial ?_
  refine ev_callV (N := mX11_kinds) (d' := 128) (bc := bc) (bs := bs) (bc' := 0) (bs' := 0) (as := []) (rest := [.int r]) (a := 130) (ci := 11) (dcd T rfl) okX11_kinds inX11_kinds seX11_kinds lk12_151 rfl (by decide) (Nat.le_of_ble_eq_true rfl) rfl ⟨by decide, rfl⟩ (gpX11_kinds_130 x S1 _ _ e2) (fun v h' hq hn => ?_)
  obtain ⟨rfl, rfl⟩ := hq
  refine Ev.steps T 1 (P := True) (pc' := if r = r then 1535 else 1265) (lv' := [some (.ref 1000000), some (.ref 0), some (.ref 130), some (.int (iN i))]) (st' := []) (h' := mkS x S2) rfl trivial ?_
  rw [if_pos rfl]
  exact k x S2 e3 hx (by omega)
set_option maxRecDepth 60000 in
theorem cs_33 (L : Nat) (xs : Nat → Int32) (i : Nat) (hi : i + 6 ≤ L) (hL : L ≤ 3072) {x : XT} {S : ST} (h : Rel x S S) (hx : XW x) (hlt : 158 + x.1 + 5 < 1000000) {bc bs : Nat} {Q : Option Value → HP → Prop} (k : ∀ x' S', Rel x' S' S' → XW x' → x'.1 ≤ x.1 + 5 → Ev (mLaw L xs) 131 bc bs 1535 [some (.ref 1000000), some (.ref 0), some (.ref 130), some (.int (iN i))] [] (mkS x' S') Q) : Ev (mLaw L xs) 131 (bc + 5) (bs + 500) 1267 [some (.ref 1000000), some (.ref 0), some (.ref 130), some (.int (iN i))] [] (mkS x S) Q := by
  have T := tokLaw L xs
  obtain ⟨r, S1, S2, e1, e2, e3⟩ := b_ask x S h (xs (i + 1)) (xs (i + 2))
  refine Ev.wd (bc := bc) (bs := bs) ?_ (by omega) (by omega)
  refine Ev.steps T 5 (P := True) (pc' := 1272) (lv' := [some (.ref 1000000), some (.ref 0), some (.ref 130), some (.int (iN i))]) (st' := [.int (iN i + 1), .ref 1000000, .ref 0]) (h' := mkS x S) rfl trivial ?_
  refine ev_sld (dcd T rfl) rfl (sc_in (k := 1) (by omega) hL) ?_
  rw [sc_at1 xs (by omega)]
  refine Ev.steps T 4 (P := True) (pc' := 1277) (lv' := [some (.ref 1000000), some (.ref 0), some (.ref 130), some (.int (iN i))]) (st' := [.int (iN i + 2), .ref 1000000, .int (xs (i + 1)), .ref 0]) (h' := mkS x S) rfl trivial ?_
  refine ev_sld (dcd T rfl) rfl (sc_in (k := 2) (by omega) hL) ?_
  rw [sc_at2 xs (by omega)]
  refine ev_callV (N := mX10_ask) (d' := 7) (bc := bc) (bs := bs) (bc' := 0) (bs' := 0) (as := [.int (xs (i + 1)), .int (xs (i + 2))]) (rest := []) (a := 0) (ci := 10) (dcd T rfl) okX10_ask inX10_ask seX10_ask lk12_152 rfl (by decide) (Nat.le_of_ble_eq_true rfl) rfl ⟨by decide, rfl⟩ (gpX10_ask_0 x S (xs (i + 1)) (xs (i + 2)) _ _ e1) (fun v h' hq hn => ?_)
  obtain ⟨rfl, rfl⟩ := hq
  refine Ev.steps T 5 (P := True) (pc' := 1286) (lv' := [some (.ref 1000000), some (.ref 0), some (.ref 130), some (.int (iN i))]) (st' := [.int (iN i + 1), .ref 1000000, .ref 130, .int r]) (h' := mkS x S1) rfl trivial ?_
  refine ev_sld (dcd T rfl) rfl (sc_in (k := 1) (by omega) hL) ?_
  rw [sc_at1 xs (by omega)]
  refine Ev.steps T 4 (P := True) (pc' := 1291) (lv' := [some (.ref 1000000), some (.ref 0), some (.ref 130), some (.int (iN i))]) (st' := [.int (iN i + 2), .ref 1000000, .int (xs (i + 1)), .ref 130, .int r]) (h' := mkS x S1) rfl trivial ?_
  refine ev_sld (dcd T rfl) rfl (sc_in (k := 2) (by omega) hL) ?_
  rw [sc_at2 xs (by omega)]
  refine ev_callV (N := mX11_ask) (d' := 129) (bc := bc) (bs := bs) (bc' := 0) (bs' := 0) (as := [.int (xs (i + 1)), .int (xs (i + 2))]) (rest := [.int r]) (a := 130) (ci := 11) (dcd T rfl) okX11_ask inX11_ask seX11_ask lk12_155 rfl (by decide) (Nat.le_of_ble_eq_true rfl) rfl ⟨by decide, rfl⟩ (gpX11_ask_130 x S1 (xs (i + 1)) (xs (i + 2)) _ _ e2) (fun v h' hq hn => ?_)
  obtain ⟨rfl, rfl⟩ := hq
  refine Ev.steps T 1 (P := True) (pc' := if r = r then 1535 else 1298) (lv' := [some (.ref 1000000), some (.ref 0), some (.ref 130), some (.int (iN i))]) (st' := []) (h' := mkS x S2) rfl trivial ?_
  rw [if_pos rfl]
  exact k x S2 e3 hx (by omega)
set_option maxRecDepth 60000 in
theorem cs_34 (L : Nat) (xs : Nat → Int32) (i : Nat) (hi : i + 6 ≤ L) (hL : L ≤ 3072) {x : XT} {S : ST} (h : Rel x S S) (hx : XW x) (hlt : 158 + x.1 + 5 < 1000000) {bc bs : Nat} {Q : Option Value → HP → Prop} (k : ∀ x' S', Rel x' S' S' → XW x' → x'.1 ≤ x.1 + 5 → Ev (mLaw L xs) 131 bc bs 1535 [some (.ref 1000000), some (.ref 0), some (.ref 130), some (.int (iN i))] [] (mkS x' S') Q) : Ev (mLaw L xs) 131 (bc + 5) (bs + 500) 1300 [some (.ref 1000000), some (.ref 0), some (.ref 130), some (.int (iN i))] [] (mkS x S) Q := by
  have T := tokLaw L xs
  obtain ⟨r, S1, S2, e1, e2, e3⟩ := b_few x S h (xs (i + 1)) (xs (i + 2))
  refine Ev.wd (bc := bc) (bs := bs) ?_ (by omega) (by omega)
  refine Ev.steps T 5 (P := True) (pc' := 1305) (lv' := [some (.ref 1000000), some (.ref 0), some (.ref 130), some (.int (iN i))]) (st' := [.int (iN i + 1), .ref 1000000, .ref 0]) (h' := mkS x S) rfl trivial ?_
  refine ev_sld (dcd T rfl) rfl (sc_in (k := 1) (by omega) hL) ?_
  rw [sc_at1 xs (by omega)]
  refine Ev.steps T 4 (P := True) (pc' := 1310) (lv' := [some (.ref 1000000), some (.ref 0), some (.ref 130), some (.int (iN i))]) (st' := [.int (iN i + 2), .ref 1000000, .int (xs (i + 1)), .ref 0]) (h' := mkS x S) rfl trivial ?_
  refine ev_sld (dcd T rfl) rfl (sc_in (k := 2) (by omega) hL) ?_
  rw [sc_at2 xs (by omega)]
  refine ev_callV (N := mX10_few) (d' := 3) (bc := bc) (bs := bs) (bc' := 0) (bs' := 0) (as := [.int (xs (i + 1)), .int (xs (i + 2))]) (rest := []) (a := 0) (ci := 10) (dcd T rfl) okX10_few inX10_few seX10_few lk12_156 rfl (by decide) (Nat.le_of_ble_eq_true rfl) rfl ⟨by decide, rfl⟩ (gpX10_few_0 x S (xs (i + 1)) (xs (i + 2)) _ _ e1) (fun v h' hq hn => ?_)
  obtain ⟨rfl, rfl⟩ := hq
  refine Ev.steps T 5 (P := True) (pc' := 1319) (lv' := [some (.ref 1000000), some (.ref 0), some (.ref 130), some (.int (iN i))]) (st' := [.int (iN i + 1), .ref 1000000, .ref 130, .long r]) (h' := mkS x S1) rfl trivial ?_
  refine ev_sld (dcd T rfl) rfl (sc_in (k := 1) (by omega) hL) ?_
  rw [sc_at1 xs (by omega)]
  refine Ev.steps T 4 (P := True) (pc' := 1324) (lv' := [some (.ref 1000000), some (.ref 0), some (.ref 130), some (.int (iN i))]) (st' := [.int (iN i + 2), .ref 1000000, .int (xs (i + 1)), .ref 130, .long r]) (h' := mkS x S1) rfl trivial ?_
  refine ev_sld (dcd T rfl) rfl (sc_in (k := 2) (by omega) hL) ?_
  rw [sc_at2 xs (by omega)]
  refine ev_callV (N := mX11_few) (d' := 2) (bc := bc) (bs := bs) (bc' := 0) (bs' := 0) (as := [.int (xs (i + 1)), .int (xs (i + 2))]) (rest := [.long r]) (a := 130) (ci := 11) (dcd T rfl) okX11_few inX11_few seX11_few lk12_160 rfl (by decide) (Nat.le_of_ble_eq_true rfl) rfl ⟨by decide, rfl⟩ (gpX11_few_130 x S1 (xs (i + 1)) (xs (i + 2)) _ _ e2) (fun v h' hq hn => ?_)
  obtain ⟨rfl, rfl⟩ := hq
  refine Ev.steps T 2 (P := True) (pc' := if lg_cmp r r = 0 then 1535 else 1332) (lv' := [some (.ref 1000000), some (.ref 0), some (.ref 130), some (.int (iN i))]) (st' := []) (h' := mkS x S2) rfl trivial ?_
  rw [if_pos ((lg_cmp_eq r r).mpr rfl)]
  exact k x S2 e3 hx (by omega)
set_option maxRecDepth 60000 in
theorem cs_35 (L : Nat) (xs : Nat → Int32) (i : Nat) (hi : i + 6 ≤ L) (hL : L ≤ 3072) {x : XT} {S : ST} (h : Rel x S S) (hx : XW x) (hlt : 158 + x.1 + 5 < 1000000) {bc bs : Nat} {Q : Option Value → HP → Prop} (k : ∀ x' S', Rel x' S' S' → XW x' → x'.1 ≤ x.1 + 5 → Ev (mLaw L xs) 131 bc bs 1535 [some (.ref 1000000), some (.ref 0), some (.ref 130), some (.int (iN i))] [] (mkS x' S') Q) : Ev (mLaw L xs) 131 (bc + 5) (bs + 500) 1334 [some (.ref 1000000), some (.ref 0), some (.ref 130), some (.int (iN i))] [] (mkS x S) Q := by
  have T := tokLaw L xs
  obtain ⟨r, S1, S2, e1, e2, e3⟩ := b_compare x S h (xs (i + 1)) (xs (i + 2)) (xs (i + 3)) (xs (i + 4))
  refine Ev.wd (bc := bc) (bs := bs) ?_ (by omega) (by omega)
  refine Ev.steps T 5 (P := True) (pc' := 1339) (lv' := [some (.ref 1000000), some (.ref 0), some (.ref 130), some (.int (iN i))]) (st' := [.int (iN i + 1), .ref 1000000, .ref 0]) (h' := mkS x S) rfl trivial ?_
  refine ev_sld (dcd T rfl) rfl (sc_in (k := 1) (by omega) hL) ?_
  rw [sc_at1 xs (by omega)]
  refine Ev.steps T 4 (P := True) (pc' := 1344) (lv' := [some (.ref 1000000), some (.ref 0), some (.ref 130), some (.int (iN i))]) (st' := [.int (iN i + 2), .ref 1000000, .int (xs (i + 1)), .ref 0]) (h' := mkS x S) rfl trivial ?_
  refine ev_sld (dcd T rfl) rfl (sc_in (k := 2) (by omega) hL) ?_
  rw [sc_at2 xs (by omega)]
  refine Ev.steps T 4 (P := True) (pc' := 1349) (lv' := [some (.ref 1000000), some (.ref 0), some (.ref 130), some (.int (iN i))]) (st' := [.int (iN i + 3), .ref 1000000, .int (xs (i + 2)), .int (xs (i + 1)), .ref 0]) (h' := mkS x S) rfl trivial ?_
  refine ev_sld (dcd T rfl) rfl (sc_in (k := 3) (by omega) hL) ?_
  rw [sc_at3 xs (by omega)]
  refine Ev.steps T 4 (P := True) (pc' := 1354) (lv' := [some (.ref 1000000), some (.ref 0), some (.ref 130), some (.int (iN i))]) (st' := [.int (iN i + 4), .ref 1000000, .int (xs (i + 3)), .int (xs (i + 2)), .int (xs (i + 1)), .ref 0]) (h' := mkS x S) rfl trivial ?_
  refine ev_sld (dcd T rfl) rfl (sc_in (k := 4) (by omega) hL) ?_
  rw [sc_at4 xs (by omega)]
  refine ev_callV (N := mX10_compare) (d' := 7) (bc := bc) (bs := bs) (bc' := 0) (bs' := 0) (as := [.int (xs (i + 1)), .int (xs (i + 2)), .int (xs (i + 3)), .int (xs (i + 4))]) (rest := []) (a := 0) (ci := 10) (dcd T rfl) okX10_compare inX10_compare seX10_compare lk12_161 rfl (by decide) (Nat.le_of_ble_eq_true rfl) rfl ⟨by decide, rfl⟩ (gpX10_compare_0 x S (xs (i + 1)) (xs (i + 2)) (xs (i + 3)) (xs (i + 4)) _ _ e1) (fun v h' hq hn => ?_)
  obtain ⟨rfl, rfl⟩ := hq
  refine Ev.steps T 5 (P := True) (pc' := 1363) (lv' := [some (.ref 1000000), some (.ref 0), some (.ref 130), some (.int (iN i))]) (st' := [.int (iN i + 1), .ref 1000000, .ref 130, .int r]) (h' := mkS x S1) rfl trivial ?_
  refine ev_sld (dcd T rfl) rfl (sc_in (k := 1) (by omega) hL) ?_
  rw [sc_at1 xs (by omega)]
  refine Ev.steps T 4 (P := True) (pc' := 1368) (lv' := [some (.ref 1000000), some (.ref 0), some (.ref 130), some (.int (iN i))]) (st' := [.int (iN i + 2), .ref 1000000, .int (xs (i + 1)), .ref 130, .int r]) (h' := mkS x S1) rfl trivial ?_
  refine ev_sld (dcd T rfl) rfl (sc_in (k := 2) (by omega) hL) ?_
  rw [sc_at2 xs (by omega)]
  refine Ev.steps T 4 (P := True) (pc' := 1373) (lv' := [some (.ref 1000000), some (.ref 0), some (.ref 130), some (.int (iN i))]) (st' := [.int (iN i + 3), .ref 1000000, .int (xs (i + 2)), .int (xs (i + 1)), .ref 130, .int r]) (h' := mkS x S1) rfl trivial ?_
  refine ev_sld (dcd T rfl) rfl (sc_in (k := 3) (by omega) hL) ?_
  rw [sc_at3 xs (by omega)]
  refine Ev.steps T 4 (P := True) (pc' := 1378) (lv' := [some (.ref 1000000), some (.ref 0), some (.ref 130), some (.int (iN i))]) (st' := [.int (iN i + 4), .ref 1000000, .int (xs (i + 3)), .int (xs (i + 2)), .int (xs (i + 1)), .ref 130, .int r]) (h' := mkS x S1) rfl trivial ?_
  refine ev_sld (dcd T rfl) rfl (sc_in (k := 4) (by omega) hL) ?_
  rw [sc_at4 xs (by omega)]
  refine ev_callV (N := mX11_compare) (d' := 129) (bc := bc) (bs := bs) (bc' := 0) (bs' := 0) (as := [.int (xs (i + 1)), .int (xs (i + 2)), .int (xs (i + 3)), .int (xs (i + 4))]) (rest := [.int r]) (a := 130) (ci := 11) (dcd T rfl) okX11_compare inX11_compare seX11_compare lk12_164 rfl (by decide) (Nat.le_of_ble_eq_true rfl) rfl ⟨by decide, rfl⟩ (gpX11_compare_130 x S1 (xs (i + 1)) (xs (i + 2)) (xs (i + 3)) (xs (i + 4)) _ _ e2) (fun v h' hq hn => ?_)
  obtain ⟨rfl, rfl⟩ := hq
  refine Ev.steps T 1 (P := True) (pc' := if r = r then 1535 else 1385) (lv' := [some (.ref 1000000), some (.ref 0), some (.ref 130), some (.int (iN i))]) (st' := []) (h' := mkS x S2) rfl trivial ?_
  rw [if_pos rfl]
  exact k x S2 e3 hx (by omega)
end CASES
