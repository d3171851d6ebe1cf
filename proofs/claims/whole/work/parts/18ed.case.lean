section CASES
set_option maxRecDepth 60000 in
theorem cs_22 (L : Nat) (xs : Nat → Int32) (i : Nat) (hi : i + 6 ≤ L) (hL : L ≤ 3072) {x : XT} {S : ST} (h : Rel x S S) (hx : XW x) (hlt : 158 + x.1 + 5 < 1000000) {bc bs : Nat} {Q : Option Value → HP → Prop} (k : ∀ x' S', Rel x' S' S' → XW x' → x'.1 ≤ x.1 + 5 → Ev (mLaw L xs) 131 bc bs 1535 [some (.ref 1000000), some (.ref 0), some (.ref 130), some (.int (iN i))] [] (mkS x' S') Q) : Ev (mLaw L xs) 131 (bc + 5) (bs + 500) 862 [some (.ref 1000000), some (.ref 0), some (.ref 130), some (.int (iN i))] [] (mkS x S) Q := by
  have T := tokLaw L xs
  obtain ⟨r, S1, S2, e1, e2, e3⟩ := b_manys x S h (xs (i + 1)) (xs (i + 2))
  refine Ev.wd (bc := bc) (bs := bs) ?_ (by omega) (by omega)
  refine Ev.steps T 5 (P := True) (pc' := 867) (lv' := [some (.ref 1000000), some (.ref 0), some (.ref 130), some (.int (iN i))]) (st' := [.int (iN i + 1), .ref 1000000, .ref 0]) (h' := mkS x S) rfl trivial ?_
  refine ev_sld (dcd T rfl) rfl (sc_in (k := 1) (by omega) hL) ?_
  rw [sc_at1 xs (by omega)]
  refine Ev.steps T 4 (P := True) (pc' := 872) (lv' := [some (.ref 1000000), some (.ref 0), some (.ref 130), some (.int (iN i))]) (st' := [.int (iN i + 2), .ref 1000000, .int (xs (i + 1)), .ref 0]) (h' := mkS x S) rfl trivial ?_
  refine ev_sld (dcd T rfl) rfl (sc_in (k := 2) (by omega) hL) ?_
  rw [sc_at2 xs (by omega)]
  refine ev_callV (N := mX10_manys) (d' := 8) (bc := bc) (bs := bs) (bc' := 0) (bs' := 0) (as := [.int (xs (i + 1)), .int (xs (i + 2))]) (rest := []) (a := 0) (ci := 10) (dcd T rfl) okX10_manys inX10_manys seX10_manys lk12_107 rfl (by decide) (Nat.le_of_ble_eq_true rfl) rfl ⟨by decide, rfl⟩ (gpX10_manys_0 x S (xs (i + 1)) (xs (i + 2)) _ _ e1) (fun v h' hq hn => ?_)
  obtain ⟨rfl, rfl⟩ := hq
  refine Ev.steps T 5 (P := True) (pc' := 881) (lv' := [some (.ref 1000000), some (.ref 0), some (.ref 130), some (.int (iN i))]) (st' := [.int (iN i + 1), .ref 1000000, .ref 130, .int r]) (h' := mkS x S1) rfl trivial ?_
  refine ev_sld (dcd T rfl) rfl (sc_in (k := 1) (by omega) hL) ?_
  rw [sc_at1 xs (by omega)]
  refine Ev.steps T 4 (P := True) (pc' := 886) (lv' := [some (.ref 1000000), some (.ref 0), some (.ref 130), some (.int (iN i))]) (st' := [.int (iN i + 2), .ref 1000000, .int (xs (i + 1)), .ref 130, .int r]) (h' := mkS x S1) rfl trivial ?_
  refine ev_sld (dcd T rfl) rfl (sc_in (k := 2) (by omega) hL) ?_
  rw [sc_at2 xs (by omega)]
  refine ev_callV (N := mX11_manys) (d' := 128) (bc := bc) (bs := bs) (bc' := 0) (bs' := 0) (as := [.int (xs (i + 1)), .int (xs (i + 2))]) (rest := [.int r]) (a := 130) (ci := 11) (dcd T rfl) okX11_manys inX11_manys seX11_manys lk12_110 rfl (by decide) (Nat.le_of_ble_eq_true rfl) rfl ⟨by decide, rfl⟩ (gpX11_manys_130 x S1 (xs (i + 1)) (xs (i + 2)) _ _ e2) (fun v h' hq hn => ?_)
  obtain ⟨rfl, rfl⟩ := hq
  refine Ev.steps T 1 (P := True) (pc' := if r = r then 1535 else 893) (lv' := [some (.ref 1000000), some (.ref 0), some (.ref 130), some (.int (iN i))]) (st' := []) (h' := mkS x S2) rfl trivial ?_
  rw [if_pos rfl]
  exact k x S2 e3 hx (by omega)
set_option maxRecDepth 60000 in
theorem cs_23 (L : Nat) (xs : Nat → Int32) (i : Nat) (hi : i + 6 ≤ L) (hL : L ≤ 3072) {x : XT} {S : ST} (h : Rel x S S) (hx : XW x) (hlt : 158 + x.1 + 5 < 1000000) {bc bs : Nat} {Q : Option Value → HP → Prop} (k : ∀ x' S', Rel x' S' S' → XW x' → x'.1 ≤ x.1 + 5 → Ev (mLaw L xs) 131 bc bs 1535 [some (.ref 1000000), some (.ref 0), some (.ref 130), some (.int (iN i))] [] (mkS x' S') Q) : Ev (mLaw L xs) 131 (bc + 5) (bs + 500) 895 [some (.ref 1000000), some (.ref 0), some (.ref 130), some (.int (iN i))] [] (mkS x S) Q := by
  have T := tokLaw L xs
  obtain ⟨r, S1, S2, e1, e2, e3⟩ := b_reach x S h (xs (i + 1))
  refine Ev.wd (bc := bc) (bs := bs) ?_ (by omega) (by omega)
  refine Ev.steps T 5 (P := True) (pc' := 900) (lv' := [some (.ref 1000000), some (.ref 0), some (.ref 130), some (.int (iN i))]) (st' := [.int (iN i + 1), .ref 1000000, .ref 0]) (h' := mkS x S) rfl trivial ?_
  refine ev_sld (dcd T rfl) rfl (sc_in (k := 1) (by omega) hL) ?_
  rw [sc_at1 xs (by omega)]
  refine ev_callV (N := mX10_reach) (d' := 8) (bc := bc) (bs := bs) (bc' := 0) (bs' := 0) (as := [.int (xs (i + 1))]) (rest := []) (a := 0) (ci := 10) (dcd T rfl) okX10_reach inX10_reach seX10_reach lk12_111 rfl (by decide) (Nat.le_of_ble_eq_true rfl) rfl ⟨by decide, rfl⟩ (gpX10_reach_0 x S (xs (i + 1)) _ _ e1) (fun v h' hq hn => ?_)
  obtain ⟨rfl, rfl⟩ := hq
  refine Ev.steps T 5 (P := True) (pc' := 909) (lv' := [some (.ref 1000000), some (.ref 0), some (.ref 130), some (.int (iN i))]) (st' := [.int (iN i + 1), .ref 1000000, .ref 130, .int r]) (h' := mkS x S1) rfl trivial ?_
  refine ev_sld (dcd T rfl) rfl (sc_in (k := 1) (by omega) hL) ?_
  rw [sc_at1 xs (by omega)]
  refine ev_callV (N := mX11_reach) (d' := 128) (bc := bc) (bs := bs) (bc' := 0) (bs' := 0) (as := [.int (xs (i + 1))]) (rest := [.int r]) (a := 130) (ci := 11) (dcd T rfl) okX11_reach inX11_reach seX11_reach lk12_114 rfl (by decide) (Nat.le_of_ble_eq_true rfl) rfl ⟨by decide, rfl⟩ (gpX11_reach_130 x S1 (xs (i + 1)) _ _ e2) (fun v h' hq hn => ?_)
  obtain ⟨rfl, rfl⟩ := hq
  refine Ev.steps T 1 (P := True) (pc' := if r = r then 1535 else 916) (lv' := [some (.ref 1000000), some (.ref 0), some (.ref 130), some (.int (iN i))]) (st' := []) (h' := mkS x S2) rfl trivial ?_
  rw [if_pos rfl]
  exact k x S2 e3 hx (by omega)
set_option maxRecDepth 60000 in
theorem cs_24 (L : Nat) (xs : Nat → Int32) (i : Nat) (hi : i + 6 ≤ L) (hL : L ≤ 3072) {x : XT} {S : ST} (h : Rel x S S) (hx : XW x) (hlt : 158 + x.1 + 5 < 1000000) {bc bs : Nat} {Q : Option Value → HP → Prop} (k : ∀ x' S', Rel x' S' S' → XW x' → x'.1 ≤ x.1 + 5 → Ev (mLaw L xs) 131 bc bs 1535 [some (.ref 1000000), some (.ref 0), some (.ref 130), some (.int (iN i))] [] (mkS x' S') Q) : Ev (mLaw L xs) 131 (bc + 5) (bs + 500) 918 [some (.ref 1000000), some (.ref 0), some (.ref 130), some (.int (iN i))] [] (mkS x S) Q := by
  have T := tokLaw L xs
  obtain ⟨r, S1, S2, e1, e2, e3⟩ := b_ways x S h (xs (i + 1)) (xs (i + 2)) (xs (i + 3)) (xs (i + 4))
  refine Ev.wd (bc := bc) (bs := bs) ?_ (by omega) (by omega)
  refine Ev.steps T 5 (P := True) (pc' := 923) (lv' := [some (.ref 1000000), some (.ref 0), some (.ref 130), some (.int (iN i))]) (st' := [.int (iN i + 1), .ref 1000000, .ref 0]) (h' := mkS x S) rfl trivial ?_
  refine ev_sld (dcd T rfl) rfl (sc_in (k := 1) (by omega) hL) ?_
  rw [sc_at1 xs (by omega)]
  refine Ev.steps T 4 (P := True) (pc' := 928) (lv' := [some (.ref 1000000), some (.ref 0), some (.ref 130), some (.int (iN i))]) (st' := [.int (iN i + 2), .ref 1000000, .int (xs (i + 1)), .ref 0]) (h' := mkS x S) rfl trivial ?_
  refine ev_sld (dcd T rfl) rfl (sc_in (k := 2) (by omega) hL) ?_
  rw [sc_at2 xs (by omega)]
  refine Ev.steps T 4 (P := True) (pc' := 933) (lv' := [some (.ref 1000000), some (.ref 0), some (.ref 130), some (.int (iN i))]) (st' := [.int (iN i + 3), .ref 1000000, .int (xs (i + 2)), .int (xs (i + 1)), .ref 0]) (h' := mkS x S) rfl trivial ?_
  refine ev_sld (dcd T rfl) rfl (sc_in (k := 3) (by omega) hL) ?_
  rw [sc_at3 xs (by omega)]
  refine Ev.steps T 4 (P := True) (pc' := 938) (lv' := [some (.ref 1000000), some (.ref 0), some (.ref 130), some (.int (iN i))]) (st' := [.int (iN i + 4), .ref 1000000, .int (xs (i + 3)), .int (xs (i + 2)), .int (xs (i + 1)), .ref 0]) (h' := mkS x S) rfl trivial ?_
  refine ev_sld (dcd T rfl) rfl (sc_in (k := 4) (by omega) hL) ?_
  rw [sc_at4 xs (by omega)]
  refine ev_callV (N := mX10_ways) (d' := 7) (bc := bc) (bs := bs) (bc' := 0) (bs' := 0) (as := [.int (xs (i + 1)), .int (xs (i + 2)), .int (xs (i + 3)), .int (xs (i + 4))]) (rest := []) (a := 0) (ci := 10) (dcd T rfl) okX10_ways inX10_ways seX10_ways lk12_115 rfl (by decide) (Nat.le_of_ble_eq_true rfl) rfl ⟨by decide, rfl⟩ (gpX10_ways_0 x S (xs (i + 1)) (xs (i + 2)) (xs (i + 3)) (xs (i + 4)) _ _ e1) (fun v h' hq hn => ?_)
  obtain ⟨rfl, rfl⟩ := hq
  refine Ev.steps T 5 (P := True) (pc' := 947) (lv' := [some (.ref 1000000), some (.ref 0), some (.ref 130), some (.int (iN i))]) (st' := [.int (iN i + 1), .ref 1000000, .ref 130, .long r]) (h' := mkS x S1) rfl trivial ?_
  refine ev_sld (dcd T rfl) rfl (sc_in (k := 1) (by omega) hL) ?_
  rw [sc_at1 xs (by omega)]
  refine Ev.steps T 4 (P := True) (pc' := 952) (lv' := [some (.ref 1000000), some (.ref 0), some (.ref 130), some (.int (iN i))]) (st' := [.int (iN i + 2), .ref 1000000, .int (xs (i + 1)), .ref 130, .long r]) (h' := mkS x S1) rfl trivial ?_
  refine ev_sld (dcd T rfl) rfl (sc_in (k := 2) (by omega) hL) ?_
  rw [sc_at2 xs (by omega)]
  refine Ev.steps T 4 (P := True) (pc' := 957) (lv' := [some (.ref 1000000), some (.ref 0), some (.ref 130), some (.int (iN i))]) (st' := [.int (iN i + 3), .ref 1000000, .int (xs (i + 2)), .int (xs (i + 1)), .ref 130, .long r]) (h' := mkS x S1) rfl trivial ?_
  refine ev_sld (dcd T rfl) rfl (sc_in (k := 3) (by omega) hL) ?_
  rw [sc_at3 xs (by omega)]
  refine Ev.steps T 4 (P := True) (pc' := 962) (lv' := [some (.ref 1000000), some (.ref 0), some (.ref 130), some (.int (iN i))]) (st' := [.int (iN i + 4), .ref 1000000, .int (xs (i + 3)), .int (xs (i + 2)), .int (xs (i + 1)), .ref 130, .long r]) (h' := mkS x S1) rfl trivial ?_
  refine ev_sld (dcd T rfl) rfl (sc_in (k := 4) (by omega) hL) ?_
  rw [sc_at4 xs (by omega)]
  refine ev_callV (N := mX11_ways) (d' := 129) (bc := bc) (bs := bs) (bc' := 0) (bs' := 0) (as := [.int (xs (i + 1)), .int (xs (i + 2)), .int (xs (i + 3)), .int (xs (i + 4))]) (rest := [.long r]) (a := 130) (ci := 11) (dcd T rfl) okX11_ways inX11_ways seX11_ways lk12_119 rfl (by decide) (Nat.le_of_ble_eq_true rfl) rfl ⟨by decide, rfl⟩ (gpX11_ways_130 x S1 (xs (i + 1)) (xs (i + 2)) (xs (i + 3)) (xs (i + 4)) _ _ e2) (fun v h' hq hn => ?_)
  obtain ⟨rfl, rfl⟩ := hq
  refine Ev.steps T 2 (P := True) (pc' := if lg_cmp r r = 0 then 1535 else 970) (lv' := [some (.ref 1000000), some (.ref 0), some (.ref 130), some (.int (iN i))]) (st' := []) (h' := mkS x S2) rfl trivial ?_
  rw [if_pos ((lg_cmp_eq r r).mpr rfl)]
  exact k x S2 e3 hx (by omega)
set_option maxRecDepth 60000 in
theorem cs_25 (L : Nat) (xs : Nat → Int32) (i : Nat) (hi : i + 6 ≤ L) (hL : L ≤ 3072) {x : XT} {S : ST} (h : Rel x S S) (hx : XW x) (hlt : 158 + x.1 + 5 < 1000000) {bc bs : Nat} {Q : Option Value → HP → Prop} (k : ∀ x' S', Rel x' S' S' → XW x' → x'.1 ≤ x.1 + 5 → Ev (mLaw L xs) 131 bc bs 1535 [some (.ref 1000000), some (.ref 0), some (.ref 130), some (.int (iN i))] [] (mkS x' S') Q) : Ev (mLaw L xs) 131 (bc + 5) (bs + 500) 972 [some (.ref 1000000), some (.ref 0), some (.ref 130), some (.int (iN i))] [] (mkS x S) Q := by
  have T := tokLaw L xs
  obtain ⟨r, S1, S2, e1, e2, e3⟩ := b_likely x S h (xs (i + 1)) (xs (i + 2)) (xs (i + 3)) (xs (i + 4))
  refine Ev.wd (bc := bc) (bs := bs) ?_ (by omega) (by omega)
  refine Ev.steps T 5 (P := True) (pc' := 977) (lv' := [some (.ref 1000000), some (.ref 0), some (.ref 130), some (.int (iN i))]) (st' := [.int (iN i + 1), .ref 1000000, .ref 0]) (h' := mkS x S) rfl trivial ?_
  refine ev_sld (dcd T rfl) rfl (sc_in (k := 1) (by omega) hL) ?_
  rw [sc_at1 xs (by omega)]
  refine Ev.steps T 4 (P := True) (pc' := 982) (lv' := [some (.ref 1000000), some (.ref 0), some (.ref 130), some (.int (iN i))]) (st' := [.int (iN i + 2), .ref 1000000, .int (xs (i + 1)), .ref 0]) (h' := mkS x S) rfl trivial ?_
  refine ev_sld (dcd T rfl) rfl (sc_in (k := 2) (by omega) hL) ?_
  rw [sc_at2 xs (by omega)]
  refine Ev.steps T 4 (P := True) (pc' := 987) (lv' := [some (.ref 1000000), some (.ref 0), some (.ref 130), some (.int (iN i))]) (st' := [.int (iN i + 3), .ref 1000000, .int (xs (i + 2)), .int (xs (i + 1)), .ref 0]) (h' := mkS x S) rfl trivial ?_
  refine ev_sld (dcd T rfl) rfl (sc_in (k := 3) (by omega) hL) ?_
  rw [sc_at3 xs (by omega)]
  refine Ev.steps T 4 (P := True) (pc' := 992) (lv' := [some (.ref 1000000), some (.ref 0), some (.ref 130), some (.int (iN i))]) (st' := [.int (iN i + 4), .ref 1000000, .int (xs (i + 3)), .int (xs (i + 2)), .int (xs (i + 1)), .ref 0]) (h' := mkS x S) rfl trivial ?_
  refine ev_sld (dcd T rfl) rfl (sc_in (k := 4) (by omega) hL) ?_
  rw [sc_at4 xs (by omega)]
  refine ev_callV (N := mX10_likely) (d' := 7) (bc := bc) (bs := bs) (bc' := 0) (bs' := 0) (as := [.int (xs (i + 1)), .int (xs (i + 2)), .int (xs (i + 3)), .int (xs (i + 4))]) (rest := []) (a := 0) (ci := 10) (dcd T rfl) okX10_likely inX10_likely seX10_likely lk12_120 rfl (by decide) (Nat.le_of_ble_eq_true rfl) rfl ⟨by decide, rfl⟩ (gpX10_likely_0 x S (xs (i + 1)) (xs (i + 2)) (xs (i + 3)) (xs (i + 4)) _ _ e1) (fun v h' hq hn => ?_)
  obtain ⟨rfl, rfl⟩ := hq
  refine Ev.steps T 5 (P := True) (pc' := 1001) (lv' := [some (.ref 1000000), some (.ref 0), some (.ref 130), some (.int (iN i))]) (st' := [.int (iN i + 1), .ref 1000000, .ref 130, .long r]) (h' := mkS x S1) rfl trivial ?_
  refine ev_sld (dcd T rfl) rfl (sc_in (k := 1) (by omega) hL) ?_
  rw [sc_at1 xs (by omega)]
  refine Ev.steps T 4 (P := True) (pc' := 1006) (lv' := [some (.ref 1000000), some (.ref 0), some (.ref 130), some (.int (iN i))]) (st' := [.int (iN i + 2), .ref 1000000, .int (xs (i + 1)), .ref 130, .long r]) (h' := mkS x S1) rfl trivial ?_
  refine ev_sld (dcd T rfl) rfl (sc_in (k := 2) (by omega) hL) ?_
  rw [sc_at2 xs (by omega)]
  refine Ev.steps T 4 (P := True) (pc' := 1011) (lv' := [some (.ref 1000000), some (.ref 0), some (.ref 130), some (.int (iN i))]) (st' := [.int (iN i + 3), .ref 1000000, .int (xs (i + 2)), .int (xs (i + 1)), .ref 130, .long r]) (h' := mkS x S1) rfl trivial ?_
  refine ev_sld (dcd T rfl) rfl (sc_in (k := 3) (by omega) hL) ?_
  rw [sc_at3 xs (by omega)]
  refine Ev.steps T 4 (P := True) (pc' := 1016) (lv' := [some (.ref 1000000), some (.ref 0), some (.ref 130), some (.int (iN i))]) (st' := [.int (iN i + 4), .ref 1000000, .int (xs (i + 3)), .int (xs (i + 2)), .int (xs (i + 1)), .ref 130, .long r]) (h' := mkS x S1) rfl trivial ?_
  refine ev_sld (dcd T rfl) rfl (sc_in (k := 4) (by omega) hL) ?_
  rw [sc_at4 xs (by omega)]
  refine ev_callV (N := mX11_likely) (d' := 129) (bc := bc) (bs := bs) (bc' := 0) (bs' := 0) (as := [.int (xs (i + 1)), .int (xs (i + 2)), .int (xs (i + 3)), .int (xs (i + 4))]) (rest := [.long r]) (a := 130) (ci := 11) (dcd T rfl) okX11_likely inX11_likely seX11_likely lk12_123 rfl (by decide) (Nat.le_of_ble_eq_true rfl) rfl ⟨by decide, rfl⟩ (gpX11_likely_130 x S1 (xs (i + 1)) (xs (i + 2)) (xs (i + 3)) (xs (i + 4)) _ _ e2) (fun v h' hq hn => ?_)
  obtain ⟨rfl, rfl⟩ := hq
  refine Ev.steps T 2 (P := True) (pc' := if lg_cmp r r = 0 then 1535 else 1024) (lv' := [some (.ref 1000000), some (.ref 0), some (.ref 130), some (.int (iN i))]) (st' := []) (h' := mkS x S2) rfl trivial ?_
  rw [if_pos ((lg_cmp_eq r r).mpr rfl)]
  exact k x S2 e3 hx (by omega)
set_option maxRecDepth 60000 in
theorem cs_26 (L : Nat) (xs : Nat → Int32) (i : Nat) (hi : i + 6 ≤ L) (hL : L ≤ 3072) {x : XT} {S : ST} (h : Rel x S S) (hx : XW x) (hlt : 158 + x.1 + 5 < 1000000) {bc bs : Nat} {Q : Option Value → HP → Prop} (k : ∀ x' S', Rel x' S' S' → XW x' → x'.1 ≤ x.1 + 5 → Ev (mLaw L xs) 131 bc bs 1535 [some (.ref 1000000), some (.ref 0), some (.ref 130), some (.int (iN i))] [] (mkS x' S') Q) : Ev (mLaw L xs) 131 (bc + 5) (bs + 500) 1026 [some (.ref 1000000), some (.ref 0), some (.ref 130), some (.int (iN i))] [] (mkS x S) Q := by
  have T := tokLaw L xs
  obtain ⟨r, S1, S2, e1, e2, e3⟩ := b_again x S h (xs (i + 1)) (xs (i + 2)) (xs (i + 3))
  refine Ev.wd (bc := bc) (bs := bs) ?_ (by omega) (by omega)
  refine Ev.steps T 5 (P := True) (pc' := 1031) (lv' := [some (.ref 1000000), some (.ref 0), some (.ref 130), some (.int (iN i))]) (st' := [.int (iN i + 1), .ref 1000000, .ref 0]) (h' := mkS x S) rfl trivial ?_
  refine ev_sld (dcd T rfl) rfl (sc_in (k := 1) (by omega) hL) ?_
  rw [sc_at1 xs (by omega)]
  refine Ev.steps T 4 (P := True) (pc' := 1036) (lv' := [some (.ref 1000000), some (.ref 0), some (.ref 130), some (.int (iN i))]) (st' := [.int (iN i + 2), .ref 1000000, .int (xs (i + 1)), .ref 0]) (h' := mkS x S) rfl trivial ?_
  refine ev_sld (dcd T rfl) rfl (sc_in (k := 2) (by omega) hL) ?_
  rw [sc_at2 xs (by omega)]
  refine Ev.steps T 4 (P := True) (pc' := 1041) (lv' := [some (.ref 1000000), some (.ref 0), some (.ref 130), some (.int (iN i))]) (st' := [.int (iN i + 3), .ref 1000000, .int (xs (i + 2)), .int (xs (i + 1)), .ref 0]) (h' := mkS x S) rfl trivial ?_
  refine ev_sld (dcd T rfl) rfl (sc_in (k := 3) (by omega) hL) ?_
  rw [sc_at3 xs (by omega)]
  refine ev_callV (N := mX10_again) (d' := 5) (bc := bc) (bs := bs) (bc' := 0) (bs' := 0) (as := [.int (xs (i + 1)), .int (xs (i + 2)), .int (xs (i + 3))]) (rest := []) (a := 0) (ci := 10) (dcd T rfl) okX10_again inX10_again seX10_again lk12_124 rfl (by decide) (Nat.le_of_ble_eq_true rfl) rfl ⟨by decide, rfl⟩ (gpX10_again_0 x S (xs (i + 1)) (xs (i + 2)) (xs (i + 3)) _ _ e1) (fun v h' hq hn => ?_)
  obtain ⟨rfl, rfl⟩ := hq
  refine Ev.steps T 5 (P := True) (pc' := 1050) (lv' := [some (.ref 1000000), some (.ref 0), some (.ref 130), some (.int (iN i))]) (st' := [.int (iN i + 1), .ref 1000000, .ref 130, .int r]) (h' := mkS x S1) rfl trivial ?_
  refine ev_sld (dcd T rfl) rfl (sc_in (k := 1) (by omega) hL) ?_
  rw [sc_at1 xs (by omega)]
  refine Ev.steps T 4 (P := True) (pc' := 1055) (lv' := [some (.ref 1000000), some (.ref 0), some (.ref 130), some (.int (iN i))]) (st' := [.int (iN i + 2), .ref 1000000, .int (xs (i + 1)), .ref 130, .int r]) (h' := mkS x S1) rfl trivial ?_
  refine ev_sld (dcd T rfl) rfl (sc_in (k := 2) (by omega) hL) ?_
  rw [sc_at2 xs (by omega)]
  refine Ev.steps T 4 (P := True) (pc' := 1060) (lv' := [some (.ref 1000000), some (.ref 0), some (.ref 130), some (.int (iN i))]) (st' := [.int (iN i + 3), .ref 1000000, .int (xs (i + 2)), .int (xs (i + 1)), .ref 130, .int r]) (h' := mkS x S1) rfl trivial ?_
  refine ev_sld (dcd T rfl) rfl (sc_in (k := 3) (by omega) hL) ?_
  rw [sc_at3 xs (by omega)]
  refine ev_callV (N := mX11_again) (d' := 126) (bc := bc) (bs := bs) (bc' := 0) (bs' := 0) (as := [.int (xs (i + 1)), .int (xs (i + 2)), .int (xs (i + 3))]) (rest := [.int r]) (a := 130) (ci := 11) (dcd T rfl) okX11_again inX11_again seX11_again lk12_127 rfl (by decide) (Nat.le_of_ble_eq_true rfl) rfl ⟨by decide, rfl⟩ (gpX11_again_130 x S1 (xs (i + 1)) (xs (i + 2)) (xs (i + 3)) _ _ e2) (fun v h' hq hn => ?_)
  obtain ⟨rfl, rfl⟩ := hq
  refine Ev.steps T 1 (P := True) (pc' := if r = r then 1535 else 1067) (lv' := [some (.ref 1000000), some (.ref 0), some (.ref 130), some (.int (iN i))]) (st' := []) (h' := mkS x S2) rfl trivial ?_
  rw [if_pos rfl]
  exact k x S2 e3 hx (by omega)
set_option maxRecDepth 60000 in
theorem cs_27 (L : Nat) (xs : Nat → Int32) (i : Nat) (hi : i + 6 ≤ L) (hL : L ≤ 3072) {x : XT} {S : ST} (h : Rel x S S) (hx : XW x) (hlt : 158 + x.1 + 5 < 1000000) {bc bs : Nat} {Q : Option Value → HP → Prop} (k : ∀ x' S', Rel x' S' S' → XW x' → x'.1 ≤ x.1 + 5 → Ev (mLaw L xs) 131 bc bs 1535 [some (.ref 1000000), some (.ref 0), some (.ref 130), some (.int (iN i))] [] (mkS x' S') Q) : Ev (mLaw L xs) 131 (bc + 5) (bs + 500) 1069 [some (.ref 1000000), some (.ref 0), some (.ref 130), some (.int (iN i))] [] (mkS x S) Q := by
  have T := tokLaw L xs
  obtain ⟨r, S1, S2, e1, e2, e3⟩ := b_fixed x S h (xs (i + 1)) (xs (i + 2)) (xs (i + 3))
  refine Ev.wd (bc := bc) (bs := bs) ?_ (by omega) (by omega)
  refine Ev.steps T 5 (P := True) (pc' := 1074) (lv' := [some (.ref 1000000), some (.ref 0), some (.ref 130), some (.int (iN i))]) (st' := [.int (iN i + 1), .ref 1000000, .ref 0]) (h' := mkS x S) rfl trivial ?_
  refine ev_sld (dcd T rfl) rfl (sc_in (k := 1) (by omega) hL) ?_
  rw [sc_at1 xs (by omega)]
  refine Ev.steps T 4 (P := True) (pc' := 1079) (lv' := [some (.ref 1000000), some (.ref 0), some (.ref 130), some (.int (iN i))]) (st' := [.int (iN i + 2), .ref 1000000, .int (xs (i + 1)), .ref 0]) (h' := mkS x S) rfl trivial ?_
  refine ev_sld (dcd T rfl) rfl (sc_in (k := 2) (by omega) hL) ?_
  rw [sc_at2 xs (by omega)]
  refine Ev.steps T 4 (P := True) (pc' := 1084) (lv' := [some (.ref 1000000), some (.ref 0), some (.ref 130), some (.int (iN i))]) (st' := [.int (iN i + 3), .ref 1000000, .int (xs (i + 2)), .int (xs (i + 1)), .ref 0]) (h' := mkS x S) rfl trivial ?_
  refine ev_sld (dcd T rfl) rfl (sc_in (k := 3) (by omega) hL) ?_
  rw [sc_at3 xs (by omega)]
  refine ev_callV (N := mX10_fixed) (d' := 7) (bc := bc) (bs := bs) (bc' := 0) (bs' := 0) (as := [.int (xs (i + 1)), .int (xs (i + 2)), .int (xs (i + 3))]) (rest := []) (a := 0) (ci := 10) (dcd T rfl) okX10_fixed inX10_fixed seX10_fixed lk12_128 rfl (by decide) (Nat.le_of_ble_eq_true rfl) rfl ⟨by decide, rfl⟩ (gpX10_fixed_0 x S (xs (i + 1)) (xs (i + 2)) (xs (i + 3)) _ _ e1) (fun v h' hq hn => ?_)
  obtain ⟨rfl, rfl⟩ := hq
  refine Ev.steps T 5 (P := True) (pc' := 1093) (lv' := [some (.ref 1000000), some (.ref 0), some (.ref 130), some (.int (iN i))]) (st' := [.int (iN i + 1), .ref 1000000, .ref 130, .int r]) (h' := mkS x S1) rfl trivial ?_
  refine ev_sld (dcd T rfl) rfl (sc_in (k := 1) (by omega) hL) ?_
  rw [sc_at1 xs (by omega)]
  refine Ev.steps T 4 (P := True) (pc' := 1098) (lv' := [some (.ref 1000000), some (.ref 0), some (.ref 130), some (.int (iN i))]) (st' := [.int (iN i + 2), .ref 1000000, .int (xs (i + 1)), .ref 130, .int r]) (h' := mkS x S1) rfl trivial ?_
  refine ev_sld (dcd T rfl) rfl (sc_in (k := 2) (by omega) hL) ?_
  rw [sc_at2 xs (by omega)]
  refine Ev.steps T 4 (P := True) (pc' := 1103) (lv' := [some (.ref 1000000), some (.ref 0), some (.ref 130), some (.int (iN i))]) (st' := [.int (iN i + 3), .ref 1000000, .int (xs (i + 2)), .int (xs (i + 1)), .ref 130, .int r]) (h' := mkS x S1) rfl trivial ?_
  refine ev_sld (dcd T rfl) rfl (sc_in (k := 3) (by omega) hL) ?_
  rw [sc_at3 xs (by omega)]
  refine ev_callV (N := mX11_fixed) (d' := 128) (bc := bc) (bs := bs) (bc' := 0) (bs' := 0) (as := [.int (xs (i + 1)), .int (xs (i + 2)), .int (xs (i + 3))]) (rest := [.int r]) (a := 130) (ci := 11) (dcd T rfl) okX11_fixed inX11_fixed seX11_fixed lk12_131 rfl (by decide) (Nat.le_of_ble_eq_true rfl) rfl ⟨by decide, rfl⟩ (gpX11_fixed_130 x S1 (xs (i + 1)) (xs (i + 2)) (xs (i + 3)) _ _ e2) (fun v h' hq hn => ?_)
  obtain ⟨rfl, rfl⟩ := hq
  refine Ev.steps T 1 (P := True) (pc' := if r = r then 1535 else 1110) (lv' := [some (.ref 1000000), some (.ref 0), some (.ref 130), some (.int (iN i))]) (st' := []) (h' := mkS x S2) rfl trivial ?_
  rw [if_pos rfl]
  exact k x S2 e3 hx (by omega)
end CASES
