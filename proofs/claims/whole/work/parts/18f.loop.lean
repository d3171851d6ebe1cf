section LAWLOOP
theorem and63 (v : Int32) : ∃ z, z < 64 ∧ v &&& 63 = iN z := by
  refine ⟨(v &&& 63).toBitVec.toNat, ?_, ?_⟩
  · have : (v &&& 63).toBitVec.toNat = v.toBitVec.toNat &&& 63 := by
      rw [Int32.toBitVec_and, BitVec.toNat_and]
      rfl
    rw [this]
    exact Nat.lt_of_le_of_lt Nat.and_le_right (by decide)
  · apply Int32.toBitVec_inj.mp
    show (v &&& 63).toBitVec = (Int32.ofNat _).toBitVec
    rw [Int32.toBitVec_ofNat', BitVec.ofNat_toNat, BitVec.setWidth_eq]
theorem gt_end {L i : Nat} (hL : L ≤ 3072) (hi : i ≤ 4000) : iN L - 6 < iN i ↔ L < i + 6 := by
  by_cases c : 6 ≤ L
  · rw [show iN L - 6 = iN (L - 6) from iN_sub (m := L) (n := 6) c, iN_lt (by omega) (by omega)]
    omega
  · constructor
    · intro _; omega
    · intro _
      rw [Int32.lt_iff_toInt_lt, iN_int (by omega)]
      have : L = 0 ∨ L = 1 ∨ L = 2 ∨ L = 3 ∨ L = 4 ∨ L = 5 := by omega
      have n : (iN L - 6).toInt < 0 := by rcases this with rfl | rfl | rfl | rfl | rfl | rfl <;> decide
      omega
set_option maxRecDepth 60000 in
set_option maxHeartbeats 4000000 in
theorem law_case (L : Nat) (xs : Nat → Int32) (i : Nat) (hi : i + 6 ≤ L) (hL : L ≤ 3072) {x : XT} {S : ST} (h : Rel x S S) (hx : XW x) (hlt : 158 + x.1 + 5 < 1000000) {bc bs : Nat} {Q : Option Value → HP → Prop} (k : ∀ x' S', Rel x' S' S' → XW x' → x'.1 ≤ x.1 + 5 → Ev (mLaw L xs) 131 bc bs 1535 [some (.ref 1000000), some (.ref 0), some (.ref 130), some (.int (iN i))] [] (mkS x' S') Q) (z : Nat) (hz : z < 64) : Ev (mLaw L xs) 131 (bc + 5) (bs + 500) 33 [some (.ref 1000000), some (.ref 0), some (.ref 130), some (.int (iN i))] [.int (iN z)] (mkS x S) Q := by
  have T := tokLaw L xs
  by_cases c : z < 42
  · have hc : z = 0 ∨ z = 1 ∨ z = 2 ∨ z = 3 ∨ z = 4 ∨ z = 5 ∨ z = 6 ∨ z = 7 ∨ z = 8 ∨ z = 9 ∨ z = 10 ∨ z = 11 ∨ z = 12 ∨ z = 13 ∨ z = 14 ∨ z = 15 ∨ z = 16 ∨ z = 17 ∨ z = 18 ∨ z = 19 ∨ z = 20 ∨ z = 21 ∨ z = 22 ∨ z = 23 ∨ z = 24 ∨ z = 25 ∨ z = 26 ∨ z = 27 ∨ z = 28 ∨ z = 29 ∨ z = 30 ∨ z = 31 ∨ z = 32 ∨ z = 33 ∨ z = 34 ∨ z = 35 ∨ z = 36 ∨ z = 37 ∨ z = 38 ∨ z = 39 ∨ z = 40 ∨ z = 41 := by omega
    rcases hc with rfl | rfl | rfl | rfl | rfl | rfl | rfl | rfl | rfl | rfl | rfl | rfl | rfl | rfl | rfl | rfl | rfl | rfl | rfl | rfl | rfl | rfl | rfl | rfl | rfl | rfl | rfl | rfl | rfl | rfl | rfl | rfl | rfl | rfl | rfl | rfl | rfl | rfl | rfl | rfl | rfl | rfl
    · exact ev_tIn (off := 183) (t := 216) (dcd T rfl) (by decide) (by decide) rfl rfl (cs_0 L xs i hi hL h hx hlt k)
    · exact ev_tIn (off := 236) (t := 269) (dcd T rfl) (by decide) (by decide) rfl rfl (cs_1 L xs i hi hL h hx hlt k)
    · exact ev_tIn (off := 269) (t := 302) (dcd T rfl) (by decide) (by decide) rfl rfl (cs_2 L xs i hi hL h hx hlt k)
    · exact ev_tIn (off := 312) (t := 345) (dcd T rfl) (by decide) (by decide) rfl rfl (cs_3 L xs i hi hL h hx hlt k)
    · exact ev_tIn (off := 345) (t := 378) (dcd T rfl) (by decide) (by decide) rfl rfl (cs_4 L xs i hi hL h hx hlt k)
    · exact ev_tIn (off := 398) (t := 431) (dcd T rfl) (by decide) (by decide) rfl rfl (cs_5 L xs i hi hL h hx hlt k)
    · exact ev_tIn (off := 431) (t := 464) (dcd T rfl) (by decide) (by decide) rfl rfl (cs_6 L xs i hi hL h hx hlt k)
    · exact ev_tIn (off := 494) (t := 527) (dcd T rfl) (by decide) (by decide) rfl rfl (cs_7 L xs i hi hL h hx hlt k)
    · exact ev_tIn (off := 517) (t := 550) (dcd T rfl) (by decide) (by decide) rfl rfl (cs_8 L xs i hi hL h hx hlt k)
    · exact ev_tIn (off := 530) (t := 563) (dcd T rfl) (by decide) (by decide) rfl rfl (cs_9 L xs i hi hL h hx hlt k)
    · exact ev_tIn (off := 543) (t := 576) (dcd T rfl) (by decide) (by decide) rfl rfl (cs_10 L xs i hi hL h hx hlt k)
    · exact ev_tIn (off := 556) (t := 589) (dcd T rfl) (by decide) (by decide) rfl rfl (cs_11 L xs i hi hL h hx hlt k)
    · exact ev_tIn (off := 569) (t := 602) (dcd T rfl) (by decide) (by decide) rfl rfl (cs_12 L xs i hi hL h hx hlt k)
    · exact ev_tIn (off := 582) (t := 615) (dcd T rfl) (by decide) (by decide) rfl rfl (cs_13 L xs i hi hL h hx hlt k)
    · exact ev_tIn (off := 595) (t := 628) (dcd T rfl) (by decide) (by decide) rfl rfl (cs_14 L xs i hi hL h hx hlt k)
    · exact ev_tIn (off := 618) (t := 651) (dcd T rfl) (by decide) (by decide) rfl rfl (cs_15 L xs i hi hL h hx hlt k)
    · exact ev_tIn (off := 651) (t := 684) (dcd T rfl) (by decide) (by decide) rfl rfl (cs_16 L xs i hi hL h hx hlt k)
    · exact ev_tIn (off := 674) (t := 707) (dcd T rfl) (by decide) (by decide) rfl rfl (cs_17 L xs i hi hL h hx hlt k)
    · exact ev_tIn (off := 707) (t := 740) (dcd T rfl) (by decide) (by decide) rfl rfl (cs_18 L xs i hi hL h hx hlt k)
    · exact ev_tIn (off := 720) (t := 753) (dcd T rfl) (by decide) (by decide) rfl rfl (cs_19 L xs i hi hL h hx hlt k)
    · exact ev_tIn (off := 733) (t := 766) (dcd T rfl) (by decide) (by decide) rfl rfl (cs_20 L xs i hi hL h hx hlt k)
    · exact ev_tIn (off := 786) (t := 819) (dcd T rfl) (by decide) (by decide) rfl rfl (cs_21 L xs i hi hL h hx hlt k)
    · exact ev_tIn (off := 829) (t := 862) (dcd T rfl) (by decide) (by decide) rfl rfl (cs_22 L xs i hi hL h hx hlt k)
    · exact ev_tIn (off := 862) (t := 895) (dcd T rfl) (by decide) (by decide) rfl rfl (cs_23 L xs i hi hL h hx hlt k)
    · exact ev_tIn (off := 885) (t := 918) (dcd T rfl) (by decide) (by decide) rfl rfl (cs_24 L xs i hi hL h hx hlt k)
    · exact ev_tIn (off := 939) (t := 972) (dcd T rfl) (by decide) (by decide) rfl rfl (cs_25 L xs i hi hL h hx hlt k)
    · exact ev_tIn (off := 993) (t := 1026) (dcd T rfl) (by decide) (by decide) rfl rfl (cs_26 L xs i hi hL h hx hlt k)
    · exact ev_tIn (off := 1036) (t := 1069) (dcd T rfl) (by decide) (by decide) rfl rfl (cs_27 L xs i hi hL h hx hlt k)
    · exact ev_tIn (off := 1079) (t := 1112) (dcd T rfl) (by decide) (by decide) rfl rfl (cs_28 L xs i hi hL h hx hlt k)
    · exact ev_tIn (off := 1122) (t := 1155) (dcd T rfl) (by decide) (by decide) rfl rfl (cs_29 L xs i hi hL h hx hlt k)
    · exact ev_tIn (off := 1165) (t := 1198) (dcd T rfl) (by decide) (by decide) rfl rfl (cs_30 L xs i hi hL h hx hlt k)
    · exact ev_tIn (off := 1208) (t := 1241) (dcd T rfl) (by decide) (by decide) rfl rfl (cs_31 L xs i hi hL h hx hlt k)
    · exact ev_tIn (off := 1221) (t := 1254) (dcd T rfl) (by decide) (by decide) rfl rfl (cs_32 L xs i hi hL h hx hlt k)
    · exact ev_tIn (off := 1234) (t := 1267) (dcd T rfl) (by decide) (by decide) rfl rfl (cs_33 L xs i hi hL h hx hlt k)
    · exact ev_tIn (off := 1267) (t := 1300) (dcd T rfl) (by decide) (by decide) rfl rfl (cs_34 L xs i hi hL h hx hlt k)
    · exact ev_tIn (off := 1301) (t := 1334) (dcd T rfl) (by decide) (by decide) rfl rfl (cs_35 L xs i hi hL h hx hlt k)
    · exact ev_tIn (off := 1354) (t := 1387) (dcd T rfl) (by decide) (by decide) rfl rfl (cs_36 L xs i hi hL h hx hlt k)
    · exact ev_tIn (off := 1387) (t := 1420) (dcd T rfl) (by decide) (by decide) rfl rfl (cs_37 L xs i hi hL h hx hlt k)
    · exact ev_tIn (off := 1420) (t := 1453) (dcd T rfl) (by decide) (by decide) rfl rfl (cs_38 L xs i hi hL h hx hlt k)
    · exact ev_tIn (off := 1443) (t := 1476) (dcd T rfl) (by decide) (by decide) rfl rfl (cs_39 L xs i hi hL h hx hlt k)
    · exact ev_tIn (off := 1466) (t := 1499) (dcd T rfl) (by decide) (by decide) rfl rfl (cs_40 L xs i hi hL h hx hlt k)
    · exact ev_tIn (off := 1489) (t := 1522) (dcd T rfl) (by decide) (by decide) rfl rfl (cs_41 L xs i hi hL h hx hlt k)
  · refine ev_tOut (t := 1535) (dcd T rfl) (Or.inr ?_) rfl ?_
    · show (41 : Int) < (iN z).toInt
      rw [iN_int (by omega)]
      omega
    · exact Ev.wd (k x S h hx (by omega)) (by omega) (by omega)
set_option maxRecDepth 60000 in
theorem law_loop (L : Nat) (xs : Nat → Int32) (hL : L ≤ 3072) : ∀ (q i : Nat) (x : XT) (S : ST), L < i + 6 + 6 * q → i ≤ 3078 → x.1 + 5 * q ≤ 5000 → Rel x S S → XW x → Ev (mLaw L xs) 131 (5 * q) (500 * q) 18 [some (.ref 1000000), some (.ref 0), some (.ref 130), some (.int (iN i))] [] (mkS x S) (fun v _ => v = some (.int 1)) := by
  intro q
  induction q with
  | zero =>
    intro i x S hq hi hr h hx
    have T := tokLaw L xs
    refine Ev.steps T 2 (P := True) (pc' := 20) (lv' := [some (.ref 1000000), some (.ref 0), some (.ref 130), some (.int (iN i))]) (st' := [.ref 1000000, .int (iN i)]) (h' := mkS x S) rfl trivial ?_
    refine ev_slen (dcd T rfl) rfl ?_
    refine Ev.steps T 3 (P := True) (pc' := if (iN L - 6) < iN i then 1541 else 27) (lv' := [some (.ref 1000000), some (.ref 0), some (.ref 130), some (.int (iN i))]) (st' := []) (h' := mkS x S) rfl trivial ?_
    rw [if_pos ((gt_end hL (by omega)).mpr (by omega))]
    refine Ev.steps T 1 (P := True) (pc' := 1542) (lv' := [some (.ref 1000000), some (.ref 0), some (.ref 130), some (.int (iN i))]) (st' := [.int 1]) (h' := mkS x S) rfl trivial ?_
    exact Ev.retz T rfl rfl (Or.inr rfl) rfl
  | succ q ih =>
    intro i x S hq hi hr h hx
    have T := tokLaw L xs
    refine Ev.steps T 2 (P := True) (pc' := 20) (lv' := [some (.ref 1000000), some (.ref 0), some (.ref 130), some (.int (iN i))]) (st' := [.ref 1000000, .int (iN i)]) (h' := mkS x S) rfl trivial ?_
    refine ev_slen (dcd T rfl) rfl ?_
    refine Ev.steps T 3 (P := True) (pc' := if (iN L - 6) < iN i then 1541 else 27) (lv' := [some (.ref 1000000), some (.ref 0), some (.ref 130), some (.int (iN i))]) (st' := []) (h' := mkS x S) rfl trivial ?_
    by_cases c : L < i + 6
    · rw [if_pos ((gt_end hL (by omega)).mpr c)]
      refine Ev.steps T 1 (P := True) (pc' := 1542) (lv' := [some (.ref 1000000), some (.ref 0), some (.ref 130), some (.int (iN i))]) (st' := [.int 1]) (h' := mkS x S) rfl trivial ?_
      exact Ev.retz T rfl rfl (Or.inr rfl) rfl
    · rw [if_neg (fun z => c ((gt_end hL (by omega)).mp z))]
      refine Ev.steps T 2 (P := True) (pc' := 29) (lv' := [some (.ref 1000000), some (.ref 0), some (.ref 130), some (.int (iN i))]) (st' := [.int (iN i), .ref 1000000]) (h' := mkS x S) rfl trivial ?_
      refine ev_sld (dcd T rfl) rfl (inb_ok (inb_t (show i < L by omega) (by omega))) ?_
      rw [iN_nat (by omega)]
      obtain ⟨z, hz, ez⟩ := and63 (xs i)
      refine Ev.steps T 2 (P := True) (pc' := 33) (lv' := [some (.ref 1000000), some (.ref 0), some (.ref 130), some (.int (iN i))]) (st' := [.int (xs i &&& 63)]) (h' := mkS x S) rfl trivial ?_
      rw [ez]
      refine law_case L xs i (by omega) hL h hx (by omega) (bc := 5 * q) (bs := 500 * q) (fun x' S' h' hx' hr' => ?_) z hz
      refine Ev.steps T 2 (P := True) (pc' := 18) (lv' := [some (.ref 1000000), some (.ref 0), some (.ref 130), some (.int (iN i + 6))]) (st' := []) (h' := mkS x' S') rfl trivial ?_
      rw [show iN i + 6 = iN (i + 6) from iN_add i 6]
      exact ih (i + 6) x' S' (by omega) (by omega) (by omega) h' hx'
end LAWLOOP
