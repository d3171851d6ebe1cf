section LAWCT
theorem Ev.wd {M : MI} {d bc bs bc' bs' pc : Nat} {lv : List (Option Value)} {st : List Value} {h : HP} {Q : Option Value → HP → Prop} (k : Ev M d bc bs pc lv st h Q) (h1 : bc ≤ bc') (h2 : bs ≤ bs') : Ev M d bc' bs' pc lv st h Q := by
  intro p l e R s m args below meth c D cy G L xs H locs cells slots ls Z C hd hr hK hH hS hl hZ
  obtain ⟨r1, r2⟩ := hr
  exact k p l e R s m args below meth c D cy G L xs H locs cells slots ls Z C hd ⟨by omega, by omega⟩ hK hH hS hl (fun v h' H' locs' cells' slots' ls' pc' a1 a2 a3 a4 a5 a6 a7 => hZ v h' H' locs' cells' slots' ls' pc' a1 a2 a3 a4 a5 (by omega) (by omega))
set_option maxRecDepth 4000 in
theorem gp_law (x : XT) (S : ST) (h : Rel x S S) (hx : XW x) (hlt : 158 + x.1 + 5 < 1000000) : ∃ r x' S1 T', Ct mX10_law 67 5 500 [.ref 0] (mkS x S) (fun v h => v = some (.int r) ∧ h = mkS x' S1) ∧ gfX11_law_130 x' S1 = some (r, T') ∧ Rel x' T' T' ∧ XW x' ∧ x'.1 ≤ x.1 + 5 := by
  rcases law_two x S h hx with ⟨c, S', S2, T', e1, e2, e3, e4⟩ | ⟨c, S4, S5, T', e1, e2, e3, e4⟩ | ⟨c, S4, C, Z, L, e1, hC, hZ, e4, e5, hN⟩
  · refine ⟨-5, x, S2, T', ?_, e3, e4, hx, by omega⟩
    refine Ct.of (lv := [some (.ref 0)]) rfl rfl rfl (show (_ : Nat) ≤ _ from Nat.le_of_ble_eq_true rfl) (fun G => rfl) ?_
    refine Ev.wd (bc := 0) (bs := 0) ?_ (by omega) (by omega)
    refine Ev.steps tokX10_law 5 (P := True) (pc' := if (S.1 1 16) < 6 then 26 else 12) (lv' := [some (.ref 0)]) (st' := []) (h' := mkS x S) rfl trivial ?_
    rw [if_neg c]
    refine Ev.steps tokX10_law 2 (P := True) (pc' := 16) (lv' := [some (.ref 0)]) (st' := [.ref 18]) (h' := mkS x S) rfl trivial ?_
    refine ev_callV (N := mX8_clear) (d' := 1) (bc := 0) (bs := 0) (bc' := 0) (bs' := 0) (as := []) (rest := []) (a := 18) (ci := 8) (dcd tokX10_law rfl) okX8_clear inX8_clear seX8_clear lk10_183 rfl (by decide) (Nat.le_of_ble_eq_true rfl) rfl ⟨by decide, rfl⟩ (gpX8_clear_18 x S _ _ e1) (fun v h' hq hn => ?_)
    obtain ⟨rfl, rfl⟩ := hq
    refine Ev.steps tokX10_law 2 (P := True) (pc' := 22) (lv' := [some (.ref 0)]) (st' := [.int (-5), .ref 0]) (h' := mkS x S') rfl trivial ?_
    refine ev_callV (N := mX10_told) (d' := 1) (bc := 0) (bs := 0) (bc' := 0) (bs' := 0) (as := [.int (-5)]) (rest := []) (a := 0) (ci := 10) (dcd tokX10_law rfl) okX10_told inX10_told seX10_told lk10_178 rfl (by decide) (Nat.le_of_ble_eq_true rfl) rfl ⟨by decide, rfl⟩ (gpX10_told_0 x S' (-5) _ _ e2) (fun v h' hq hn => ?_)
    obtain ⟨rfl, rfl⟩ := hq
    exact Ev.reti tokX10_law rfl rfl ⟨rfl, rfl⟩
  · refine ⟨-6, x, S5, T', ?_, e3, e4, hx, by omega⟩
    refine Ct.of (lv := [some (.ref 0)]) rfl rfl rfl (show (_ : Nat) ≤ _ from Nat.le_of_ble_eq_true rfl) (fun G => rfl) ?_
    refine Ev.wd (bc := 0) (bs := 0) ?_ (by omega) (by omega)
    refine Ev.steps tokX10_law 5 (P := True) (pc' := if (S.1 1 16) < 6 then 26 else 12) (lv' := [some (.ref 0)]) (st' := []) (h' := mkS x S) rfl trivial ?_
    rw [if_pos c]
    refine Ev.steps tokX10_law 2 (P := True) (pc' := 28) (lv' := [some (.ref 0)]) (st' := [.int 0, .ref 0]) (h' := mkS x S) rfl trivial ?_
    refine ev_callV (N := mX10_readTape) (d' := 66) (bc := 0) (bs := 0) (bc' := 0) (bs' := 0) (as := [.int 0]) (rest := []) (a := 0) (ci := 10) (dcd tokX10_law rfl) okX10_readTape inX10_readTape seX10_readTape lk10_189 rfl (by decide) (Nat.le_of_ble_eq_true rfl) rfl ⟨by decide, rfl⟩ (gpX10_readTape_0 x S 0 _ _ e1) (fun v h' hq hn => ?_)
    obtain ⟨rfl, rfl⟩ := hq
    refine Ev.steps tokX10_law 1 (P := True) (pc' := if (0 : Int32) = 0 then 58 else 34) (lv' := [some (.ref 0)]) (st' := []) (h' := mkS x S4) rfl trivial ?_
    rw [if_pos rfl]
    refine Ev.steps tokX10_law 2 (P := True) (pc' := 61) (lv' := [some (.ref 0)]) (st' := [.int (-6), .ref 0]) (h' := mkS x S4) rfl trivial ?_
    refine ev_callV (N := mX10_told) (d' := 1) (bc := 0) (bs := 0) (bc' := 0) (bs' := 0) (as := [.int (-6)]) (rest := []) (a := 0) (ci := 10) (dcd tokX10_law rfl) okX10_told inX10_told seX10_told lk10_178 rfl (by decide) (Nat.le_of_ble_eq_true rfl) rfl ⟨by decide, rfl⟩ (gpX10_told_0 x S4 (-6) _ _ e2) (fun v h' hq hn => ?_)
    obtain ⟨rfl, rfl⟩ := hq
    exact Ev.reti tokX10_law rfl rfl ⟨rfl, rfl⟩
  · obtain ⟨x', S5, q0, nt⟩ := new_text x S4 hx C Z
    obtain ⟨S6, S7, T', g1, g2, g3, g4, g5⟩ := hN x' S5 nt
    refine ⟨iN L, x', S7, T', ?_, g3, g4, g5, by rw [nt.1]; omega⟩
    refine Ct.of (lv := [some (.ref 0)]) rfl rfl rfl (show (_ : Nat) ≤ _ from Nat.le_of_ble_eq_true rfl) (fun G => rfl) ?_
    have n9 : nF 9 = 6 := rfl
    refine Ev.wd (bc := 0 + (0 + 4 + 1)) (bs := 0 + (0 + (0 + Z + 4 * C + C + C) + nF 9)) ?_ (by omega) (by omega)
    refine Ev.steps tokX10_law 5 (P := True) (pc' := if (S.1 1 16) < 6 then 26 else 12) (lv' := [some (.ref 0)]) (st' := []) (h' := mkS x S) rfl trivial ?_
    rw [if_pos c]
    refine Ev.steps tokX10_law 2 (P := True) (pc' := 28) (lv' := [some (.ref 0)]) (st' := [.int 0, .ref 0]) (h' := mkS x S) rfl trivial ?_
    refine ev_callV (N := mX10_readTape) (d' := 66) (bc := 0 + (0 + 4 + 1)) (bs := 0 + (0 + (0 + Z + 4 * C + C + C) + nF 9)) (bc' := 0) (bs' := 0) (as := [.int 0]) (rest := []) (a := 0) (ci := 10) (dcd tokX10_law rfl) okX10_readTape inX10_readTape seX10_readTape lk10_189 rfl (by decide) (Nat.le_of_ble_eq_true rfl) rfl ⟨by decide, rfl⟩ (gpX10_readTape_0 x S 0 _ _ e1) (fun v h' hq hn => ?_)
    obtain ⟨rfl, rfl⟩ := hq
    refine Ev.steps tokX10_law 1 (P := True) (pc' := if (1 : Int32) = 0 then 58 else 34) (lv' := [some (.ref 0)]) (st' := []) (h' := mkS x S4) rfl trivial ?_
    rw [if_neg (by decide)]
    refine Ev.steps tokX10_law 6 (P := True) (pc' := 46) (lv' := [some (.ref 0)]) (st' := [.ref 25, .ref 1, .ref 0]) (h' := mkS x S4) rfl trivial ?_
    refine ev_callV (N := mX9_copy) (d' := 2) (bc := 0) (bs := 0) (bc' := 0 + 4 + 1) (bs' := 0 + (0 + Z + 4 * C + C + C) + nF 9) (as := []) (rest := [.ref 1, .ref 0]) (a := 25) (ci := 9) (dcd tokX10_law rfl) okX9_copy inX9_copy seX9_copy lk10_197 rfl (by decide) (Nat.le_of_ble_eq_true rfl) rfl ⟨by decide, rfl⟩ (ct_copy (mkS x S4) (158 + x.1) C Z rfl (by omega) hlt hC hZ (txS x S4 C Z e4 e5)) (fun v h' hq hn => ?_)
    obtain ⟨rfl, rfl⟩ := hq
    rw [← q0]
    refine ev_callV (N := mX7_addLaw) (d' := 1) (bc := 0) (bs := 0) (bc' := 0) (bs' := 0) (as := [.ref (158 + x.1)]) (rest := [.ref 0]) (a := 1) (ci := 7) (dcd tokX10_law rfl) okX7_addLaw inX7_addLaw seX7_addLaw lk10_203 rfl (by decide) (Nat.le_of_ble_eq_true rfl) rfl ⟨by decide, rfl⟩ (gpX7_addLaw_1_T x' S5 (158 + x.1) _ _ g1) (fun v h' hq hn => ?_)
    obtain ⟨rfl, rfl⟩ := hq
    refine ev_callV (N := mX10_told) (d' := 1) (bc := 0) (bs := 0) (bc' := 0) (bs' := 0) (as := [.int (iN L)]) (rest := []) (a := 0) (ci := 10) (dcd tokX10_law rfl) okX10_told inX10_told seX10_told lk10_178 rfl (by decide) (Nat.le_of_ble_eq_true rfl) rfl ⟨by decide, rfl⟩ (gpX10_told_0 x' S6 (iN L) _ _ g2) (fun v h' hq hn => ?_)
    obtain ⟨rfl, rfl⟩ := hq
    refine Ev.steps tokX10_law 1 (P := True) (pc' := 64) (lv' := [some (.ref 0)]) (st' := [.int (iN L)]) (h' := mkS x' S7) rfl trivial ?_
    exact Ev.reti tokX10_law rfl rfl ⟨rfl, rfl⟩
end LAWCT
