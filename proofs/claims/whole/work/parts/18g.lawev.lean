section LAWEV
set_option maxRecDepth 60000 in
/-- the law from its first instruction -/
theorem law_ev (L : Nat) (xs : Nat → Int32) (hL : L ≤ 3072) : Ev (mLaw L xs) 131 600000 7302249 0 [some (.ref 1000000), none, none, none] [] c0 (fun v _ => v = some (.int 1)) := by
  have T := tokLaw L xs
  refine Ev.wd (bc := 2718) (bs := 281855) ?_ (by decide) (by decide)
  refine ev_newN (n := 0) (ci := 10) (bc := 2717) (bs := 281839) (dcd T rfl) rfl rfl (by decide) ?_
  refine Ev.steps T 1 (P := True) (pc' := 4) (lv' := [some (.ref 1000000), none, none, none]) (st' := [.ref 0, .ref 0]) (h' := mkn 0 c0 10 0) rfl trivial ?_
  refine ev_callI (N := mX10_init) (d' := 3) (bc := 2588) (bs := 277385) (bc' := 129) (bs' := 4454) (a := 0) (as := []) (rest := [.ref 0]) (dcd T rfl) okX10_init rfl inX10_init rfl lk12_9 rfl (by decide) (Nat.le_of_ble_eq_true rfl) (cn16 c0) (fun v h' hq hn => ?_)
  obtain ⟨rfl, rfl⟩ := hq
  refine Ev.steps T 1 (P := True) (pc' := 8) (lv' := [some (.ref 1000000), some (.ref 0), none, none]) (st' := []) (h' := c331 c0) rfl trivial ?_
  refine ev_newN (n := 130) (ci := 11) (bc := 2587) (bs := 277332) (dcd T rfl) rfl (by decide +kernel) (by decide) ?_
  refine Ev.steps T 1 (P := True) (pc' := 12) (lv' := [some (.ref 1000000), some (.ref 0), none, none]) (st' := [.ref 130, .ref 130]) (h' := mkn 130 (c331 c0) 11 0) rfl trivial ?_
  refine ev_callI (N := mX11_init) (d' := 1) (bc := 2560) (bs := 256000) (bc' := 27) (bs' := 21332) (a := 130) (as := []) (rest := [.ref 130]) (dcd T rfl) okX11_init rfl inX11_init rfl lk12_12 rfl (by decide) (Nat.le_of_ble_eq_true rfl) (cn17 (c331 c0)) (fun v h' hq hn => ?_)
  obtain ⟨rfl, rfl⟩ := hq
  refine Ev.steps T 3 (P := True) (pc' := 18) (lv' := [some (.ref 1000000), some (.ref 0), some (.ref 130), some (.int 0)]) (st' := []) (h' := c512 (c331 c0)) rfl trivial ?_
  have k := law_loop L xs hL 512 0 x0 S0 (by omega) (by omega) (by show 0 + 5 * 512 ≤ 5000; omega) rel0 xw0
  rw [show iN 0 = 0 from rfl] at k
  exact Ev.from0 k
end LAWEV
