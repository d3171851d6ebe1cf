section WHOLE
theorem whole_start {p : Program} {e : Env} {s : State} {m : MethodId} {below : List Frame} {meth : Method} {c : Code} (l : Launch) {b L : Nat} {xs : Nat → Int32} (hL : L ≤ 3072) (C0 : lw_At p s m meth c b L xs) : W p l e room_1 s m #[Value.ref b] below meth c s.heap [] 0 0 (lw_Z below #[Value.ref b] s) (entryFrame m ([Value.ref b] : List Value).toArray 4) := by
  obtain ⟨aK, aV, t, hE⟩ := en_start C0
  obtain ⟨hx, hb, hr, hml, hown, hts, hX, hbl, hlocks, hgv, hnm⟩ := C0
  have htb : ∀ w ∈ TB, w.before #[Value.ref b] s = true := fun w hw => hts w (List.mem_filter.mp hw).1
  obtain ⟨D, cy, hK⟩ := k_start (m := m) htb hE.2.2.2.2.2.2.2.2.1 hE.2.2.2.2.2.2.2.2.2
  have hl := lv_entry ([.ref b]) (n := 4) (Nat.le_of_ble_eq_true rfl)
  rw [lg_entry_eq]
  generalize (lg_sl ([.ref b]) ++ List.replicate (4 - (lg_sl ([.ref b])).length) Slot.unset).toArray = ls at hl ⊢
  have hl' : LV (s.heap.size, b, aK, aV, t) [some (.ref 1000000), none, none, none] ls 4 := hl
  refine law_ev L xs hL p l e room_1 s m #[Value.ref b] below meth c D cy (s.heap.size, b, aK, aV, t) L xs s.heap [] 0 0 ls _ ⟨hx, hb, hr, hml, hown, htb, hlocks, hnm, fun q hq => (Option.some.inj hq).symm⟩ ⟨by decide, by decide⟩ ⟨by decide, by decide⟩ ⟨hK, hE⟩ ⟨rfl, by decide, fun a h => absurd (show (99 : Nat) < 18 from h) (by decide), fun a h => absurd h (Nat.not_lt_zero a)⟩ va_S.rf hl' ?_
  intro v h' H' locs' cells' slots' ls' pc' hrt hq hn hH' hS' hc' hs'
  subst hq
  have hd : decode code pc' = .ok (.ireturn, 1) := by
    rcases hrt with ⟨h, -⟩ | ⟨x, ty, h, hd, -⟩ | ⟨x, h, -⟩ | ⟨r, h, -⟩
    · cases h
    · exact hd
    · cases h
    · cases r <;> cases h
  refine va_forget (fun q hq => hS'.2.2 q hq) (W.widen (k := 600000) (n := 7302249) (by omega) (by omega) ?_)
  exact lw_ret hx hb hr hlocks hd
end WHOLE
