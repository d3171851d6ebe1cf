section ASK
theorem Gr.ext {cd vl cs W W' : Nat → Int32} {o : Bool} (hW : ∀ w, w < (if o then 24 else 8) → W w = W' w) : ∀ {n dp kd i j a b k : Nat} {d : DN}, Gr o cd vl cs n dp kd i j a b k d → d W = d W' := by
  intro n
  induction n with
  | zero => intro dp kd i j a b k d h; exact h.elim
  | succ n ih =>
    intro dp kd i j a b k d h
    rcases h with ⟨rfl, h⟩ | ⟨rfl, h⟩ | ⟨rfl, h⟩ | ⟨rfl, h⟩ | ⟨rfl, h⟩ | ⟨rfl, h⟩ | ⟨rfl, h⟩
    · rcases h with ⟨h1, rfl, rfl, rfl, v, h2, h3, h4, rfl⟩ | ⟨w, h1, rfl, rfl, h4, rfl⟩ | ⟨dp', j', h1, rfl, h3, h4, h5⟩
      · rfl
      · show some (W w) = some (W' w)
        rw [hW w (WD_lt h1).1]
      · exact ih h5
    · rcases h with h | ⟨m, p, b', k1, k2, d1, d2, op, h1, h2, h3, h4, rfl, h6, rfl, rfl⟩
      · exact ih h
      · unfold jD; rw [ih h1, ih h4]
    · rcases h with h | ⟨m, p, b', k1, k2, d1, d2, op, h1, h2, h3, h4, rfl, h6, rfl, rfl⟩
      · exact ih h
      · unfold jD; rw [ih h1, ih h4]
    · rcases h with ⟨dp', j', h1, rfl, h3, h4, h5⟩ | ⟨m, p, b', k1, k2, d1, d2, op, h1, h2, h3, h4, rfl, h6, rfl, rfl⟩
      · exact ih h5
      · unfold jD; rw [ih h1, ih h4]
    · obtain ⟨q, b', d', h1, h2, h3⟩ := h
      rcases h3 with ⟨h3, rfl, rfl⟩ | ⟨h3, rfl, h4, rfl⟩
      · exact ih h2
      · unfold nD; rw [ih h2]
    · rcases h with h | ⟨m, p, k1, k2, d1, d2, h1, h2, h3, h4, rfl, rfl⟩
      · exact ih h
      · unfold sD; rw [ih h1, ih h4]
    · rcases h with h | ⟨m, p, k1, k2, d1, d2, h1, h2, h3, h4, rfl, rfl⟩
      · exact ih h
      · unfold sD; rw [ih h1, ih h4]
theorem LR.ext {x : XT} {S : ST} {o : Nat} {f : Nat → Int32} {R : Nat → (Nat → Int32) → Option Int32} (h : LR x S o f R) {W W' : Nat → Int32} (hW : ∀ w, w < 8 → W w = W' w) (v : Nat) : R v W = R v W' := by
  rcases h with ⟨-, -, rfl⟩ | ⟨l, t, L, N, C, V, dS, dT, -, -, -, -, -, -, -, h4, rfl⟩
  · rfl
  · obtain ⟨-, -, -, -, -, Z, -, -, -, -, -, -, P, J, -, hcl⟩ := h4
    have : ∀ c, c ≤ C → tl V dS dT v W c = tl V dS dT v W' c := by
      intro c
      induction c with
      | zero => intro _; rfl
      | succ c ih =>
        intro hc
        obtain ⟨-, -, hLC, -, -⟩ := hcl c (by omega)
        obtain ⟨j1, a0, a1, a2, n, k1, k2, hv2, t1, t2, b0, b1, b2, b3, haZ, ha12, hsum, htest⟩ := hLC
        have e1 : dS c W = dS c W' := by
          rcases hsum with ⟨-, -, e3⟩ | ⟨-, -, hg⟩
          · rw [e3]
          · exact Gr.ext (o := false) hW hg
        have e2 : dT c W = dT c W' := by
          rcases htest with ⟨-, -, e3⟩ | ⟨-, -, hg⟩
          · rw [e3]
          · exact Gr.ext (o := false) hW hg
        rw [tl, tl, e1, e2, ih (by omega)]
    exact this C (Nat.le_refl _)
theorem LCl.cg {cd vl cs vb bd cd' vl' cs' vb' bd' : Nat → Int32} {Z c i j v : Nat} {dS dT : DN} (h : LCl cd vl cs vb bd Z c i j v dS dT) (hc : ∀ z, z < j → cd' z = cd z ∧ vl' z = vl z) (hi : cd' i = cd i) (hs : ∀ z, z < Z → cs' z = cs z) (hv : vb' c = vb c) (hb : ∀ r, r < 4 → bd' (4 * c + r) = bd (4 * c + r)) : LCl cd' vl' cs' vb' bd' Z c i j v dS dT := by
  obtain ⟨j1, a0, a1, a2, n, k1, k2, hv2, t1, t2, b0, b1, b2, b3, haZ, ha12, hsum, htest⟩ := h
  refine ⟨j1, a0, a1, a2, n, k1, k2, hv2, hi.trans t1, hv.trans t2, (hb 0 (by omega)).trans b0, (hb 1 (by omega)).trans b1, (hb 2 (by omega)).trans b2, (hb 3 (by omega)).trans b3, haZ, ha12, ?_, ?_⟩
  · rcases hsum with h | ⟨h1, h2, hg⟩
    · exact Or.inl h
    · refine Or.inr ⟨h1, h2, hg.mv 0 (fun z z1 z2 => hc z ?_) (fun z z1 z2 => hs z (by omega))⟩
      rcases htest with ⟨e1, -, -⟩ | ⟨-, -, hg⟩
      · omega
      · have := hg.lt.1; omega
  · rcases htest with h | ⟨h1, h2, hg⟩
    · exact Or.inl h
    · have := hg.lt.1
      exact Or.inr ⟨((hc j1 (by omega)).1).trans h1, h2, hg.mv 0 (fun z z1 z2 => hc z (by omega)) (fun z z1 z2 => hs z (by omega))⟩
theorem LawD.cg {x : XT} {S S' : ST} {t N C : Nat} {cd vl cd' vl' : Nat → Int32} {V : Nat → Nat} {dS dT : Nat → DN} (h : LawD x S t cd vl N C V dS dT) (hS : ∀ a, 158 ≤ a → S'.1 a = S.1 a ∧ S'.2.1 a = S.2.1 a) (hc : ∀ z, z < N → cd' z = cd z ∧ vl' z = vl z) : LawD x S' t cd' vl' N C V dS dT := by
  obtain ⟨hx, ht, hN, hC1, hC2, Z, hZ, m1, m3, m4, s0, s1, P, J, hP, hcl⟩ := h
  refine ⟨hx, ht, hN, hC1, hC2, Z, hZ, m1, m3, m4, by rw [(hS t ht).1]; exact s0, by rw [(hS t ht).1]; exact s1, P, J, hP, fun c hcc => ?_⟩
  obtain ⟨q1, q2, q3, q4, q5⟩ := hcl c hcc
  have hPJ : P c < J c := by
    obtain ⟨j1, a0, a1, a2, n, k1, k2, hv2, t1, t2, b0, b1, b2, b3, haZ, ha12, hsum, htest⟩ := q3
    have r1 : P c < j1 := by
      rcases hsum with ⟨-, e1, -⟩ | ⟨-, -, hg⟩
      · omega
      · have := hg.lt.1; omega
    rcases htest with ⟨e1, -, -⟩ | ⟨-, -, hg⟩
    · omega
    · have := hg.lt.1; omega
  refine ⟨q1, q2, ?_, fun h => ⟨(q4 h).1, ((hc _ (q4 h).1).1).trans (q4 h).2⟩, q5⟩
  rw [(hS (t + 4) (by omega)).2, (hS (t + 1) (by omega)).2, (hS (t + 3) (by omega)).2]
  exact q3.cg (fun z hz => hc z (by omega)) ((hc _ (by omega)).1) (fun _ _ => rfl) rfl (fun _ _ => rfl)
theorem LR.cg {x : XT} {S S' : ST} {o : Nat} {f f' : Nat → Int32} {R : Nat → (Nat → Int32) → Option Int32} (h : LR x S o f R) (h18 : S'.1 o 18 = S.1 o 18) (h16 : S'.1 o 16 = S.1 o 16) (hQ : S'.2.2.2 (o + 14) = S.2.2.2 (o + 14)) (hS : ∀ a, 158 ≤ a → S'.1 a = S.1 a ∧ S'.2.1 a = S.2.1 a) (hf : ∀ k, 95 ≤ k → f' k = f k) : LR x S' o f' R := by
  rcases h with ⟨h1, h2, h3⟩ | ⟨l, t, L, N, C, V, dS, dT, a1, a2, a3, a4, a5, a6, a7, h4, a8⟩
  · exact Or.inl ⟨(hf 95 (by omega)).trans h1, h18.trans h2, h3⟩
  · refine Or.inr ⟨l, t, L, N, C, V, dS, dT, a1, a2, (hf 95 (by omega)).trans a3, h18.trans a4, h16.trans a5, by rw [hQ]; exact a6, (hf _ (by omega)).trans a7, h4.cg hS (fun z _ => ⟨hf _ (by omega), hf _ (by omega)⟩), a8⟩
/-- what is asked: in the order of the class -/
def QW (kind arm many hurry gate goer day mood : Int32) (k : Nat) : Int32 := match k with
  | 0 => kind
  | 1 => arm
  | 2 => many
  | 3 => hurry
  | 4 => gate
  | 5 => goer
  | 6 => day
  | 7 => mood
  | _ => 0
/-- what a LAW tells of it -/
abbrev RF : Type := Nat → (Nat → Int32) → Option Int32
def tV (R : RF) (v : Nat) (W : Nat → Int32) : Int32 := tv v (W 2) (R v W)
theorem tV_bar {x : XT} {S : ST} {o : Nat} {f : Nat → Int32} {R : RF} (h : LR x S o f R) (W : Nat → Int32) : tV R 2 W = 0 ∨ tV R 2 W = 1 := by
  unfold tV
  rcases h.bars W with e | e <;> rw [e]
  · exact Or.inl rfl
  · exact Or.inr rfl
theorem LR.tVe {x : XT} {S : ST} {o : Nat} {f : Nat → Int32} {R : RF} (h : LR x S o f R) {W W' : Nat → Int32} (hW : ∀ w, w < 8 → W w = W' w) (v : Nat) : tV R v W = tV R v W' := by
  unfold tV
  rw [hW 2 (by omega), h.ext hW v]
/-- only the fields 22 to 25 of the reference, if at all, are other ones -/
def wAsk : WS := ([(130, 22), (130, 23), (130, 24), (130, 25)], [], [], [])
theorem refTurns (x : XT) (S : ST) (o : Nat) (T : ST) (R : RF) (hR : LR x S o (T.2.1 132) R) (W : Nat → Int32) (hW : ∀ c, 8 ≤ c → c ≤ 15 → T.2.1 142 (c - 8) = W (lw c)) : ∃ T', gfX11_turnsNow_130 x T = some (tV R 0 W, T') := by
  have hm : T.2.1 142 6 = W 2 := hW 14 (by omega) (by omega)
  obtain ⟨T', h⟩ := tells_eq x S o T R hR W hW 0 (by omega) 19 (if W 2 - 1 < 0 then 0 else W 2 - 1) (by decide)
  have hg : gfX11_greater x T 0 (W 2 - 1) = some (if W 2 - 1 < 0 then 0 else W 2 - 1, T) := by
    unfold gfX11_greater bfX11_greater_0 bfX11_greater_10
    by_cases h : W 2 - 1 < 0
    · rw [if_neg (Int32.not_le.mpr h), if_pos h]
    · rw [if_pos (Int32.not_lt.mp h), if_neg h]
  refine ⟨T', ?_⟩
  unfold gfX11_turnsNow_130 bfX11_turnsNow_130_0
  rw [hm, hg]
  dsimp only
  rw [show iN (0 + 1) = 1 from rfl] at h
  rw [h]
  unfold tV
  cases R 0 W <;> rfl
theorem refPays (x : XT) (S : ST) (o : Nat) (T : ST) (R : RF) (hR : LR x S o (T.2.1 132) R) (W : Nat → Int32) (hW : ∀ c, 8 ≤ c → c ≤ 15 → T.2.1 142 (c - 8) = W (lw c)) : ∃ T', gfX11_paysNow_130 x T = some (tV R 1 W, T') := by
  obtain ⟨T', h⟩ := tells_eq x S o T R hR W hW 1 (by omega) 9 1 (by decide)
  refine ⟨T', ?_⟩
  unfold gfX11_paysNow_130 bfX11_paysNow_130_0
  rw [show (2 : Int32) = iN (1 + 1) from rfl, h]
  unfold tV
  cases R 1 W <;> rfl
theorem refBars (x : XT) (S : ST) (o : Nat) (T : ST) (R : RF) (hR : LR x S o (T.2.1 132) R) (W : Nat → Int32) (hW : ∀ c, 8 ≤ c → c ≤ 15 → T.2.1 142 (c - 8) = W (lw c)) : ∃ T', gfX11_isBarredNow_130 x T = some (tV R 2 W, T') := by
  obtain ⟨T', h⟩ := tells_eq x S o T R hR W hW 2 (by omega) 1 0 (by decide)
  refine ⟨T', ?_⟩
  unfold gfX11_isBarredNow_130 bfX11_isBarredNow_130_0 bfX11_isBarredNow_130_16
  rw [show (3 : Int32) = iN (2 + 1) from rfl, h]
  unfold tV
  rcases hR.bars W with e | e <;> rw [e] <;> rfl
theorem asked_eq (x : XT) (T : ST) (kind arm many hurry gate goer : Int32) : ∃ T', gfX11_setsAsked_130 x T kind arm many hurry gate goer = some ((), T') ∧ (∀ c, 8 ≤ c → c ≤ 15 → T'.2.1 142 (c - 8) = QW kind arm many hurry gate goer (T.2.1 132 35) (T.2.1 132 90) (lw c)) ∧ T'.2.1 132 = T.2.1 132 := by
  refine ⟨_, rfl, ?_, ?_⟩
  · intro c h1 h2
    have : c = 8 ∨ c = 9 ∨ c = 10 ∨ c = 11 ∨ c = 12 ∨ c = 13 ∨ c = 14 ∨ c = 15 := by omega
    rcases this with rfl | rfl | rfl | rfl | rfl | rfl | rfl | rfl <;> rfl
  · rfl
end ASK
