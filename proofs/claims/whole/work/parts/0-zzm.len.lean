section LEN
theorem find_eq (x : XT) (f : Nat → Int32) (R : RF) (p G : Nat) (hp : p < 5) (hW : WF f) (hG : G ≤ 10) (h91 : f 91 = iN G) (b c : Int32) (S : ST) (hS : BC x S f R p) : (∃ S', gfX6_find_54 x S b c = some (iN (pl0 f p), S') ∧ bG (pl0 f p) b c = true ∧ S'.2.1 72 (pl0 f p) = 0 ∧ BC x S' f R p) ∨ (bG (pl0 f p) b c = false ∧ ∃ S' t, gfX6_find_54 x S b c = some (iN t, S') ∧ FD x S' f R p G (pl0 f p) (fun q => bG q b c) t) ∨ (bG (pl0 f p) b c = false ∧ ∃ S' Q P H D n, gfX6_find_54 x S b c = some (-1, S') ∧ FG x S' f R p G (pl0 f p) (fun q => bG q b c) Q P H D n (10 * n)) := by
  have hs := pl0_lt hW p hp
  obtain ⟨S1, c1, c2⟩ := fill72 x S (-1)
  have b1 := frJ7_fill_53178_72 x _ _ _ _ c1
  have hS1 : BC x S1 f R p := hS.cg (b1.sm (by decide)) (b1.1 54 2 (by decide)) (b1.2.1 70 (by decide))
  generalize hp0 : pl0 f p = s at *
  have aS : Agr ([], [71, 72], [], []) S1 (S1.1, u2 (u2 S1.2.1 71 0 (iN s)) 72 s 0, S1.2.2.1, S1.2.2.2) := Agr.i (S1 := (S1.1, u2 S1.2.1 71 0 (iN s), S1.2.2.1, S1.2.2.2)) (Agr.i Agr.rf 71 0 _ (by decide)) 72 s 0 (by decide)
  have s72 : (u2 (u2 S1.2.1 71 0 (iN s)) 72 s 0) 72 = u1 (S1.2.1 72) s 0 := by rw [u2_row, u2_ro _ _ _ (by decide)]
  have s71 : (u2 (u2 S1.2.1 71 0 (iN s)) 72 s 0) 71 0 = iN s := by rw [u2_ro _ _ _ (by decide), u2_s]
  have hB : BC x (S1.1, u2 (u2 S1.2.1 71 0 (iN s)) 72 s 0, S1.2.2.1, S1.2.2.2) f R p := hS1.cg (aS.sm (by decide)) rfl (aS.2.1 70 (by decide))
  have head : gfX6_find_54 x S b c = (if bz (bG s b c) = 0 then (lfX6_find_54_56 x 20000 (S1.1, u2 (u2 S1.2.1 71 0 (iN s)) 72 s 0, S1.2.2.1, S1.2.2.2) b c 1 0) else (some ((u2 (u2 S1.2.1 71 0 (iN s)) 72 s 0) 71 0, (S1.1, u2 (u2 S1.2.1 71 0 (iN s)) 72 s 0, S1.2.2.1, S1.2.2.2)))) := by
    unfold gfX6_find_54 bfX6_find_54_0
    rw [c1]
    dsimp only
    rw [start_eq x S1 f R p hp hW hS1, hp0]
    dsimp only
    rw [inb_t hs (by omega), cond_true, iN_nat (by omega), isAt_eq x _ s hs]
  rw [head]
  cases hb : bG s b c with
  | true =>
    rw [if_neg (show ¬ bz true = 0 by decide), s71]
    exact Or.inl ⟨_, rfl, rfl, u2_s _ 72 s 0, hB⟩
  | false =>
    rw [if_pos (show bz false = 0 from rfl)]
    have hF : FG x (S1.1, u2 (u2 S1.2.1 71 0 (iN s)) 72 s 0, S1.2.2.1, S1.2.2.2) f R p G s (fun q => bG q b c) (fun _ => s) (fun _ => 0) (fun _ => 0) (fun _ => 0) 1 (10 * 0) := by
      refine ⟨hB, by omega, fun j hj => ?_, fun q hq => ?_, ?_, ⟨rfl, rfl⟩, fun j h1 h2 => by omega, fun j j' h1 h2 h3 => by omega, fun e' q h1 => by omega⟩
      · have ej : j = 0 := by omega
        subst ej
        refine ⟨hs, s71, ?_, by omega, hb⟩
        dsimp only
        rw [s72, u1_s]; rfl
      · dsimp only
        rw [s72]
        by_cases e : q = s
        · exact Or.inr ⟨0, by omega, e.symm⟩
        · rw [u1_n _ _ e, c2 q hq]; exact Or.inl rfl
      · dsimp only
        refine (cnt_eq (Q := fun q1 => decide (¬ u1 (S1.2.1 72) s 0 q1 = -1)) (fun j _ => by simp only [s72])).trans ?_
        have w := cnt_flip (Q := fun q1 => decide (¬ u1 (S1.2.1 72) s 0 q1 = -1)) (Q' := fun q1 => decide (¬ u1 (u1 (S1.2.1 72) s 0) s (-1) q1 = -1)) (n := 120) (k := s) hs (by rw [u1_s]; decide) (by rw [u1_s]; decide) (fun j hj => by rw [u1_n _ _ hj])
        rw [← w, cnt_none (fun j hj => ?_)]
        by_cases e : j = s
        · rw [e, u1_s]; decide
        · rw [u1_n _ _ e, u1_n _ _ e, c2 j hj]; decide
    have r := find_out x f R p G hp hW hG h91 s b c 120 0 20000 1 _ _ _ _ _ (by omega) (by omega) (by omega) hF
    rw [show iN 0 = 0 from rfl, show iN 1 = 1 from rfl] at r
    rcases r with ⟨S', Q', P', H', D', n', r1, r2⟩ | ⟨S', t, r1, r2⟩
    · exact Or.inr (Or.inr ⟨rfl, S', Q', P', H', D', n', r1, r2⟩)
    · exact Or.inr (Or.inl ⟨rfl, S', t, r1, r2⟩)
/-- the steps do not fall along the queue -/
theorem FG.dm {x : XT} {S : ST} {f : Nat → Int32} {R : RF} {p G s : Nat} {gl : Nat → Bool} {Q P H D : Nat → Nat} {n e : Nat} (h : FG x S f R p G s gl Q P H D n e) (hG : G ≤ 10) : ∀ (k j j' : Nat), j' ≤ k → j ≤ j' → j' < n → D j ≤ D j'
  | 0, j, j', hk, hj, hn => by
    have e1 : j = 0 := by omega
    have e2 : j' = 0 := by omega
    rw [e1, e2]
    exact Nat.le_refl _
  | k + 1, j, j', hk, hj, hn => by
    by_cases e0 : j = 0
    · rw [e0, h.2.2.2.2.2.1.2]; omega
    · by_cases e1 : j = j'
      · rw [e1]; exact Nat.le_refl _
      · obtain ⟨a1, a2, -, a4, -⟩ := h.2.2.2.2.2.2.1 j (by omega) (by omega)
        obtain ⟨b1, b2, -, b4, -⟩ := h.2.2.2.2.2.2.1 j' (by omega) hn
        have m := h.2.2.2.2.2.2.2.1 j j' (by omega) (by omega) hn
        have := FG.dm h hG k (P j) (P j') (by omega) (by omega) (by omega)
        omega
theorem Pt1 {R : RF} {f : Nat → Int32} {p G : Nat} {gl : Nat → Bool} : ∀ {n q c : Nat}, Pt R f p G (wt R f p 0) gl n q c → c = n
  | 0, q, c, h => h.2
  | n + 1, q, c, ⟨g, q', c', h1, h2, h3, h4, h5⟩ => by
    have := Pt1 h4
    have hw : wt R f p 0 g q = 1 := by unfold wt; rw [if_pos rfl]
    rw [hw] at h5
    omega
theorem Pt.cons {R : RF} {f : Nat → Int32} {p G : Nat} {gl : Nat → Bool} {n q q' g : Nat} (hg : g < G) (hq : q' < 120) (e : nx R f p g q = iN q') (h : Pt R f p G (wt R f p 0) gl n q' n) : Pt R f p G (wt R f p 0) gl (n + 1) q (n + 1) := ⟨g, q', n, hg, hq, e, h, by unfold wt; rw [if_pos rfl]⟩
/-- a row from an entry of the queue is a row from the start -/
theorem FG.bk {x : XT} {S : ST} {f : Nat → Int32} {R : RF} {p G s : Nat} {gl : Nat → Bool} {Q P H D : Nat → Nat} {n e : Nat} (h : FG x S f R p G s gl Q P H D n e) : ∀ (k j m : Nat), j ≤ k → j < n → Pt R f p G (wt R f p 0) gl m (Q j) m → Pt R f p G (wt R f p 0) gl (D j + m) s (D j + m)
  | 0, j, m, hk, hn, hp => by
    have e1 : j = 0 := by omega
    subst e1
    rw [h.2.2.2.2.2.1.2, Nat.zero_add]
    rw [h.2.2.2.2.2.1.1] at hp
    exact hp
  | k + 1, j, m, hk, hn, hp => by
    by_cases e0 : j = 0
    · subst e0
      rw [h.2.2.2.2.2.1.2, Nat.zero_add]
      rw [h.2.2.2.2.2.1.1] at hp
      exact hp
    · obtain ⟨a1, a2, a3, a4, -⟩ := h.2.2.2.2.2.2.1 j (by omega) hn
      have hq := (h.2.2.1 j hn).1
      have := FG.bk h k (P j) (m + 1) (by omega) (by omega) (Pt.cons a2 hq a3 hp)
      rw [a4, show D (P j) + 1 + m = D (P j) + (m + 1) by omega]
      exact this
/-- a child ahead of where the search stands is found, in time -/
theorem FG.ch {x : XT} {S : ST} {f : Nat → Int32} {R : RF} {p G s : Nat} {gl : Nat → Bool} {Q P H D : Nat → Nat} {n e : Nat} (h : FG x S f R p G s gl Q P H D n e) (hG : G ≤ 10) {j g q : Nat} (hj : j < n) (hg : g < G) (hq : q < 120) (he : 10 * j + g < e) (en : nx R f p g (Q j) = iN q) : ∃ j', j' < n ∧ Q j' = q ∧ D j' ≤ D j + 1 ∧ (j' = 0 ∨ 10 * P j' + H j' ≤ 10 * j + g) := by
  have a1 : (10 * j + g) % 10 = g := by omega
  have a2 : (10 * j + g) / 10 = j := by omega
  obtain ⟨j', c1, c2, c3⟩ := h.2.2.2.2.2.2.2.2 (10 * j + g) q he (by rw [a1]; exact hg) (by rw [a2]; exact hj) hq (by rw [a1, a2]; exact en)
  refine ⟨j', c1, c2, ?_, c3⟩
  rcases c3 with z | z
  · rw [z, h.2.2.2.2.2.1.2]; omega
  · by_cases e0 : j' = 0
    · rw [e0, h.2.2.2.2.2.1.2]; omega
    · obtain ⟨b1, b2, b3, b4, -⟩ := h.2.2.2.2.2.2.1 j' (by omega) c1
      have := h.dm hG j (P j') j (Nat.le_refl _) (by omega) hj
      omega
theorem FG.lo {x : XT} {S : ST} {f : Nat → Int32} {R : RF} {p G s : Nat} {gl : Nat → Bool} {Q P H D : Nat → Nat} {n i g : Nat} (h : FG x S f R p G s gl Q P H D n (10 * i + g)) (hG : G ≤ 10) : ∀ (m j : Nat), j < n → Pt R f p G (wt R f p 0) gl m (Q j) m → D i + 1 ≤ D j + m
  | 0, j, hj, hp => by
    have := (h.2.2.1 j hj).2.2.2.2
    rw [hp.1] at this
    cases this
  | m + 1, j, hj, ⟨g', q', c', h1, h2, h3, h4, h5⟩ => by
    have ec := Pt1 h4
    subst ec
    by_cases he : 10 * j + g' < 10 * i + g
    · obtain ⟨j', c1, c2, c3, -⟩ := h.ch hG hj h1 h2 he h3
      have := FG.lo h hG c' j' c1 (by rw [c2]; exact h4)
      omega
    · have := h.dm hG j i j (Nat.le_refl _) (by omega) hj
      omega
theorem FG.no {x : XT} {S : ST} {f : Nat → Int32} {R : RF} {p G s : Nat} {gl : Nat → Bool} {Q P H D : Nat → Nat} {n : Nat} {w : Nat → Nat → Nat} (h : FG x S f R p G s gl Q P H D n (10 * n)) (hG : G ≤ 10) : ∀ (m j c : Nat), j < n → ¬ Pt R f p G w gl m (Q j) c
  | 0, j, c, hj => fun hp => by
    have := (h.2.2.1 j hj).2.2.2.2
    rw [hp.1] at this
    cases this
  | m + 1, j, c, hj => fun ⟨g', q', c', h1, h2, h3, h4, h5⟩ => by
    obtain ⟨j', c1, c2, c3, -⟩ := h.ch hG hj h1 h2 (by omega) h3
    exact FG.no h hG m j' c' c1 (by rw [c2]; exact h4)
/-- the steps of the goal that is found, or that there is none -/
theorem way_len (x : XT) (f : Nat → Int32) (R : RF) (p G : Nat) (hp : p < 5) (hW : WF f) (hG : G ≤ 10) (h91 : f 91 = iN G) (b c : Int32) (S : ST) (hS : BC x S f R p) (L : Nat → Nat) (h0 : ∀ q, q < 120 → bG q b c = true → L q = 0) (h1 : ∀ q, q < 120 → L q = 1000000 ∨ Pth R f p G (wt R f p 0) (fun q => bG q b c) q (L q)) (h2 : ∀ q g, q < 120 → g < G → OkE R f p (wt R f p 0) L g q) :
    (L (pl0 f p) = 1000000 ∧ ∃ S', gfX6_find_54 x S b c = some (-1, S')) ∨ (L (pl0 f p) < 1000000 ∧ ∃ S' t, t < 120 ∧ gfX6_find_54 x S b c = some (iN t, S') ∧ S'.2.1 72 t = iN (L (pl0 f p)) ∧ ((L (pl0 f p) = 0 ∧ t = pl0 f p) ∨ ∃ S1 Q P H D n i g, FG x S1 f R p G (pl0 f p) (fun q => bG q b c) Q P H D n (10 * i + g) ∧ i < n ∧ g < G ∧ nx R f p g (Q i) = iN t ∧ S1.2.1 72 t = -1 ∧ bG t b c = true ∧ L (pl0 f p) = D i + 1 ∧ S' = (S1.1, u2 (u2 (u2 S1.2.1 72 t (iN (D i + 1))) 73 t (iN g)) 74 t (iN (Q i)), S1.2.2.1, S1.2.2.2))) := by
  have hs := pl0_lt hW p hp
  rcases find_eq x f R p G hp hW hG h91 b c S hS with ⟨S', e1, e2, e3, e4⟩ | ⟨e0, S', t, e1, S1, Q, P, H, D, n, i, g, d1, d2, d3, d4, d5, d6, d7, d8⟩ | ⟨e0, S', Q, P, H, D, n, e1, e2⟩
  · have z := h0 _ hs e2
    refine Or.inr ⟨by omega, S', _, hs, e1, ?_, Or.inl ⟨z, rfl⟩⟩
    rw [z, e3]; rfl
  · have up : L (pl0 f p) ≤ D i + 1 := by
      have pt : Pt R f p G (wt R f p 0) (fun q => bG q b c) 1 (Q i) 1 := Pt.cons d3 d4 d5 ⟨d7, rfl⟩
      have := d1.bk i i 1 (Nat.le_refl _) d2 pt
      exact left_min h0 h2 _ _ _ hs this
    have hd := (d1.2.2.1 i d2).2.2.2.1
    have h120 := d1.2.1
    have eq : L (pl0 f p) = D i + 1 := by
      rcases h1 _ hs with z | ⟨m, z⟩
      · omega
      · have em := Pt1 z
        rw [em] at z
        have := d1.lo hG m 0 (by omega) (by rw [d1.2.2.2.2.2.1.1]; exact z)
        rw [d1.2.2.2.2.2.1.2] at this
        omega
    refine Or.inr ⟨by omega, S', t, d4, e1, ?_, Or.inr ⟨S1, Q, P, H, D, n, i, g, d1, d2, d3, d5, d6, d7, eq, d8⟩⟩
    rw [d8]
    dsimp only
    rw [u2_ro _ _ _ (by decide), u2_ro _ _ _ (by decide), u2_s, eq]
  · refine Or.inl ⟨?_, S', e1⟩
    rcases h1 _ hs with z | ⟨m, z⟩
    · exact z
    · have h120 := e2.2.1
      exact absurd (by rw [e2.2.2.2.2.2.1.1]; exact z) (e2.no (w := wt R f p 0) hG m 0 (L (pl0 f p)) (by omega))
end LEN
