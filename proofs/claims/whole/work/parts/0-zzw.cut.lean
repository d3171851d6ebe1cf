section CUT3
theorem cut_in (x : XT) (f : Nat → Int32) (R : RF) (p G : Nat) (hp : p < 5) (hW : WF f) (hG : G ≤ 10) (h91 : f 91 = iN G) (pk : Nat) (k : Nat) (hk : k < 10) (k45 : ST → Int32 → Int32 → Int32 → Option (Int32 × ST)) : ∀ (d b fuel : Nat) (S : ST), b + d = opN f G + 1 → d < fuel → (∃ b0, Vs f G b0 ∧ BC x S (mF f (iN b0)) R p) → (∀ b', Gd R f p G pk b' → k ≤ pcN b') → (∀ b', b' < b → Gd R f p G pk b' → k < pcN b') →
    (∃ r S', lfX6_fewestShut_54_54 x k45 fuel S (iN pk) (iN (opN f G)) (iN k) (iN b) = some (iN r, S') ∧ Bst R f p G pk r) ∨ (∃ S', lfX6_fewestShut_54_54 x k45 fuel S (iN pk) (iN (opN f G)) (iN k) (iN b) = k45 S' (iN pk) (iN (opN f G)) (iN (k + 1)) ∧ (∃ b0, Vs f G b0 ∧ BC x S' (mF f (iN b0)) R p) ∧ ∀ b', Gd R f p G pk b' → k + 1 ≤ pcN b')
  | 0, b, fuel, S, hb, hf, h1, h2, h3 => by
    obtain ⟨fuel, rfl⟩ : ∃ z, fuel = z + 1 := ⟨fuel - 1, by omega⟩
    have hN := Vs.lt hG (Nat.le_refl (opN f G))
    refine Or.inr ⟨S, ?_, h1, fun b' hb' => h3 b' (by have := hb'.1.1; omega) hb'⟩
    rw [lfX6_fewestShut_54_54, bfX6_fewestShut_54_54, if_pos ((iN_lt (by omega) (by omega)).mpr (by omega)), iN_succ]
  | d + 1, b, fuel, S, hb, hf, h1, h2, h3 => by
    obtain ⟨fuel, rfl⟩ : ∃ z, fuel = z + 1 := ⟨fuel - 1, by omega⟩
    have hN := Vs.lt hG (Nat.le_refl (opN f G))
    have hb1 : b < 1024 := by omega
    have rest := fun S2 a1 a2 => cut_in x f R p G hp hW hG h91 pk k hk k45 d (b + 1) fuel S2 (by omega) (by omega) a1 h2 a2
    have skip : ∀ S2, (∃ b0, Vs f G b0 ∧ BC x S2 (mF f (iN b0)) R p) → (Gd R f p G pk b → k < pcN b) → _ := fun S2 a1 a2 => rest S2 a1 (fun b' l1 l2 => by
      by_cases e : b' = b
      · subst e; exact a2 l2
      · exact h3 b' (by omega) l2)
    rw [lfX6_fewestShut_54_54, bfX6_fewestShut_54_54, if_neg (fun z => by have := (iN_lt (by omega) (by omega)).mp z; omega)]
    unfold bfX6_fewestShut_54_95
    rw [iN_succ]
    by_cases c1 : b &&& opN f G = b
    · have pc := (pc_is b hb1).2
      rw [if_neg (fun z => z ((sub_c b (opN f G) hb1 hN).mpr c1)), bc_eq x S b hb1]
      dsimp only
      by_cases c2 : pcN b = k
      · rw [if_neg (fun z => z (by rw [c2]))]
        obtain ⟨b0, v0, hB⟩ := h1
        obtain ⟨B, S1, q1, q2, q3⟩ := shuts_eq x f R p G hp hW hG h91 (iN pk) b b0 ⟨by omega, c1⟩ v0 S hB
        rw [q1]
        dsimp only
        cases B with
        | true =>
          rw [if_neg (show ¬ bz true = 0 by decide)]
          have gd : Gd R f p G pk b := ⟨⟨by omega, c1⟩, q3.mp rfl⟩
          refine Or.inl ⟨b, S1, rfl, gd, fun b' hb' => ?_⟩
          have m1 := h2 b' hb'
          by_cases e : b' < b
          · have := h3 b' e hb'
            omega
          · omega
        | false =>
          rw [if_pos (show bz false = 0 from rfl)]
          exact skip S1 ⟨b, ⟨by omega, c1⟩, q2⟩ (fun g => by have := q3.mpr g.2; cases this)
      · rw [if_pos (show ¬ iN (pcN b) = iN k from fun z => c2 ((iN_eq (by omega) (by omega)).mp z))]
        exact skip S h1 (fun g => by have := h2 b g; omega)
    · rw [if_pos (fun z => c1 ((sub_c b (opN f G) hb1 hN).mp z))]
      exact skip S h1 (fun g => absurd g.1.2 c1)
theorem cut_out (x : XT) (f : Nat → Int32) (R : RF) (p G : Nat) (hp : p < 5) (hW : WF f) (hG : G ≤ 10) (h91 : f 91 = iN G) (pk : Nat) (hall : Gd R f p G pk (opN f G)) : ∀ (d k fuel : Nat) (S : ST), k + d = 10 → d < fuel → (∃ b0, Vs f G b0 ∧ BC x S (mF f (iN b0)) R p) → (∀ b', Gd R f p G pk b' → k ≤ pcN b') → ∃ r S', lfX6_fewestShut_54_45 x fuel S (iN pk) (iN (opN f G)) (iN k) = some (iN r, S') ∧ Bst R f p G pk r
  | 0, k, fuel, S, hk, hf, h1, h2 => by
    obtain ⟨fuel, rfl⟩ : ∃ z, fuel = z + 1 := ⟨fuel - 1, by omega⟩
    have e : k = 10 := by omega
    subst e
    rw [lfX6_fewestShut_54_45, bfX6_fewestShut_54_45, if_pos (show (10 : Int32) ≤ iN 10 by decide)]
    refine ⟨opN f G, S, rfl, hall, fun b hb => ?_⟩
    have l1 := Vs.lt hG (Nat.le_refl (opN f G))
    have l2 := Vs.lt hG hb.1.1
    have a1 := h2 _ hall
    have a2 := h2 b hb
    have a3 := (pc_is _ l1).2
    have a4 := (pc_is _ l2).2
    have e1 := pc_10 _ l1 (by omega)
    have e2 := pc_10 _ l2 (by omega)
    exact Or.inr ⟨by omega, by omega⟩
  | d + 1, k, fuel, S, hk, hf, h1, h2 => by
    obtain ⟨fuel, rfl⟩ : ∃ z, fuel = z + 1 := ⟨fuel - 1, by omega⟩
    have l1 := Vs.lt hG (Nat.le_refl (opN f G))
    have r := cut_in x f R p G hp hW hG h91 pk k (by omega) (lfX6_fewestShut_54_45 x fuel) (opN f G + 1) 0 20000 S (by omega) (by omega) h1 h2 (fun b' hb' => by omega)
    rw [show iN 0 = 0 from rfl] at r
    rw [lfX6_fewestShut_54_45, bfX6_fewestShut_54_45, if_neg (show ¬ (10 : Int32) ≤ iN k from fun z => by have := (iN_le (m := 10) (by omega) (by omega)).mp z; omega)]
    rcases r with ⟨r, S', r1, r2⟩ | ⟨S', r1, r2, r3⟩
    · rw [r1]; exact ⟨r, S', rfl, r2⟩
    · rw [r1]
      exact cut_out x f R p G hp hW hG h91 pk hall d (k + 1) fuel S' (by omega) (by omega) r2 r3
theorem Vs.z (f : Nat → Int32) (G : Nat) : Vs f G 0 := ⟨Nat.zero_le _, Nat.zero_and _⟩
theorem opI_s (f : Nat → Int32) (g : Nat) (hg : g < 10) (h : inb (f (25 + g)) 2 = true) : iN (opN f g) ||| (f (25 + g) <<< (iN g &&& 31)) = iN (opN f (g + 1)) ∧ iN (opN f g) ||| (if f (25 + g) = 0 then 0 else (1 : Int32) <<< (iN g &&& 31)) = iN (opN f (g + 1)) := by
  obtain ⟨k, hk, e⟩ := inb_ex h
  rw [opN]
  rcases (show k = 0 ∨ k = 1 by omega) with rfl | rfl
  · have e : f (25 + g) = 0 := e
    rw [e, if_pos rfl, if_pos rfl, (sh_1 g hg).2, iN_or]
    refine ⟨rfl, ?_⟩
    rw [show (0 : Int32) = iN 0 from rfl, iN_or]
  · have e : f (25 + g) = 1 := e
    rw [e, if_neg (show ¬ (1 : Int32) = 0 by decide), if_neg (show ¬ (1 : Int32) = 0 by decide), (sh_1 g hg).1, iN_or]
    exact ⟨rfl, rfl⟩
theorem open_c (x : XT) (f : Nat → Int32) (R : RF) (p G : Nat) (hp : p < 5) (hW : WF f) (hG : G ≤ 10) (h91 : f 91 = iN G) (pk : Int32) (S : ST) (h : BC x S f R p) : ∀ (d g fuel : Nat), g + d = G → d < fuel → lfX6_fewestShut_54_4 x fuel S pk (iN (opN f g)) (iN g) = lfX6_fewestShut_54_45 x 20000 S pk (iN (opN f G)) 0
  | 0, g, fuel, hg, hf => by
    obtain ⟨fuel, rfl⟩ : ∃ z, fuel = z + 1 := ⟨fuel - 1, by omega⟩
    have e : g = G := by omega
    subst e
    rw [lfX6_fewestShut_54_4, bfX6_fewestShut_54_4, h.2.1.1, h91, if_pos ((iN_le (by omega) (by omega)).mpr (Nat.le_refl g))]
  | d + 1, g, fuel, hg, hf => by
    obtain ⟨fuel, rfl⟩ : ∃ z, fuel = z + 1 := ⟨fuel - 1, by omega⟩
    have k5 : S.2.1 60 g = f (25 + g) := (h.2.1.2.2.2.2.2.1 g (by omega)).2.2.2.2
    have s := (opI_s f g (by omega) (hW.1.2.1 g (by omega)).2).2
    have rest := open_c x f R p G hp hW hG h91 pk S h d (g + 1) fuel (by omega) (by omega)
    rw [lfX6_fewestShut_54_4, bfX6_fewestShut_54_4, h.2.1.1, h91, if_neg (fun q => by have := (iN_le (by omega) (by omega)).mp q; omega), inb_t (show g < 10 by omega) (by omega), cond_true, iN_nat (by omega), k5]
    unfold bfX6_fewestShut_54_35
    rw [iN_succ, ← rest, ← s]
    by_cases z : f (25 + g) = 0
    · rw [if_pos z, if_pos z]
    · rw [if_neg z, if_neg z]
theorem cut_r (x : XT) (f : Nat → Int32) (R : RF) (p G : Nat) (hp : p < 5) (hW : WF f) (hG : G ≤ 10) (h91 : f 91 = iN G) (pk : Nat) (hk : pk < 6) (hall : Gd R f p G pk (opN f G)) (v3 : Int32) : ∀ (d b fuel : Nat) (T : ST) (v5 : Int32), b + d = opN f G + 1 → d < fuel → BR T f R p G → ((v5 = -1 ∧ ∀ b', b' < b → ¬ Gd R f p G pk b') ∨ ∃ r, v5 = iN r ∧ r < b ∧ Gd R f p G pk r ∧ ∀ b', b' < b → Gd R f p G pk b' → pcN r < pcN b' ∨ (pcN r = pcN b' ∧ r ≤ b')) → ∃ r T', lfX11_cut_130_88 x fuel T (iN p) (iN pk) v3 (iN (opN f G)) v5 (iN b) = some (if v3 = 0 then iN (pcN r) else iN r, T') ∧ Bst R f p G pk r
  | 0, b, fuel, T, v5, hb, hf, hT, hI => by
    obtain ⟨fuel, rfl⟩ : ∃ z, fuel = z + 1 := ⟨fuel - 1, by omega⟩
    have hN := Vs.lt hG (Nat.le_refl (opN f G))
    rcases hI with ⟨-, z⟩ | ⟨r, rfl, z2, z3, z4⟩
    · exact absurd hall (z _ (by omega))
    · have hr := Vs.lt hG z3.1.1
      rw [lfX11_cut_130_88, bfX11_cut_130_88, if_pos ((iN_lt (by omega) (by omega)).mpr (by omega)), ones_eq, (pc_is r hr).1]
      dsimp only
      unfold bfX11_cut_130_175
      refine ⟨r, T, ?_, z3, fun b' hb' => z4 b' (by have := hb'.1.1; omega) hb'⟩
      by_cases y : v3 = 0
      · rw [if_neg (fun w => w y), if_pos y]
      · rw [if_pos y, if_neg y]
  | d + 1, b, fuel, T, v5, hb, hf, hT, hI => by
    obtain ⟨fuel, rfl⟩ : ∃ z, fuel = z + 1 := ⟨fuel - 1, by omega⟩
    have hN := Vs.lt hG (Nat.le_refl (opN f G))
    have hb1 : b < 1024 := by omega
    have rest := fun T2 v6 a1 a2 => cut_r x f R p G hp hW hG h91 pk hk hall v3 d (b + 1) fuel T2 v6 (by omega) (by omega) a1 a2
    have skip : (Gd R f p G pk b → ∃ r, v5 = iN r ∧ (pcN r < pcN b ∨ (pcN r = pcN b ∧ r ≤ b)) ∧ r < 1024) → ((v5 = -1 ∧ ∀ b', b' < b + 1 → ¬ Gd R f p G pk b') ∨ ∃ r, v5 = iN r ∧ r < b + 1 ∧ Gd R f p G pk r ∧ ∀ b', b' < b + 1 → Gd R f p G pk b' → pcN r < pcN b' ∨ (pcN r = pcN b' ∧ r ≤ b')) := by
      intro hg
      rcases hI with ⟨y1, y2⟩ | ⟨r, y1, y2, y3, y4⟩
      · refine Or.inl ⟨y1, fun b' l1 l2 => ?_⟩
        by_cases e : b' = b
        · subst e
          obtain ⟨r, w1, -, w3⟩ := hg l2
          rw [y1] at w1
          exact iN_m1 (by omega) w1.symm
        · exact y2 b' (by omega) l2
      · refine Or.inr ⟨r, y1, by omega, y3, fun b' l1 l2 => ?_⟩
        by_cases e : b' = b
        · subst e
          obtain ⟨r', w1, w2, w3⟩ := hg l2
          have er : r = r' := (iN_eq (by omega) (by omega)).mp (y1.symm.trans w1)
          rw [er]; exact w2
        · exact y4 b' (by omega) l2
    rw [lfX11_cut_130_88, bfX11_cut_130_88, if_neg (fun z => by have := (iN_lt (by omega) (by omega)).mp z; omega)]
    by_cases c1 : b &&& opN f G = b
    · have pc := (pc_is b hb1).2
      rw [if_neg (fun z => z ((sub_r b (opN f G) hb1 hN).mpr c1))]
      obtain ⟨B, T1, q1, q2, q3, q4⟩ := comes_set x f R p G hp hW hG h91 pk hk (iN b) T hT
      have e127 : (∀ r, v5 = iN r → r < 1024 → pcN b < pcN r) → ∃ r T', bfX11_cut_130_127 x (lfX11_cut_130_88 x fuel) T (iN p) (iN pk) v3 (iN (opN f G)) v5 (iN b) = some (if v3 = 0 then iN (pcN r) else iN r, T') ∧ Bst R f p G pk r := by
        intro hlt
        unfold bfX11_cut_130_127 bfX11_cut_130_153 bfX11_cut_130_155
        rw [placeOf_eq x T f p hp hW hT.1]
        dsimp only
        rw [q1]
        dsimp only
        rw [q2]
        dsimp only
        rw [iN_succ]
        cases B with
        | false =>
          rw [if_pos (show bz false = 0 from rfl)]
          have gd : Gd R f p G pk b := ⟨⟨by omega, c1⟩, fun z => by have := q4.mpr z; cases this⟩
          refine rest T1 (iN b) q3 (Or.inr ⟨b, rfl, by omega, gd, fun b' l1 l2 => ?_⟩)
          by_cases e : b' = b
          · subst e; exact Or.inr ⟨rfl, Nat.le_refl _⟩
          · rcases hI with ⟨y1, y2⟩ | ⟨r, y1, y2, y3, y4⟩
            · exact absurd l2 (y2 b' (by omega))
            · have := hlt r y1 (by omega)
              have := y4 b' (by omega) l2
              omega
        | true =>
          rw [if_neg (show ¬ bz true = 0 by decide)]
          exact rest T1 v5 q3 (skip (fun g => absurd (q4.mp rfl) g.2))
      by_cases c2 : v5 = -1
      · rw [if_pos c2]
        exact e127 (fun r hr hr2 => absurd (c2.symm.trans hr).symm (iN_m1 (by omega)))
      · rw [if_neg c2, ones_eq]
        dsimp only
        rw [ones_eq]
        dsimp only
        rcases hI with ⟨y1, y2⟩ | ⟨r, y1, y2, y3, y4⟩
        · exact absurd y1 c2
        · have hr : r < 1024 := by omega
          have pr := (pc_is r hr).2
          rw [show pcI (iN b) = iN (pcN b) from (pc_is b hb1).1, show pcI v5 = iN (pcN r) by rw [y1]; exact (pc_is r hr).1]
          by_cases c3 : pcN b < pcN r
          · rw [if_pos ((iN_lt (by omega) (by omega)).mpr c3)]
            exact e127 (fun r' h1 h2 => by
              have er : r = r' := (iN_eq (by omega) (by omega)).mp (y1.symm.trans h1)
              rw [← er]; exact c3)
          · rw [if_neg (fun z => c3 ((iN_lt (by omega) (by omega)).mp z))]
            unfold bfX11_cut_130_155
            rw [iN_succ]
            exact rest T v5 hT (skip (fun g => ⟨r, y1, by omega, hr⟩))
    · rw [if_pos (fun z => c1 ((sub_r b (opN f G) hb1 hN).mp z))]
      unfold bfX11_cut_130_155
      rw [iN_succ]
      exact rest T v5 hT (skip (fun g => absurd g.1.2 c1))
theorem open_r (x : XT) (f : Nat → Int32) (R : RF) (p G : Nat) (hW : WF f) (hG : G ≤ 10) (h91 : f 91 = iN G) (v1 v2 v3 : Int32) (T : ST) (h : BR T f R p G) : ∀ (d g fuel : Nat), g + d = G → d < fuel → lfX11_cut_130_49 x fuel T v1 v2 v3 (iN (opN f g)) (iN g) = lfX11_cut_130_88 x 20000 T v1 v2 v3 (iN (opN f G)) (-1) 0
  | 0, g, fuel, hg, hf => by
    obtain ⟨fuel, rfl⟩ : ∃ z, fuel = z + 1 := ⟨fuel - 1, by omega⟩
    have e : g = G := by omega
    subst e
    rw [lfX11_cut_130_49, bfX11_cut_130_49, gateMany_eq]
    dsimp only
    rw [h.1, h91, if_pos ((iN_le (by omega) (by omega)).mpr (Nat.le_refl g))]
  | d + 1, g, fuel, hg, hf => by
    obtain ⟨fuel, rfl⟩ : ∃ z, fuel = z + 1 := ⟨fuel - 1, by omega⟩
    have s := (opI_s f g (by omega) (hW.1.2.1 g (by omega)).2).1
    have rest := open_r x f R p G hW hG h91 v1 v2 v3 T h d (g + 1) fuel (by omega) (by omega)
    rw [lfX11_cut_130_49, bfX11_cut_130_49, gateMany_eq]
    dsimp only
    rw [h.1, h91, if_neg (fun q => by have := (iN_le (by omega) (by omega)).mp q; omega), show (25 : Int32) + iN g = iN (25 + g) from iN_add 25 g, inb_t (show 25 + g < 5703 by omega) (by omega), cond_true, iN_nat (by omega), iN_succ, s]
    exact rest
theorem c_cut (x : XT) (S T : ST) (h : Rel x S T) (a b c : Int32) : Call x S T (gfX10_cut_0 x S a b c) (gfX11_cut_130 x T a b c) := by
  obtain ⟨P, hP, p1, p2⟩ := h.goers
  have key : ∃ r S' T', gfX10_cut_0 x S a b c = some (r, S') ∧ gfX11_cut_130 x T a b c = some (r, T') := by
    unfold gfX10_cut_0 bfX10_cut_0_0 bfX10_cut_0_31 bfX10_cut_0_69 gfX11_cut_130 bfX11_cut_130_0 bfX11_cut_130_36
    rw [canSeek_eq x S a b (-1) P (by omega) p1, isGoer_eq x T a P (by omega) p2, show (decide ((-1 : Int32) = -1) || inb (-1) 20) = true from rfl, Bool.and_true]
    dsimp only
    rw [isPark_eq]
    dsimp only
    rw [show (2 : Int32) = iN 2 from rfl, within_eq x S c 2 (by omega), show (1 : Int32) = iN 2 - 1 from rfl, lies_eq x T c 2 (by omega)]
    dsimp only
    cases ha : inb a P with
    | false =>
      rw [if_pos (show bz false = 0 from rfl), Bool.false_and, if_pos (show bz false = 0 from rfl)]
      exact ⟨_, _, _, rfl, rfl⟩
    | true =>
      rw [if_neg (show ¬ bz true = 0 by decide), Bool.true_and]
      cases hb : inb b 6 with
      | false =>
        rw [if_pos (show bz false = 0 from rfl), if_pos (show bz false = 0 from rfl)]
        exact ⟨_, _, _, rfl, rfl⟩
      | true =>
        rw [if_neg (show ¬ bz true = 0 by decide), if_neg (show ¬ bz true = 0 by decide)]
        cases hc : inb c 2 with
        | false =>
          rw [if_pos (show bz false = 0 from rfl), if_pos (show bz false = 0 from rfl)]
          exact ⟨_, _, _, rfl, rfl⟩
        | true =>
          rw [if_neg (show ¬ bz true = 0 by decide), if_neg (show ¬ bz true = 0 by decide)]
          obtain ⟨p, hp, rfl⟩ := inb_ex ha
          obtain ⟨pk, hk, rfl⟩ := inb_ex hb
          have hW := h.1.2.1
          have k6 : S.2.1 7 p = T.2.1 132 p := (h.1.1.2.2.2.2.2.2.1 p (by omega)).1
          rw [inb_t (show p < 5 by omega) (by omega), cond_true, show (0 : Int32) + iN p = iN (0 + p) from iN_add 0 p, Nat.zero_add, inb_t (show p < 5703 by omega) (by omega), cond_true, iN_nat (by omega), k6]
          by_cases hne : T.2.1 132 p = iN pk
          · rw [if_neg (fun z => z hne), if_neg (fun z => z hne)]
            exact ⟨_, _, _, rfl, rfl⟩
          · rw [if_pos hne, if_pos hne]
            obtain ⟨R, G, S1, T1, hG, h91, b1, b2, c1, c2, hR⟩ := begun x S T h p (by omega)
            have hs := pl0_lt hW p (by omega)
            have gne : bG (pl0 (T.2.1 132) p) (iN pk) (-1) = false := by
              unfold bG
              obtain ⟨w1, w2, -⟩ := hW.1.1 p (by omega)
              have e : pl0 (T.2.1 132) p / 20 = (T.2.1 132 p).toNatClampNeg := by
                have := (inb_is w2).2
                unfold pl0
                omega
              rw [e, ← (inb_is w1).1, decide_eq_false hne, Bool.false_and]
            have hall : Gd R (T.2.1 132) p G pk (opN (T.2.1 132) G) := Gd.all (by omega) hG hk hs gne
            obtain ⟨r, S2, s1, s2⟩ := cut_out x _ R p G (by omega) hW hG h91 pk hall 10 0 20000 S1 (by omega) (by omega) ⟨0, Vs.z _ _, by rw [show iN 0 = 0 from rfl, mF_0]; exact b2⟩ (fun b' _ => Nat.zero_le _)
            obtain ⟨r', T2, t1, t2⟩ := cut_r x _ R p G (by omega) hW hG h91 pk hk hall c (opN (T.2.1 132) G + 1) 0 20000 T1 (-1) (by omega) (by have := Vs.lt hG (Nat.le_refl (opN (T.2.1 132) G)); omega) c2 (Or.inl ⟨rfl, fun b' l => by omega⟩)
            have er := s2.uq t2
            subst er
            have o1 := open_c x _ R p G (by omega) hW hG h91 (iN pk) S1 b2 G 0 20000 (by omega) (by omega)
            have o2 := open_r x _ R p G hW hG h91 (iN p) (iN pk) c T1 c2 G 0 20000 (by omega) (by omega)
            rw [opN, show iN 0 = 0 from rfl] at o1 o2
            rw [show iN 0 = 0 from rfl] at s1 t1
            rw [b1, c1]
            dsimp only
            unfold gfX6_fewestShut_54 bfX6_fewestShut_54_0
            rw [o1, s1, o2, t1]
            dsimp only
            rw [bc_eq x S2 r (Vs.lt hG s2.1.1.1)]
            dsimp only
            by_cases y : c = 0
            · rw [if_neg (fun w => w y), if_pos y]
              exact ⟨_, _, _, rfl, rfl⟩
            · rw [if_pos y, if_neg y]
              exact ⟨_, _, _, rfl, rfl⟩
  obtain ⟨r, S', T', q1, q2⟩ := key
  exact Call.of h q1 q2 (frX10_cut_0 x S _ _ _ _ _ q1) (by decide) (frX11_cut_130 x T _ _ _ _ _ q2) (by decide)
end CUT3
