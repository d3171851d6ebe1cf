section TELLS
theorem WD.mv {o : Bool} {cd vl cd' vl' : Nat → Int32} {i j w : Nat} (B : Nat) (h : WD o cd vl i j w) (hc : ∀ z, i ≤ z → z < j → cd' (z + B) = cd z ∧ vl' (z + B) = vl z) : WD o cd' vl' (i + B) (j + B) w := by
  have hij := (WD_lt h).2
  have ci := (hc i (Nat.le_refl _) hij).1
  cases o with
  | false =>
    obtain ⟨c, h1, h2, h3, h4, h5⟩ := h
    exact ⟨c, h1, h2, ci.trans h3, h4, by omega⟩
  | true =>
    rcases h with ⟨c, h1, h2, h3, h4, h5⟩ | ⟨h1, h2, h3⟩
    · exact Or.inl ⟨c, h1, h2, ci.trans h3, h4, by omega⟩
    · have c1 := hc (i + 1) (by omega) (by omega)
      rw [show i + 1 + B = i + B + 1 by omega] at c1
      refine Or.inr ⟨c1.1.trans h1, by omega, ?_⟩
      rcases h3 with ⟨p, h3, h4, h5⟩ | ⟨p, h3, h4, h5, h6⟩
      · exact Or.inl ⟨p, h3, c1.2.trans h4, h5.elim (fun h => Or.inl ⟨ci.trans h.1, h.2⟩) (fun h => Or.inr ⟨ci.trans h.1, h.2⟩)⟩
      · exact Or.inr ⟨p, h3, c1.2.trans h4, ci.trans h5, h6⟩
theorem Gr.mv {o : Bool} {cd vl cs cd' vl' cs' : Nat → Int32} (B : Nat) : ∀ {n dp kd i j a b k : Nat} {d : DN}, Gr o cd vl cs n dp kd i j a b k d → (∀ z, i ≤ z → z < j → cd' (z + B) = cd z ∧ vl' (z + B) = vl z) → (∀ z, a ≤ z → z < b → cs' z = cs z) → Gr o cd' vl' cs' n dp kd (i + B) (j + B) a b k d := by
  intro n
  induction n with
  | zero => intro dp kd i j a b k d h; exact h.elim
  | succ n ih =>
    intro dp kd i j a b k d h hc hs
    rcases h with ⟨rfl, h⟩ | ⟨rfl, h⟩ | ⟨rfl, h⟩ | ⟨rfl, h⟩ | ⟨rfl, h⟩ | ⟨rfl, h⟩ | ⟨rfl, h⟩
    · refine Or.inl ⟨rfl, ?_⟩
      rcases h with ⟨h1, rfl, rfl, rfl, v, h2, h3, h4, rfl⟩ | ⟨w, h1, rfl, rfl, h4, rfl⟩ | ⟨dp', j', h1, rfl, h3, h4, h5⟩
      · have ci := hc i (by omega) (by omega)
        exact Or.inl ⟨ci.1.trans h1, by omega, rfl, rfl, v, h2, ci.2.trans h3, (hs a (by omega) (by omega)).trans h4, rfl⟩
      · exact Or.inr (Or.inl ⟨w, h1.mv B hc, rfl, rfl, (hs a (by omega) (by omega)).trans h4, rfl⟩)
      · have l5 := h5.lt
        refine Or.inr (Or.inr ⟨dp', j' + B, h1, by omega, ((hc i (by omega) (by omega)).1).trans h3, ((hc j' (by omega) (by omega)).1).trans h4, ?_⟩)
        rw [show i + B + 1 = i + 1 + B by omega]
        exact ih h5 (fun z h1 h2 => hc z (by omega) (by omega)) hs
    · refine Or.inr (Or.inl ⟨rfl, ?_⟩)
      rcases h with h | ⟨m, p, b', k1, k2, d1, d2, op, h1, h2, h3, h4, rfl, h6, rfl, rfl⟩
      · exact Or.inl (ih h hc hs)
      · have l1 := h1.lt
        have l4 := h4.lt
        refine Or.inr ⟨m + B, p, b', k1, k2, d1, d2, op, ih h1 (fun z h1 h2 => hc z (by omega) (by omega)) (fun z h1 h2 => hs z (by omega) (by omega)), h2, ((hc m (by omega) (by omega)).1).trans h3, ?_, rfl, (hs b' (by omega) (by omega)).trans h6, rfl, rfl⟩
        rw [show m + B + 1 = m + 1 + B by omega]
        exact ih h4 (fun z h1 h2 => hc z (by omega) (by omega)) (fun z h1 h2 => hs z (by omega) (by omega))
    · refine Or.inr (Or.inr (Or.inl ⟨rfl, ?_⟩))
      rcases h with h | ⟨m, p, b', k1, k2, d1, d2, op, h1, h2, h3, h4, rfl, h6, rfl, rfl⟩
      · exact Or.inl (ih h hc hs)
      · have l1 := h1.lt
        have l4 := h4.lt
        refine Or.inr ⟨m + B, p, b', k1, k2, d1, d2, op, ih h1 (fun z h1 h2 => hc z (by omega) (by omega)) (fun z h1 h2 => hs z (by omega) (by omega)), h2, ((hc m (by omega) (by omega)).1).trans h3, ?_, rfl, (hs b' (by omega) (by omega)).trans h6, rfl, rfl⟩
        rw [show m + B + 1 = m + 1 + B by omega]
        exact ih h4 (fun z h1 h2 => hc z (by omega) (by omega)) (fun z h1 h2 => hs z (by omega) (by omega))
    · refine Or.inr (Or.inr (Or.inr (Or.inl ⟨rfl, ?_⟩)))
      rcases h with ⟨dp', j', h1, rfl, h3, h4, h5⟩ | ⟨m, p, b', k1, k2, d1, d2, op, h1, h2, h3, h4, rfl, h6, rfl, rfl⟩
      · have l5 := h5.lt
        refine Or.inl ⟨dp', j' + B, h1, by omega, ((hc i (by omega) (by omega)).1).trans h3, ((hc j' (by omega) (by omega)).1).trans h4, ?_⟩
        rw [show i + B + 1 = i + 1 + B by omega]
        exact ih h5 (fun z h1 h2 => hc z (by omega) (by omega)) hs
      · have l1 := h1.lt
        have l4 := h4.lt
        refine Or.inr ⟨m + B, p, b', k1, k2, d1, d2, op, ih h1 (fun z h1 h2 => hc z (by omega) (by omega)) (fun z h1 h2 => hs z (by omega) (by omega)), h2, ((hc m (by omega) (by omega)).1).trans h3, ?_, rfl, (hs b' (by omega) (by omega)).trans h6, rfl, rfl⟩
        rw [show m + B + 1 = m + 1 + B by omega]
        exact ih h4 (fun z h1 h2 => hc z (by omega) (by omega)) (fun z h1 h2 => hs z (by omega) (by omega))
    · refine Or.inr (Or.inr (Or.inr (Or.inr (Or.inl ⟨rfl, ?_⟩))))
      obtain ⟨q, b', d', h1, h2, h3⟩ := h
      have l2 := h2.lt
      have hb : ∀ z, a ≤ z → z < b' → cs' z = cs z := fun z z1 z2 => hs z z1 (by rcases h3 with ⟨h3, rfl, rfl⟩ | ⟨h3, rfl, h4, rfl⟩ <;> omega)
      refine ⟨q, b', d', fun r hr => ?_, ?_, ?_⟩
      · have := (hc (i + r) (by omega) (by omega)).1
        rw [show i + r + B = i + B + r by omega] at this
        exact this.trans (h1 r hr)
      · rw [show i + B + q = i + q + B by omega]
        exact ih h2 (fun z h1 h2 => hc z (by omega) (by omega)) hb
      · rcases h3 with h3 | ⟨h3, rfl, h4, rfl⟩
        · exact Or.inl h3
        · exact Or.inr ⟨h3, rfl, (hs b' (by omega) (by omega)).trans h4, rfl⟩
    · refine Or.inr (Or.inr (Or.inr (Or.inr (Or.inr (Or.inl ⟨rfl, ?_⟩)))))
      rcases h with h | ⟨m, p, k1, k2, d1, d2, h1, h2, h3, h4, rfl, rfl⟩
      · exact Or.inl (ih h hc hs)
      · have l1 := h1.lt
        have l4 := h4.lt
        refine Or.inr ⟨m + B, p, k1, k2, d1, d2, ih h1 (fun z h1 h2 => hc z (by omega) (by omega)) (fun z h1 h2 => hs z (by omega) (by omega)), ((hc m (by omega) (by omega)).1).trans h2, (hs p (by omega) (by omega)).trans h3, ?_, rfl, rfl⟩
        rw [show m + B + 1 = m + 1 + B by omega]
        exact ih h4 (fun z h1 h2 => hc z (by omega) (by omega)) (fun z h1 h2 => hs z (by omega) (by omega))
    · refine Or.inr (Or.inr (Or.inr (Or.inr (Or.inr (Or.inr ⟨rfl, ?_⟩)))))
      rcases h with h | ⟨m, p, k1, k2, d1, d2, h1, h2, h3, h4, rfl, rfl⟩
      · exact Or.inl (ih h hc hs)
      · have l1 := h1.lt
        have l4 := h4.lt
        refine Or.inr ⟨m + B, p, k1, k2, d1, d2, ih h1 (fun z h1 h2 => hc z (by omega) (by omega)) (fun z h1 h2 => hs z (by omega) (by omega)), ((hc m (by omega) (by omega)).1).trans h2, (hs p (by omega) (by omega)).trans h3, ?_, rfl, rfl⟩
        rw [show m + B + 1 = m + 1 + B by omega]
        exact ih h4 (fun z h1 h2 => hc z (by omega) (by omega)) (fun z h1 h2 => hs z (by omega) (by omega))
theorem cl_64 {hi : Int32} (hhi : ¬ hi < 0) (r : Int32) : (if 0 ≤ r.toInt64 then (if r.toInt64 ≤ hi.toInt64 then r.toInt64 else hi.toInt64) else 0) = (cl hi r).toInt64 := by
  unfold cl
  have h1 : (0 ≤ r.toInt64) = (0 ≤ r) := propext (by rw [Int64.le_iff_toInt_le, Int32.le_iff_toInt_le, Int32.toInt_toInt64]; exact Iff.rfl)
  have h2 : (r.toInt64 ≤ hi.toInt64) = (r ≤ hi) := by simp
  simp only [h1, h2]
  have i1 := @Int32.le_iff_toInt_le 0 r
  have i2 := @Int32.le_iff_toInt_le r hi
  have i3 := @Int32.lt_iff_toInt_lt hi r
  have i4 := @Int32.lt_iff_toInt_lt 0 r
  have i5 := @Int32.lt_iff_toInt_lt 0 hi
  have i6 := @Int32.lt_iff_toInt_lt hi 0
  have z : (0 : Int32).toInt = 0 := rfl
  rw [z] at i1 i4 i5 i6
  by_cases a1 : 0 ≤ r
  · rw [if_pos a1]
    by_cases a2 : r ≤ hi
    · have a3 : ¬ hi < r := fun h => by have := i3.mp h; have := i2.mp a2; omega
      rw [if_pos a2, if_neg a3]
      by_cases a4 : 0 < r
      · rw [if_pos a4]
      · rw [if_neg a4]
        have : r = 0 := Int32.toInt_inj.mp (by rw [z]; have := i1.mp a1; have := mt i4.mpr a4; omega)
        rw [this]
    · have a3 : hi < r := i3.mpr (by have := mt i2.mpr a2; omega)
      rw [if_neg a2, if_pos a3]
      by_cases a4 : 0 < hi
      · rw [if_pos a4]
      · rw [if_neg a4]
        have : hi = 0 := Int32.toInt_inj.mp (by rw [z]; have := mt i6.mpr hhi; have := mt i5.mpr a4; omega)
        rw [this]
  · rw [if_neg a1]
    have a3 : ¬ hi < r := fun h => by have := i3.mp h; have := mt i1.mpr a1; have := mt i6.mpr hhi; omega
    rw [if_neg a3, if_neg (fun h => by have := i4.mp h; have := mt i1.mpr a1; omega)]
    rfl
theorem ge_bg (T : ST) (g g' : Nat) (b b' : Int32) : ((u2 (u2 (ge T g b).1 130 24 b') 130 22 (iN g')), (ge T g b).2.1, (ge T g b).2.2.1, (ge T g b).2.2.2) = ge T g' b' := by
  unfold ge; dsimp only
  rw [u2_u2, u2_cm _ 130 24 22 _ _ (by decide), u2_u2]
def acc (wo hi : Int32) (r : Option Int32) : Int64 := match r with
  | none => wo.toInt64
  | some z => (cl hi z).toInt64
set_option maxRecDepth 4000 in
theorem tells_loop (x : XT) (S : ST) (t : Nat) (T : ST) (B N C : Nat) (V : Nat → Nat) (dS dT : Nat → DN) (hL : LawD x S t (fun k => T.2.1 132 (103 + B + k)) (fun k => T.2.1 132 (2903 + B + k)) N C V dS dT) (hB : B ≤ 2400) (hE : T.1 130 23 = iN (B + N)) (W : Nat → Int32) (hW : HW x false T W) (v : Nat) (hv : v ≤ 2) (hi wo : Int32) (hhi : ¬ hi < 0) (P J : Nat → Nat) (Z : Nat) (hcl : ∀ c, c < C → P (c + 1) = J c + 1 ∧ J c ≤ N ∧ LCl (fun k => T.2.1 132 (103 + B + k)) (fun k => T.2.1 132 (2903 + B + k)) (S.2.1 (t + 4)) (S.2.1 (t + 1)) (S.2.1 (t + 3)) Z c (P c) (J c) (V c) (dS c) (dT c) ∧ (c + 1 < C → J c < N ∧ T.2.1 132 (103 + B + J c) = iN 159) ∧ (c + 1 = C → J c = N)) (hC : P C = N + 1) :
    ∀ (m c fuel : Nat) (br : Int32), c + m = C → m < fuel → ∃ br', lfX11_tells_130_61 x fuel (ge T (B + P c) br) (iN (v + 1)) hi (acc wo hi (tl V dS dT v W c)) = some ((acc wo hi (tl V dS dT v W C)).toInt32, ge T (B + N + 1) br')
  | 0, c, fuel, br, hc, hf => by
    obtain ⟨fuel, rfl⟩ : ∃ z, fuel = z + 1 := ⟨fuel - 1, by omega⟩
    have : c = C := by omega
    subst this
    have hN := hL.2.2.1
    refine ⟨br, ?_⟩
    rw [hC]
    show bfX11_tells_130_61 x (lfX11_tells_130_61 x fuel) (ge T (B + (N + 1)) br) (iN (v + 1)) hi _ = _
    unfold bfX11_tells_130_61
    rw [ge_22, ge_o T _ br (by decide) (by decide), hE, if_pos ((iN_le (by omega) (by omega)).mpr (by omega))]
    rfl
  | m + 1, c, fuel, br, hc, hf => by
    obtain ⟨fuel, rfl⟩ : ∃ z, fuel = z + 1 := ⟨fuel - 1, by omega⟩
    have hN := hL.2.2.1
    have ne : (1 : Int32) ≠ 0 := by decide
    obtain ⟨hP1, hJ, hLC, hs1, hs2⟩ := hcl c (by omega)
    obtain ⟨j1, a0, a1, a2, n, k1, k2, hv2, t1, t2, b0, b1, b2, b3, haZ, ha12, hsum, htest⟩ := hLC
    have ih := fun br => tells_loop x S t T B N C V dS dT hL hB hE W hW v hv hi wo hhi P J Z hcl hC m (c + 1) fuel br (by omega) (by omega)
    have hj1 : P c < j1 ∧ j1 ≤ J c := by
      have q1 : P c < j1 := by
        rcases hsum with ⟨-, e1, -⟩ | ⟨-, -, hg⟩
        · omega
        · have := hg.lt.1; omega
      have q2 : j1 ≤ J c := by
        rcases htest with ⟨e1, -, -⟩ | ⟨-, -, hg⟩
        · omega
        · have := hg.lt.1; omega
      exact ⟨q1, q2⟩
    have cdE : ∀ k, k < N → ec T (B + N) (B + k) = T.2.1 132 (103 + B + k) := fun k hk => by rw [ec_lt (by omega), show 103 + (B + k) = 103 + B + k by omega]
    -- the code behind the CLAUSE
    have endc : ec T (B + N) (B + J c) = iN 159 ∨ ec T (B + N) (B + J c) = iN 0 := by
      by_cases h : c + 1 < C
      · left; rw [cdE _ (hs1 h).1]; exact (hs1 h).2
      · right
        have := hs2 (by omega)
        unfold ec
        rw [if_neg (by omega)]
        rfl
    have endf : fol T (B + N) (B + J c) ∧ ¬ ec T (B + N) (B + J c) = iN 6 ∧ ¬ ec T (B + N) (B + J c) = iN 5 ∧ ¬ ec T (B + N) (B + J c) = iN 4 := by
      rcases endc with h | h
      · exact ⟨fol_of h (by omega) (by omega) (by omega) (by omega) (by omega) (by omega), by rw [h]; exact ⟨iNn (by omega) (by omega) (by omega), iNn (by omega) (by omega) (by omega), iNn (by omega) (by omega) (by omega)⟩⟩
      · exact ⟨fol_of h (by omega) (by omega) (by omega) (by omega) (by omega) (by omega), by rw [h]; exact ⟨iNn (by omega) (by omega) (by omega), iNn (by omega) (by omega) (by omega), iNn (by omega) (by omega) (by omega)⟩⟩
    -- behind the SUM: the code at j1
    have j1c : fol T (B + N) (B + j1) := by
      rcases htest with ⟨e1, -, -⟩ | ⟨e1, -, hg⟩
      · rw [← e1]; exact endf.1
      · have := hg.lt.1
        exact fol_of (c := 4) ((cdE j1 (by omega)).trans e1) (by omega) (by omega) (by omega) (by omega) (by omega) (by omega)
    -- what is told then
    have last : ∀ (b : Int32) (sb : Int32) (s : Int64) (tt : Int32), (b = 0 ∨ b = 1) → (sb = 0 ∨ sb = 1) → (tt = 0 ∨ tt = 1) →
        (match dS c W with
          | none => sb = 1
          | some z => sb = 0 ∧ s = z.toInt64) →
        (match dT c W with
          | none => b = 1
          | some z => b = 0 ∧ tt = z) →
        ∃ br', bfX11_tells_130_146 x (lfX11_tells_130_61 x fuel) (ge T (B + J c) b) (iN (v + 1)) hi (acc wo hi (tl V dS dT v W c)) (iN (V c + 1)) s sb tt = some ((acc wo hi (tl V dS dT v W C)).toInt32, ge T (B + N + 1) br') := by
      intro b sb s tt hb hsb htt hdS hdT
      have go : ∀ br, lfX11_tells_130_61 x fuel (ge T (B + P (c + 1)) br) (iN (v + 1)) hi (acc wo hi (tl V dS dT v W (c + 1))) = bfX11_tells_130_199 x (lfX11_tells_130_61 x fuel) (ge T (B + J c) br) (iN (v + 1)) hi (acc wo hi (tl V dS dT v W (c + 1))) := by
        intro br
        unfold bfX11_tells_130_199
        rw [ge_22, iN_succ, ge_go, hP1, show B + J c + 1 = B + (J c + 1) by omega]
      obtain ⟨br', h'⟩ := ih b
      rw [go b] at h'
      unfold bfX11_tells_130_146 bfX11_tells_130_197
      rw [ge_24]
      refine ⟨br', ?_⟩
      by_cases c1 : V c = v
      · rw [if_neg (fun h => h (by rw [c1]))]
        cases hT : dT c W with
        | none =>
          rw [hT] at hdT
          have hdT : b = 1 := hdT
          have e : tl V dS dT v W (c + 1) = tl V dS dT v W c := by
            rw [tl, if_neg (fun h => by rw [hT] at h; cases h.2)]
          rw [e] at h'
          rw [hdT, if_pos ne]
          rw [hdT] at h'
          by_cases c2 : tt = 0
          · rw [if_pos c2]; exact h'
          · rw [if_neg c2]; exact h'
        | some z =>
          rw [hT] at hdT
          obtain ⟨rfl, rfl⟩ := hdT
          by_cases c2 : tt = 0
          · have e : tl V dS dT v W (c + 1) = tl V dS dT v W c := by
              rw [tl, if_neg (fun h => by rw [hT, c2] at h; cases h.2)]
            rw [e] at h'
            rw [if_pos c2]; exact h'
          · rw [if_neg c2, if_neg (fun h => h rfl)]
            have c3 : tt = 1 := htt.elim (fun h => absurd h c2) id
            cases hS : dS c W with
            | none =>
              rw [hS] at hdS
              have hdS : sb = 1 := hdS
              have e : tl V dS dT v W (c + 1) = tl V dS dT v W c := by
                rw [tl, if_pos ⟨c1, by rw [hT, c3]⟩, hS]
              rw [e] at h'
              rw [hdS, if_pos ne]; exact h'
            | some z =>
              rw [hS] at hdS
              obtain ⟨rfl, rfl⟩ := hdS
              have e : tl V dS dT v W (c + 1) = some z := by
                rw [tl, if_pos ⟨c1, by rw [hT, c3]⟩, hS]
              rw [e] at h'
              rw [if_neg (fun h => h rfl)]
              simp only [lg_cmp_ge, lg_cmp_le]
              have h'' : bfX11_tells_130_199 x (lfX11_tells_130_61 x fuel) (ge T (B + J c) 0) (iN (v + 1)) hi (cl hi z).toInt64 = some ((acc wo hi (tl V dS dT v W C)).toInt32, ge T (B + N + 1) br') := h'
              rw [← cl_64 hhi z] at h''
              by_cases d1 : 0 ≤ z.toInt64
              · rw [if_pos d1] at h'' ⊢
                by_cases d2 : z.toInt64 ≤ hi.toInt64
                · rw [if_pos d2] at h'' ⊢; exact h''
                · rw [if_neg d2] at h'' ⊢; exact h''
              · rw [if_neg d1] at h'' ⊢; exact h''
      · have e : tl V dS dT v W (c + 1) = tl V dS dT v W c := by
          rw [tl, if_neg (fun h => c1 h.1)]
        rw [e] at h'
        rw [if_pos (fun h => c1 (by have := (iN_eq (m := V c + 1) (n := v + 1) (by omega) (by omega)).mp h; omega))]
        exact h'
    -- behind the SUM
    have mid : ∀ (sb : Int32) (s : Int64), (sb = 0 ∨ sb = 1) → (match dS c W with
          | none => sb = 1
          | some z => sb = 0 ∧ s = z.toInt64) → ∃ br', bfX11_tells_130_112 x (lfX11_tells_130_61 x fuel) (ge T (B + j1) sb) (iN (v + 1)) hi (acc wo hi (tl V dS dT v W c)) (iN (V c + 1)) s = some ((acc wo hi (tl V dS dT v W C)).toInt32, ge T (B + N + 1) br') := by
      intro sb s hsb hdS
      unfold bfX11_tells_130_112 bfX11_tells_130_141
      rw [ge_br, show (4 : Int32) = iN 4 from rfl, passes_eq x T (B + N) hE (by omega) (B + j1) 0 (by omega), ge_24]
      rcases htest with ⟨e1, e2, e3⟩ | ⟨e1, hk2, hg⟩
      · rw [if_neg (by rw [← e1]; exact endf.2.2.2)]
        dsimp only
        rw [if_pos rfl, ← e1]
        exact last 0 sb s 1 (Or.inl rfl) hsb (Or.inr rfl) hdS (by rw [e3]; exact ⟨rfl, rfl⟩)
      · have hlt := hg.lt.1
        rw [if_pos ((cdE j1 (by omega)).trans e1)]
        dsimp only
        rw [if_neg ne]
        have hg' := hg.mv (cd' := cdT T) (vl' := vlT T) (cs' := S.2.1 (t + 4)) B (fun z _ _ => ⟨by show T.2.1 132 (103 + (z + B)) = T.2.1 132 (103 + B + z); rw [show 103 + (z + B) = 103 + B + z by omega], by show T.2.1 132 (2903 + (z + B)) = T.2.1 132 (2903 + B + z); rw [show 2903 + (z + B) = 2903 + B + z by omega]⟩) (fun _ _ _ => rfl)
        rw [show j1 + 1 + B = B + j1 + 1 by omega, show J c + B = B + J c by omega] at hg'
        obtain ⟨tt, b', f1, f2⟩ := refTest x false T W hW (B + N) hE (by omega) (S.2.1 (t + 4)) 1 (Or.inr rfl) hg' (by omega) (by omega) (by omega) endf.1 endf.2.1 endf.2.2.1 0 (Or.inl rfl)
        rw [f1]
        dsimp only
        have hl := last b' sb s tt f2.2.1 hsb f2.1 hdS (f2.2.2.1 rfl rfl)
        by_cases c2 : tt = 0
        · rw [if_pos c2]; rw [c2] at hl; exact hl
        · rw [if_neg c2]
          rw [f2.1.elim (fun h => absurd h c2) id] at hl
          exact hl
    show ∃ br', bfX11_tells_130_61 x (lfX11_tells_130_61 x fuel) (ge T (B + P c) br) (iN (v + 1)) hi (acc wo hi (tl V dS dT v W c)) = some ((acc wo hi (tl V dS dT v W C)).toInt32, ge T (B + N + 1) br')
    unfold bfX11_tells_130_61
    rw [ge_22, ge_o T _ br (by decide) (by decide), hE, if_neg (fun h => by have := (iN_le (by omega) (by omega)).mp h; omega), codeAt_eq x T (B + N) hE (by omega) (B + P c) br (B + P c) (by omega), (cdE (P c) (by omega)).trans t1]
    dsimp only
    rw [ge_22, iN_succ, ge_bg]
    rcases hsum with ⟨e1, e2, e3⟩ | ⟨e1, hk1, hg⟩
    · rw [if_neg (fun h => h (by rw [e1]; rfl))]
      have hm := mid 0 1 (Or.inl rfl) (by rw [e3]; exact ⟨rfl, rfl⟩)
      rw [e2, show B + (P c + 1) = B + P c + 1 by omega] at hm
      exact hm
    · rw [if_pos (fun h => by have := (iN_eq (m := V c + 1) (n := 3) (by omega) (by omega)).mp h; omega)]
      have hlt := hg.lt.1
      have hg' := hg.mv (cd' := cdT T) (vl' := vlT T) (cs' := S.2.1 (t + 4)) B (fun z _ _ => ⟨by show T.2.1 132 (103 + (z + B)) = T.2.1 132 (103 + B + z); rw [show 103 + (z + B) = 103 + B + z by omega], by show T.2.1 132 (2903 + (z + B)) = T.2.1 132 (2903 + B + z); rw [show 2903 + (z + B) = 2903 + B + z by omega]⟩) (fun _ _ _ => rfl)
      rw [show P c + 1 + B = B + P c + 1 by omega, show j1 + B = B + j1 by omega] at hg'
      obtain ⟨s, b', f1, f2⟩ := refSum x false T W hW (B + N) hE (by omega) (S.2.1 (t + 4)) 1 (Or.inr rfl) hg' (by omega) (by omega) (by omega) j1c.1 j1c.2 0 (Or.inl rfl)
      rw [f1]
      exact mid b' s f2.1 (f2.2.1 rfl rfl)
theorem LR.bars {x : XT} {S : ST} {o : Nat} {f : Nat → Int32} {R : Nat → (Nat → Int32) → Option Int32} (h : LR x S o f R) (W : Nat → Int32) : R 2 W = none ∨ R 2 W = some 1 := by
  rcases h with ⟨-, -, rfl⟩ | ⟨l, t, L, N, C, V, dS, dT, -, -, -, -, -, -, -, h4, rfl⟩
  · exact Or.inl rfl
  · obtain ⟨-, -, -, -, -, Z, -, -, -, -, -, -, P, J, -, hcl⟩ := h4
    have : ∀ c, c ≤ C → tl V dS dT 2 W c = none ∨ tl V dS dT 2 W c = some 1 := by
      intro c
      induction c with
      | zero => intro _; exact Or.inl rfl
      | succ c ih =>
        intro hc
        obtain ⟨-, -, hLC, -, -⟩ := hcl c (by omega)
        obtain ⟨j1, a0, a1, a2, n, k1, k2, hv2, t1, t2, b0, b1, b2, b3, haZ, ha12, hsum, htest⟩ := hLC
        rw [tl]
        by_cases h : V c = 2 ∧ dT c W = some 1
        · rw [if_pos h]
          rcases hsum with ⟨-, -, e3⟩ | ⟨e1, -, -⟩
          · rw [e3]; exact Or.inr rfl
          · omega
        · rw [if_neg h]
          exact ih (by omega)
    exact this C (Nat.le_refl _)
/-- what the reference tells of what is asked -/
theorem tells_eq (x : XT) (S : ST) (o : Nat) (T : ST) (R : Nat → (Nat → Int32) → Option Int32) (hR : LR x S o (T.2.1 132) R) (W : Nat → Int32) (hW : ∀ c, 8 ≤ c → c ≤ 15 → T.2.1 142 (c - 8) = W (lw c)) (v : Nat) (hv : v ≤ 2) (hi wo : Int32) (hhi : ¬ hi < 0) : ∃ T', gfX11_tells_130 x T (iN (v + 1)) hi wo = some ((match R v W with
    | none => wo
    | some r => cl hi r), T') := by
  rcases hR with ⟨h1, -, rfl⟩ | ⟨l, t, L, N, C, V, dS, dT, hl, hL6, h1, -, -, -, h5, h4, rfl⟩
  · refine ⟨T, ?_⟩
    unfold gfX11_tells_130 bfX11_tells_130_0
    rw [h1, if_neg (fun h => h rfl)]
  · have hN := h4.2.2.1
    unfold gfX11_tells_130 bfX11_tells_130_0
    rw [h1, if_pos (iN_ne1 (by omega)), show (96 : Int32) + iN l = iN (96 + l) from iN_add 96 l, inb_t (show 96 + l < 5703 by omega) (by omega), cond_true, iN_nat (by omega), h5, show (400 : Int32) * iN l = iN (400 * l) from iN_mul 400 l, iN_add]
    have hb : (u2 (u2 (u2 T.1 130 25 0) 130 22 (iN (400 * l))) 130 23 (iN (400 * l + N))) 130 24 = T.1 130 24 := by
      rw [u2_k _ _ _ (by decide), u2_k _ _ _ (by decide), u2_k _ _ _ (by decide)]
    have h22 : (u2 (u2 (u2 T.1 130 25 0) 130 22 (iN (400 * l))) 130 23 (iN (400 * l + N))) 130 22 = iN (400 * l) := by
      rw [u2_k _ _ _ (by decide), u2_s]
    have h25 : (u2 (u2 (u2 T.1 130 25 0) 130 22 (iN (400 * l))) 130 23 (iN (400 * l + N))) 130 25 = 0 := by
      rw [u2_k _ _ _ (by decide), u2_k _ _ _ (by decide), u2_s]
    have h23 : (u2 (u2 (u2 T.1 130 25 0) 130 22 (iN (400 * l))) 130 23 (iN (400 * l + N))) 130 23 = iN (400 * l + N) := u2_s _ _ _ _
    generalize hF : u2 (u2 (u2 T.1 130 25 0) 130 22 (iN (400 * l))) 130 23 (iN (400 * l + N)) = F at hb h22 h25 h23
    have hs : ge (F, T.2.1, T.2.2.1, T.2.2.2) (400 * l) (T.1 130 24) = (F, T.2.1, T.2.2.1, T.2.2.2) := ge_self h22 hb
    have h4' := h4
    obtain ⟨hx, ht, -, hC1, hC2, Z, hZ, m1, m3, m4, s0, s1, P, J, hP, hcl⟩ := h4'
    have hPC : P C = N + 1 := by
      obtain ⟨q1, -, -, -, q2⟩ := hcl (C - 1) (by omega)
      rw [Nat.sub_add_cancel hC1] at q1 q2
      rw [q1, q2 rfl]
    have key := tells_loop x S t (F, T.2.1, T.2.2.1, T.2.2.2) (400 * l) N C V dS dT h4 (by omega) h23 W ⟨h25, hW⟩ v hv hi wo hhi P J Z hcl hPC C 0 20000 (T.1 130 24) (by omega) (by omega)
    rw [hP, Nat.add_zero, hs] at key
    obtain ⟨br', key⟩ := key
    refine ⟨ge (F, T.2.1, T.2.2.1, T.2.2.2) (400 * l + N + 1) br', ?_⟩
    rw [show acc wo hi (tl V dS dT v W 0) = wo.toInt64 from rfl] at key
    rw [key]
    have : ∀ r, (acc wo hi r).toInt32 = (match r with
      | none => wo
      | some r => cl hi r) := by
      intro r
      cases r <;> exact Int32.toInt32_toInt64 _
    rw [this]
end TELLS
