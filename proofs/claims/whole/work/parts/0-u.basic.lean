section BASIC
def bz (b : Bool) : Int32 := bif b then 1 else 0
theorem bz_0 (b : Bool) : (bz b = 0) = (b = false) := by cases b <;> simp [bz]
theorem bz_b (b : Bool) : bbz (bz b) = true := by cases b <;> rfl
theorem within_eq (x : XT) (S : ST) (a : Int32) (n : Nat) (hn : n < 2147483648) : gfX10_within x S a (iN n) = some (bz (inb a n), S) := by
  unfold gfX10_within bfX10_within_0 bfX10_within_13 bfX10_within_14
  simp only [show bbz 0 = true from rfl, show bbz 1 = true from rfl, cond_true]
  cases h : inb a n with
  | true =>
    obtain ⟨h1, h2⟩ := (inb_iff hn).mp h
    rw [if_neg h1, if_neg h2]
    rfl
  | false =>
    rcases inb_f (v := a) hn (by rw [h]; decide) with h1 | h1
    · rw [if_pos h1]; rfl
    · by_cases h2 : a < 0
      · rw [if_pos h2]; rfl
      · rw [if_neg h2, if_pos h1]; rfl
theorem lies_eq (x : XT) (S : ST) (a : Int32) (n : Nat) (hn : n < 2147483648) : gfX11_lies x S a 0 (iN n - 1) = some (bz (inb a n), S) := by
  unfold gfX11_lies bfX11_lies_0 bfX11_lies_14 bfX11_lies_15
  simp only [show bbz 0 = true from rfl, show bbz 1 = true from rfl, cond_true]
  have key : ¬ a < 0 → ((iN n - 1 < a) = (iN n ≤ a)) := by
    intro h
    have h3 : a = iN a.toNatClampNeg := (Int32.ofNat_toNatClampNeg a (Int32.not_lt.mp h)).symm
    have h5 : a.toNatClampNeg < 2147483648 := Int32.toNatClampNeg_lt a
    rw [h3]
    generalize a.toNatClampNeg = k at h5
    cases n with
    | zero =>
      have : iN 0 - 1 = -1 := by decide
      rw [this]
      refine propext ⟨fun _ => (iN_le (by omega) h5).mpr (by omega), fun _ => ?_⟩
      rw [Int32.lt_iff_toInt_lt, iN_int h5, show (-1 : Int32).toInt = -1 from rfl]
      omega
    | succ n =>
      rw [show iN (n + 1) - 1 = iN (n + 1 - 1) from iN_sub (n := 1) (by omega)]
      refine propext ⟨fun h => (iN_le hn h5).mpr (by have := (iN_lt (by omega) h5).mp h; omega), fun h => (iN_lt (by omega) h5).mpr (by have := (iN_le hn h5).mp h; omega)⟩
  cases h : inb a n with
  | true =>
    obtain ⟨h1, h2⟩ := (inb_iff hn).mp h
    rw [if_neg h1, if_neg (by rw [key h1]; exact h2)]
    rfl
  | false =>
    rcases inb_f (v := a) hn (by rw [h]; decide) with h1 | h1
    · rw [if_pos h1]; rfl
    · by_cases h2 : a < 0
      · rw [if_pos h2]; rfl
      · rw [if_neg h2, if_pos (by rw [key h2]; exact h1)]; rfl
theorem isPark_eq (x : XT) (S : ST) (a : Int32) : gfX11_isPark x S a = some (bz (inb a 6), S) := by
  unfold gfX11_isPark bfX11_isPark_0
  rw [show (5 : Int32) = iN 6 - 1 from rfl, lies_eq x S a 6 (by omega)]
  dsimp only
  rw [bz_b, cond_true]
theorem isMany_eq (x : XT) (S : ST) (a : Int32) : gfX11_isMany x S a = some (bz (inb a 20), S) := by
  unfold gfX11_isMany bfX11_isMany_0
  rw [show (19 : Int32) = iN 20 - 1 from rfl, lies_eq x S a 20 (by omega)]
  dsimp only
  rw [bz_b, cond_true]
theorem isArm_eq (x : XT) (S : ST) (a : Int32) : gfX11_isArm x S a = some (bz (inb a 10), S) := by
  unfold gfX11_isArm bfX11_isArm_0
  rw [show (9 : Int32) = iN 10 - 1 from rfl, lies_eq x S a 10 (by omega)]
  dsimp only
  rw [bz_b, cond_true]
theorem hasGate_eq1 (x : XT) (S : ST) (a : Int32) (n : Nat) (hn : n < 2147483648) (h : S.1 1 0 = iN n) : gfX7_hasGate_1 x S a = some (bz (inb a n), S) := by
  have e := within_eq x S a n hn
  unfold gfX10_within bfX10_within_0 bfX10_within_13 bfX10_within_14 at e
  unfold gfX7_hasGate_1 bfX7_hasGate_1_0 bfX7_hasGate_1_16 bfX7_hasGate_1_17
  rw [h]
  exact e
theorem hasGate_eq84 (x : XT) (S : ST) (a : Int32) (n : Nat) (hn : n < 2147483648) (h : S.1 84 0 = iN n) : gfX7_hasGate_84 x S a = some (bz (inb a n), S) := by
  have e := within_eq x S a n hn
  unfold gfX10_within bfX10_within_0 bfX10_within_13 bfX10_within_14 at e
  unfold gfX7_hasGate_84 bfX7_hasGate_84_0 bfX7_hasGate_84_16 bfX7_hasGate_84_17
  rw [h]
  exact e
theorem hasGoer_eq1 (x : XT) (S : ST) (a : Int32) (n : Nat) (hn : n < 2147483648) (h : S.1 1 6 = iN n) : gfX7_hasGoer_1 x S a = some (bz (inb a n), S) := by
  have e := within_eq x S a n hn
  unfold gfX10_within bfX10_within_0 bfX10_within_13 bfX10_within_14 at e
  unfold gfX7_hasGoer_1 bfX7_hasGoer_1_0 bfX7_hasGoer_1_16 bfX7_hasGoer_1_17
  rw [h]
  exact e
theorem hasGoer_eq84 (x : XT) (S : ST) (a : Int32) (n : Nat) (hn : n < 2147483648) (h : S.1 84 6 = iN n) : gfX7_hasGoer_84 x S a = some (bz (inb a n), S) := by
  have e := within_eq x S a n hn
  unfold gfX10_within bfX10_within_0 bfX10_within_13 bfX10_within_14 at e
  unfold gfX7_hasGoer_84 bfX7_hasGoer_84_0 bfX7_hasGoer_84_16 bfX7_hasGoer_84_17
  rw [h]
  exact e
theorem hasLaw_eq1 (x : XT) (S : ST) (a : Int32) (n : Nat) (hn : n < 2147483648) (h : S.1 1 16 = iN n) : gfX7_hasLaw_1 x S a = some (bz (inb a n), S) := by
  have e := within_eq x S a n hn
  unfold gfX10_within bfX10_within_0 bfX10_within_13 bfX10_within_14 at e
  unfold gfX7_hasLaw_1 bfX7_hasLaw_1_0 bfX7_hasLaw_1_16 bfX7_hasLaw_1_17
  rw [h]
  exact e
theorem hasLaw_eq84 (x : XT) (S : ST) (a : Int32) (n : Nat) (hn : n < 2147483648) (h : S.1 84 16 = iN n) : gfX7_hasLaw_84 x S a = some (bz (inb a n), S) := by
  have e := within_eq x S a n hn
  unfold gfX10_within bfX10_within_0 bfX10_within_13 bfX10_within_14 at e
  unfold gfX7_hasLaw_84 bfX7_hasLaw_84_0 bfX7_hasLaw_84_16 bfX7_hasLaw_84_17
  rw [h]
  exact e
theorem hasLaw_eq55 (x : XT) (S : ST) (a : Int32) (n : Nat) (hn : n < 2147483648) (h : S.1 55 16 = iN n) : gfX7_hasLaw_55 x S a = some (bz (inb a n), S) := by
  have e := within_eq x S a n hn
  unfold gfX10_within bfX10_within_0 bfX10_within_13 bfX10_within_14 at e
  unfold gfX7_hasLaw_55 bfX7_hasLaw_55_0 bfX7_hasLaw_55_16 bfX7_hasLaw_55_17
  rw [h]
  exact e
theorem isGate_eq (x : XT) (T : ST) (a : Int32) (n : Nat) (hn : n < 2147483648) (h : T.2.1 132 91 = iN n) : gfX11_isGate_130 x T a = some (bz (inb a n), T) := by
  unfold gfX11_isGate_130 bfX11_isGate_130_0 gfX11_gateMany_130 bfX11_gateMany_130_0
  dsimp only
  rw [h, lies_eq x T a n hn]
  dsimp only
  rw [bz_b, cond_true]
theorem isGoer_eq (x : XT) (T : ST) (a : Int32) (n : Nat) (hn : n < 2147483648) (h : T.2.1 132 92 = iN n) : gfX11_isGoer_130 x T a = some (bz (inb a n), T) := by
  unfold gfX11_isGoer_130 bfX11_isGoer_130_0
  rw [h, lies_eq x T a n hn]
  dsimp only
  rw [bz_b, cond_true]
theorem gateMany_eq (x : XT) (T : ST) : gfX11_gateMany_130 x T = some (T.2.1 132 91, T) := rfl
theorem canGate_eq (x : XT) (T : ST) (a b c d : Int32) : gfX11_canGate x T a b c d = some (bz (inb a 6 && inb b 6 && inb c 8 && inb d 10), T) := by
  unfold gfX11_canGate bfX11_canGate_0 bfX11_canGate_35 bfX11_canGate_36
  rw [show (7 : Int32) = iN 8 - 1 from rfl]
  simp only [isPark_eq, isArm_eq, lies_eq x T c 8 (by omega), bz_0, show bbz 0 = true from rfl, show bbz 1 = true from rfl, cond_true]
  cases inb a 6 <;> cases inb b 6 <;> cases inb c 8 <;> cases inb d 10 <;> rfl
/-! told: good, refused -/
def tG (S : ST) : ST := (u2 S.1 0 12 0, S.2.1, S.2.2.1, S.2.2.2)
def tR (S : ST) (k : Nat) : ST := (u2 S.1 0 12 (-iN k), u2 S.2.1 99 k (S.2.1 99 k + 1), S.2.2.1, S.2.2.2)
def gG (T : ST) : ST := (u2 T.1 130 0 0, T.2.1, T.2.2.1, T.2.2.2)
def gR (T : ST) (k : Nat) : ST := (u2 T.1 130 0 (-iN k), u2 T.2.1 131 k (T.2.1 131 k + 1), T.2.2.1, T.2.2.2)
theorem told_g (x : XT) (S : ST) (v : Int32) (hv : ¬ v < 0) : gfX10_told_0 x S v = some (v, tG S) := by
  unfold gfX10_told_0 bfX10_told_0_0 bfX10_told_0_30 tG
  rw [if_pos (Int32.not_lt.mp hv)]
  by_cases h : 0 < v
  · rw [if_pos h]
  · rw [if_neg h]
    have : v = 0 := Int32.toInt_inj.mp (by
      have h1 := mt Int32.lt_iff_toInt_lt.mpr hv
      have h2 := mt Int32.lt_iff_toInt_lt.mpr h
      rw [show (0 : Int32).toInt = 0 from rfl] at h1 h2 ⊢
      omega)
    rw [this]
theorem told_r (x : XT) (S : ST) (k : Nat) (h1 : 1 ≤ k) (h2 : k ≤ 6) : gfX10_told_0 x S (-iN k) = some (-iN k, tR S k) := by
  have : k = 1 ∨ k = 2 ∨ k = 3 ∨ k = 4 ∨ k = 5 ∨ k = 6 := by omega
  rcases this with rfl | rfl | rfl | rfl | rfl | rfl <;> rfl
theorem toldAnew_g (x : XT) (S : ST) (v : Int32) (hv : ¬ v < 0) : gfX10_toldAnew_0 x S v = some (v, tG (u2 S.1 33 0 0, S.2.1, S.2.2.1, S.2.2.2)) := by
  unfold gfX10_toldAnew_0 bfX10_toldAnew_0_0 bfX10_toldAnew_0_12
  rw [if_neg hv, told_g x _ v hv]
theorem toldAnew_r (x : XT) (S : ST) (k : Nat) (h1 : 1 ≤ k) (h2 : k ≤ 6) : gfX10_toldAnew_0 x S (-iN k) = some (-iN k, tR S k) := by
  unfold gfX10_toldAnew_0 bfX10_toldAnew_0_0 bfX10_toldAnew_0_12
  rw [if_pos (by have : k = 1 ∨ k = 2 ∨ k = 3 ∨ k = 4 ∨ k = 5 ∨ k = 6 := by omega
                 rcases this with rfl | rfl | rfl | rfl | rfl | rfl <;> decide), told_r x S k h1 h2]
theorem refuses_eq (x : XT) (T : ST) (k : Nat) (h1 : 1 ≤ k) (h2 : k ≤ 6) : gfX11_refuses_130 x T (-iN k) = some (-iN k, gR T k) := by
  have : k = 1 ∨ k = 2 ∨ k = 3 ∨ k = 4 ∨ k = 5 ∨ k = 6 := by omega
  rcases this with rfl | rfl | rfl | rfl | rfl | rfl <;> rfl
theorem good_eq (x : XT) (T : ST) (v : Int32) : gfX11_good_130 x T v = some (v, gG T) := rfl
theorem settled_eq (x : XT) (T : ST) (v : Int32) : gfX11_settled_130 x T v = some (v, gG (u2 T.1 130 31 0, T.2.1, T.2.2.1, T.2.2.2)) := rfl
theorem tG_agr (S : ST) : Agr ([(0, 12)], [], [], []) S (tG S) := Agr.f Agr.rf 0 12 0 (by decide)
theorem tR_agr (S : ST) (k : Nat) : Agr ([(0, 12)], [99], [], []) S (tR S k) := Agr.i (Agr.f Agr.rf 0 12 _ (by decide)) 99 k _ (by decide)
theorem gG_agr (T : ST) : Agr ([(130, 0)], [], [], []) T (gG T) := Agr.f Agr.rf 130 0 0 (by decide)
theorem gR_agr (T : ST) (k : Nat) : Agr ([(130, 0)], [131], [], []) T (gR T k) := Agr.i (Agr.f Agr.rf 130 0 _ (by decide)) 131 k _ (by decide)
/-- the relation but for what calls were REFUSED by -/
def lC' : WS := ((lK 1).1 ++ (lK 100).1 ++ (lK 115).1 ++ [(18, 1), (0, 13), (0, 14), (0, 15), (33, 0), (84, 6)], (lK 1).2.1 ++ (lK 100).2.1 ++ (lK 115).2.1 ++ [17, 19, 34, 90, 91, 93], [], [15, 114, 129, 16])
def lR' : WS := ([(130, 13), (130, 14), (130, 43), (130, 6), (130, 31), (130, 51)], [132, 133, 134, 137, 143, 157, 136], [], [])
theorem Rel.cg' {x : XT} {S S' T T' : ST} (h : Rel x S T) (hS : Sm lC' S S') (hT : Sm lR' T T') (h4 : RelS S' T') : Rel x S' T' := by
  obtain ⟨h1, h2, h3, -, h5, h6, h7, h8⟩ := h
  have e132 := hT.2.1 132 (by decide)
  have e133 := hT.2.1 133 (by decide)
  have e134 := hT.2.1 134 (by decide)
  have e136 := hT.2.1 136 (by decide)
  have e137 := hT.2.1 137 (by decide)
  have e143 := hT.2.1 143 (by decide)
  have e157 := hT.2.1 157 (by decide)
  have t6 := hT.1 (130, 6) (by decide)
  have t13 := hT.1 (130, 13) (by decide)
  have t14 := hT.1 (130, 14) (by decide)
  have t31 := hT.1 (130, 31) (by decide)
  have t43 := hT.1 (130, 43) (by decide)
  have t51 := hT.1 (130, 51) (by decide)
  have s1 := hS.1 (18, 1) (by decide)
  have s13 := hS.1 (0, 13) (by decide)
  have s14 := hS.1 (0, 14) (by decide)
  have s15 := hS.1 (0, 15) (by decide)
  have s33 := hS.1 (33, 0) (by decide)
  have s84 := hS.1 (84, 6) (by decide)
  have a17 := hS.2.1 17 (by decide)
  have a19 := hS.2.1 19 (by decide)
  have a34 := hS.2.1 34 (by decide)
  have a90 := hS.2.1 90 (by decide)
  have a91 := hS.2.1 91 (by decide)
  have a93 := hS.2.1 93 (by decide)
  dsimp only at t6 t13 t14 t31 t43 t51 s1 s13 s14 s15 s33 s84
  refine ⟨?_, h2.cg (hS.sub (by decide) (by decide) (by decide)) (hS.sub (by decide) (by decide) (by decide)) a17 e133 e134 (hS.2.2.1 16 (by decide)), ?_, h4, ?_, ?_, ?_, ?_⟩
  · rw [e132]; exact h1.cg (hS.sub (by decide) (by decide) (by decide))
  · unfold RelT; rw [s1, t13, a19, e137]; exact h3
  · unfold RelM; rw [s13, s14, s15, t14, t43, t6]; exact h5
  · unfold RelU; rw [s33, t31, a34, e143, e132]; exact h6
  · unfold RelD; rw [s84, t51, a90, a91, a93, e157]; exact h7
  · unfold RelC; rw [e136]; exact h8
theorem Rel.good {x : XT} {S T : ST} (h : Rel x S T) : Rel x (tG S) (gG T) := by
  refine h.cg' ((tG_agr S).sm (by decide)) ((gG_agr T).sm (by decide)) ⟨h.2.2.2.1.1, ?_⟩
  show u2 S.1 0 12 0 0 12 = u2 T.1 130 0 0 130 0
  rw [u2_s, u2_s]
theorem Rel.ref {x : XT} {S T : ST} (h : Rel x S T) (k : Nat) (hk : k < 7) : Rel x (tR S k) (gR T k) := by
  refine h.cg' ((tR_agr S k).sm (by decide)) ((gR_agr T k).sm (by decide)) ⟨fun j hj => ?_, ?_⟩
  · show u2 S.2.1 99 k (S.2.1 99 k + 1) 99 j = u2 T.2.1 131 k (T.2.1 131 k + 1) 131 j
    have e := h.2.2.2.1.1 k hk
    by_cases q : j = k
    · subst q; rw [u2_s, u2_s, e]
    · rw [u2_k _ _ _ q, u2_k _ _ _ q]; exact h.2.2.2.1.1 j hj
  · show u2 S.1 0 12 (-iN k) 0 12 = u2 T.1 130 0 (-iN k) 130 0
    rw [u2_s, u2_s]
theorem iN_ref (k : Nat) (h1 : 1 ≤ k) (h2 : k ≤ 6) : -iN k < 0 := by
  have : k = 1 ∨ k = 2 ∨ k = 3 ∨ k = 4 ∨ k = 5 ∨ k = 6 := by omega
  rcases this with rfl | rfl | rfl | rfl | rfl | rfl <;> decide
/-- nothing can be undone any more -/
theorem Rel.fresh {x : XT} {S T : ST} (h : Rel x S T) : Rel x (u2 S.1 33 0 0, S.2.1, S.2.2.1, S.2.2.2) (u2 T.1 130 31 0, T.2.1, T.2.2.1, T.2.2.2) := by
  obtain ⟨h1, h2, h3, h4, h5, h6, h7, h8⟩ := h
  have aS : Agr ([(33, 0)], [], [], []) S (u2 S.1 33 0 0, S.2.1, S.2.2.1, S.2.2.2) := Agr.f Agr.rf 33 0 0 (by decide)
  have n1 : ∀ a k, a ≠ 33 → u2 S.1 33 0 0 a k = S.1 a k := fun a k hh => u2_n _ _ _ _ hh
  have n2 : ∀ k, k ≠ 31 → u2 T.1 130 31 0 130 k = T.1 130 k := fun k hh => u2_k _ _ _ hh
  refine ⟨h1.cg (aS.sm (by decide)), h2.cg (aS.sm (by decide)) (aS.sm (by decide)) rfl rfl rfl rfl, ?_, ?_, ?_, ⟨0, by omega, show u2 S.1 33 0 0 33 0 = iN 0 by rw [u2_s]; rfl, show u2 T.1 130 31 0 130 31 = iN 0 by rw [u2_s]; rfl, fun k hk => by omega⟩, ?_, h8⟩
  · unfold RelT; dsimp only; rw [n1 18 1 (by decide), n2 13 (by decide)]; exact h3
  · unfold RelS; dsimp only; rw [n1 0 12 (by decide), n2 0 (by decide)]; exact h4
  · unfold RelM; dsimp only; rw [n1 0 13 (by decide), n1 0 14 (by decide), n1 0 15 (by decide), n2 14 (by decide), n2 43 (by decide), n2 6 (by decide)]; exact h5
  · unfold RelD; dsimp only; rw [n1 84 6 (by decide), n2 51 (by decide)]; exact h7
/-- what a call is: both sides end, with one answer, and the relation holds behind it -/
def Call {α : Type} (x : XT) (S T : ST) (a : Option (α × ST)) (b : Option (α × ST)) : Prop := ∃ r S' T', a = some (r, S') ∧ b = some (r, T') ∧ Rel x S' T'
theorem Rel.gates {x : XT} {S T : ST} (h : Rel x S T) : ∃ G, G ≤ 10 ∧ S.1 1 0 = iN G ∧ T.2.1 132 91 = iN G := by
  obtain ⟨k, hk, e⟩ := inb_ex h.1.2.1.2.1
  exact ⟨k, by omega, h.1.1.1.trans e, e⟩
theorem Rel.goers {x : XT} {S T : ST} (h : Rel x S T) : ∃ G, G ≤ 5 ∧ S.1 1 6 = iN G ∧ T.2.1 132 92 = iN G := by
  obtain ⟨k, hk, e⟩ := inb_ex h.1.2.1.2.2.1
  exact ⟨k, by omega, h.1.1.2.1.trans e, e⟩
end BASIC
