section LOOK
/-- how many goers are whole -/
def cn (f : Nat → Int32) (P : Nat) : Nat → Nat
  | 0 => 0
  | p + 1 => if p < P ∧ f (5 + p) = 1 then cn f P p + 1 else cn f P p
theorem cn_le (f : Nat → Int32) (P : Nat) : ∀ p, cn f P p ≤ p
  | 0 => Nat.le_refl _
  | p + 1 => by
    have := cn_le f P p
    rw [cn]
    by_cases c : p < P ∧ f (5 + p) = 1
    · rw [if_pos c]; omega
    · rw [if_neg c]; omega
theorem cn_end (f : Nat → Int32) (P : Nat) : ∀ d, cn f P (P + d) = cn f P P
  | 0 => rfl
  | d + 1 => by
    rw [show P + (d + 1) = (P + d) + 1 from rfl, cn, if_neg (fun z => by omega)]
    exact cn_end f P d
/-- the words of ORDERS -/
def oW (f : Nat → Int32) (dn lt : Int32) (G P : Nat) : Nat → Int32 := fun w =>
  if w = 0 then f 35 else if w = 1 then dn else if w = 2 then lt else if w = 3 then iN (cn f P P) else if w < 9 then (if w - 4 < P then f (5 + (w - 4)) else -1) else if w < 14 then (if w - 9 < P then f (w - 9) else -1) else (if w - 14 < G then f (15 + (w - 14)) else -1)
theorem oW_many (f : Nat → Int32) (dn lt : Int32) (G P p : Nat) (hp : p < 5) : oW f dn lt G P (4 + p) = if p < P then f (5 + p) else -1 := by
  unfold oW
  rw [if_neg (by omega), if_neg (by omega), if_neg (by omega), if_neg (by omega), if_pos (by omega), Nat.add_sub_cancel_left]
theorem oW_park (f : Nat → Int32) (dn lt : Int32) (G P p : Nat) (hp : p < 5) : oW f dn lt G P (9 + p) = if p < P then f p else -1 := by
  unfold oW
  rw [if_neg (by omega), if_neg (by omega), if_neg (by omega), if_neg (by omega), if_neg (by omega), if_pos (by omega), Nat.add_sub_cancel_left]
theorem oW_arm (f : Nat → Int32) (dn lt : Int32) (G P g : Nat) : oW f dn lt G P (14 + g) = if g < G then f (15 + g) else -1 := by
  unfold oW
  rw [if_neg (by omega), if_neg (by omega), if_neg (by omega), if_neg (by omega), if_neg (by omega), if_neg (by omega), Nat.add_sub_cancel_left]
theorem oW_nb {f : Nat → Int32} (hM : MW f) {dn lt : Int32} (hd : ¬ dn = -2000000000) (hl : ¬ lt = -2000000000) {G P : Nat} (hG : G ≤ 10) (hP : P ≤ 5) : ∀ w, w < 24 → ¬ oW f dn lt G P w = -2000000000 := by
  intro w hw
  unfold oW
  by_cases w0 : w = 0
  · rw [if_pos w0]; exact inb_nb hM.2.2 (by omega)
  by_cases w1 : w = 1
  · rw [if_neg w0, if_pos w1]; exact hd
  by_cases w2 : w = 2
  · rw [if_neg w0, if_neg w1, if_pos w2]; exact hl
  by_cases w3 : w = 3
  · rw [if_neg w0, if_neg w1, if_neg w2, if_pos w3]
    have := cn_le f P P
    exact iN_nb (by omega)
  rw [if_neg w0, if_neg w1, if_neg w2, if_neg w3]
  by_cases w4 : w < 9
  · rw [if_pos w4]
    by_cases c : w - 4 < P
    · rw [if_pos c]; exact inb_nb (hM.1 (w - 4) (by omega)).2.1 (by omega)
    · rw [if_neg c]; decide
  rw [if_neg w4]
  by_cases w5 : w < 14
  · rw [if_pos w5]
    by_cases c : w - 9 < P
    · rw [if_pos c]; exact inb_nb (hM.1 (w - 9) (by omega)).1 (by omega)
    · rw [if_neg c]; decide
  rw [if_neg w5]
  by_cases c : w - 14 < G
  · rw [if_pos c]; exact inb_nb (hM.2.1 (w - 14) (by omega)).1 (by omega)
  · rw [if_neg c]; decide
theorem whole_l (x : XT) (T : ST) (P : Nat) (hP : P ≤ 5) (e : T.2.1 132 92 = iN P) : ∀ (q p fuel : Nat), p + q = P → q < fuel → lfX11_wholeMany_130_4 x fuel T (iN (cn (T.2.1 132) P p)) (iN p) = some (iN (cn (T.2.1 132) P P), T)
  | 0, p, fuel, hp, hf => by
    obtain ⟨fuel, rfl⟩ : ∃ z, fuel = z + 1 := ⟨fuel - 1, by omega⟩
    have : p = P := by omega
    subst this
    rw [lfX11_wholeMany_130_4, bfX11_wholeMany_130_4, e, if_pos (Int32.le_refl _)]
  | q + 1, p, fuel, hp, hf => by
    obtain ⟨fuel, rfl⟩ : ∃ z, fuel = z + 1 := ⟨fuel - 1, by omega⟩
    rw [lfX11_wholeMany_130_4, bfX11_wholeMany_130_4, e, if_neg (fun z => by have := (iN_le (by omega) (by omega)).mp z; omega), show (5 : Int32) + iN p = iN (5 + p) from iN_add 5 p, inb_t (show 5 + p < 5703 by omega) (by omega), cond_true, iN_nat (by omega)]
    unfold bfX11_wholeMany_130_33
    rw [iN_succ]
    have ih := whole_l x T P hP e q (p + 1) fuel (by omega) (by omega)
    rw [cn] at ih
    by_cases c : T.2.1 132 (5 + p) = 1
    · rw [if_neg (fun z => z c), iN_succ]
      rw [if_pos ⟨by omega, c⟩] at ih
      exact ih
    · rw [if_pos c, Int32.add_zero]
      rw [if_neg (fun z => c z.2)] at ih
      exact ih
theorem whole_eq (x : XT) (T : ST) (P : Nat) (hP : P ≤ 5) (e : T.2.1 132 92 = iN P) : gfX11_wholeMany_130 x T = some (iN (cn (T.2.1 132) P P), T) := by
  unfold gfX11_wholeMany_130 bfX11_wholeMany_130_0
  exact whole_l x T P hP e P 0 20000 (by omega) (by omega)
set_option maxRecDepth 4000 in
theorem HW_of (x : XT) (T : ST) (G P : Nat) (hG : G ≤ 10) (hP : P ≤ 5) (e1 : T.2.1 132 91 = iN G) (e2 : T.2.1 132 92 = iN P) (h25 : T.1 130 25 = 1) : HW x true T (oW (T.2.1 132) (T.1 130 27) (T.1 130 28) G P) := by
  have bt : ¬ bz true = 0 := by decide
  have nn : ∀ m n : Nat, m < 1000 → n < 1000 → m ≠ n → ¬ iN m = iN n := fun m n hm hn h e => h ((iN_eq (by omega) (by omega)).mp e)
  refine ⟨h25, fun g b c v c1 c2 => ?_, fun g b p hp => ⟨?_, ?_⟩, fun g b p hp => ?_⟩
  · have d : c = 15 ∨ c = 16 ∨ c = 17 ∨ c = 18 := by omega
    rcases d with rfl | rfl | rfl | rfl
    · unfold gfX11_orderValue_130 bfX11_orderValue_130_0
      rw [if_neg (show ¬ iN 15 = 13 by decide), if_neg (show ¬ iN 15 = 14 by decide), if_pos (show iN 15 = 15 from rfl)]
      rfl
    · unfold gfX11_orderValue_130 bfX11_orderValue_130_0
      rw [if_neg (show ¬ iN 16 = 13 by decide), if_neg (show ¬ iN 16 = 14 by decide), if_neg (show ¬ iN 16 = 15 by decide), if_pos (show iN 16 = 16 from rfl), ge_o T g b (by decide) (by decide)]
      rfl
    · unfold gfX11_orderValue_130 bfX11_orderValue_130_0
      rw [if_neg (show ¬ iN 17 = 13 by decide), if_neg (show ¬ iN 17 = 14 by decide), if_neg (show ¬ iN 17 = 15 by decide), if_neg (show ¬ iN 17 = 16 by decide), if_pos (show iN 17 = 17 from rfl), ge_o T g b (by decide) (by decide)]
      rfl
    · unfold gfX11_orderValue_130 bfX11_orderValue_130_0
      rw [if_neg (show ¬ iN 18 = 13 by decide), if_neg (show ¬ iN 18 = 14 by decide), if_neg (show ¬ iN 18 = 15 by decide), if_neg (show ¬ iN 18 = 16 by decide), if_neg (show ¬ iN 18 = 17 by decide), if_pos (show iN 18 = 18 from rfl), whole_eq x (ge T g b) P hP e2]
      rfl
  · rw [oW_many _ _ _ _ _ _ hp]
    unfold gfX11_orderValue_130 bfX11_orderValue_130_0
    rw [if_neg (show ¬ iN 14 = 13 by decide), if_pos (show iN 14 = 14 from rfl), isGoer_eq x (ge T g b) _ P (by omega) e2, inb_iN (by omega)]
    dsimp only
    unfold bfX11_orderValue_130_86
    by_cases c : p < P
    · rw [decide_eq_true c, if_neg bt, if_pos c, show (5 : Int32) + iN p = iN (5 + p) from iN_add 5 p, inb_t (show 5 + p < 5703 by omega) (by omega), cond_true, iN_nat (by omega)]
      rfl
    · rw [decide_eq_false c, if_pos (show bz false = 0 from rfl), if_neg c]
  · rw [oW_park _ _ _ _ _ _ hp]
    unfold gfX11_orderValue_130 bfX11_orderValue_130_0
    rw [if_neg (show ¬ iN 19 = 13 by decide), if_neg (show ¬ iN 19 = 14 by decide), if_neg (show ¬ iN 19 = 15 by decide), if_neg (show ¬ iN 19 = 16 by decide), if_neg (show ¬ iN 19 = 17 by decide), if_neg (show ¬ iN 19 = 18 by decide), if_pos (show iN 19 = 19 from rfl), isGoer_eq x (ge T g b) _ P (by omega) e2, inb_iN (by omega)]
    dsimp only
    unfold bfX11_orderValue_130_107
    by_cases c : p < P
    · rw [decide_eq_true c, if_neg bt, if_pos c, Int32.zero_add, inb_t (show p < 5703 by omega) (by omega), cond_true, iN_nat (by omega)]
      rfl
    · rw [decide_eq_false c, if_pos (show bz false = 0 from rfl), if_neg c]
  · rw [oW_arm]
    unfold gfX11_orderValue_130 bfX11_orderValue_130_0
    rw [if_pos (show iN 13 = 13 from rfl), isGate_eq x (ge T g b) _ G (by omega) e1, inb_iN (by omega)]
    dsimp only
    unfold bfX11_orderValue_130_65
    by_cases c : p < G
    · rw [decide_eq_true c, if_neg bt, if_pos c, show (15 : Int32) + iN p = iN (15 + p) from iN_add 15 p, inb_t (show 15 + p < 5703 by omega) (by omega), cond_true, iN_nat (by omega)]
      rfl
    · rw [decide_eq_false c, if_pos (show bz false = 0 from rfl), if_neg c]
/-- the class looks round: p goers seen -/
def LkP (f : Nat → Int32) (dn lt : Int32) (G P p : Nat) (g : Nat → Int32) : Prop := (∀ w, w < 3 → g w = oW f dn lt G P w) ∧ g 3 = iN (cn f P p) ∧ ∀ k, k < p → g (4 + k) = oW f dn lt G P (4 + k) ∧ g (9 + k) = oW f dn lt G P (9 + k)
theorem look_g (x : XT) (S : ST) (f : Nat → Int32) (dn lt : Int32) (G P : Nat) (hG : G ≤ 10) (e1 : S.1 1 0 = iN G) (h5 : ∀ g, g < 10 → S.2.1 5 g = f (15 + g)) (g0 : Nat → Int32) : ∀ (q k fuel : Nat) (g : Nat → Int32), k + q = 10 → q < fuel → (∀ w, w < 14 + k → g w = (if w < 14 then g0 w else oW f dn lt G P w)) → ∃ g', lfX5_lookRound_51_144 x fuel (wA S 52 g) (iN k) = some ((), wA S 52 g') ∧ ∀ w, w < 24 → g' w = (if w < 14 then g0 w else oW f dn lt G P w)
  | 0, k, fuel, g, hk, hf, hg => by
    obtain ⟨fuel, rfl⟩ : ∃ z, fuel = z + 1 := ⟨fuel - 1, by omega⟩
    have : k = 10 := by omega
    subst this
    rw [lfX5_lookRound_51_144, bfX5_lookRound_51_144, if_pos (show (10 : Int32) ≤ iN 10 by decide)]
    exact ⟨g, rfl, hg⟩
  | q + 1, k, fuel, g, hk, hf, hg => by
    obtain ⟨fuel, rfl⟩ : ∃ z, fuel = z + 1 := ⟨fuel - 1, by omega⟩
    have bt : ¬ bz true = 0 := by decide
    rw [lfX5_lookRound_51_144, bfX5_lookRound_51_144, if_neg (show ¬ (10 : Int32) ≤ iN k from fun hh => by have := (iN_le (m := 10) (by omega) (by omega)).mp hh; omega), hasGate_eq1 x (wA S 52 g) _ G (by omega) e1, inb_iN (by omega)]
    dsimp only
    unfold bfX5_lookRound_51_182
    rw [show (14 : Int32) + iN k = iN (14 + k) from iN_add 14 k, inb_t (show 14 + k < 24 by omega) (by omega), cond_true, cond_true, iN_nat (by omega), iN_nat (by omega), iN_succ, wA_u2, wA_u2, inb_t (show k < 10 by omega) (by omega), cond_true, wA_n S g (show 5 ≠ 52 by decide), h5 k (by omega)]
    have st : ∀ v, v = oW f dn lt G P (14 + k) → ∀ w, w < 14 + (k + 1) → u1 g (14 + k) v w = (if w < 14 then g0 w else oW f dn lt G P w) := by
      intro v hv w hw
      by_cases c : w = 14 + k
      · rw [c, u1_s, if_neg (by omega)]; exact hv
      · rw [u1_n _ _ c]; exact hg w (by omega)
    rw [oW_arm] at st
    by_cases c : k < G
    · rw [decide_eq_true c, if_neg bt]
      rw [if_pos c] at st
      exact look_g x S f dn lt G P hG e1 h5 g0 q (k + 1) fuel _ (by omega) (by omega) (st _ rfl)
    · rw [decide_eq_false c, if_pos (show bz false = 0 from rfl)]
      rw [if_neg c] at st
      exact look_g x S f dn lt G P hG e1 h5 g0 q (k + 1) fuel _ (by omega) (by omega) (st _ rfl)
set_option maxRecDepth 4000 in
theorem look_p (x : XT) (S : ST) (f : Nat → Int32) (dn lt : Int32) (G P : Nat) (hP : P ≤ 5) (e2 : S.1 1 6 = iN P) (h7 : ∀ p, p < 5 → S.2.1 7 p = f p ∧ S.2.1 8 p = f (5 + p)) : ∀ (q p fuel : Nat) (g : Nat → Int32), p + q = 5 → q < fuel → LkP f dn lt G P p g → ∃ g', lfX5_lookRound_51_44 x fuel (wA S 52 g) (iN p) = lfX5_lookRound_51_144 x 20000 (wA S 52 g') 0 ∧ LkP f dn lt G P 5 g'
  | 0, p, fuel, g, hp, hf, hg => by
    obtain ⟨fuel, rfl⟩ : ∃ z, fuel = z + 1 := ⟨fuel - 1, by omega⟩
    have : p = 5 := by omega
    subst this
    rw [lfX5_lookRound_51_44, bfX5_lookRound_51_44, if_pos (show (5 : Int32) ≤ iN 5 by decide)]
    exact ⟨g, rfl, hg⟩
  | q + 1, p, fuel, g, hp, hf, hg => by
    obtain ⟨fuel, rfl⟩ : ∃ z, fuel = z + 1 := ⟨fuel - 1, by omega⟩
    have bt : ¬ bz true = 0 := by decide
    rw [lfX5_lookRound_51_44, bfX5_lookRound_51_44, if_neg (show ¬ (5 : Int32) ≤ iN p from fun hh => by have := (iN_le (m := 5) (by omega) (by omega)).mp hh; omega), hasGoer_eq1 x (wA S 52 g) _ P (by omega) e2, inb_iN (by omega)]
    dsimp only
    unfold bfX5_lookRound_51_82 bfX5_lookRound_51_108 bfX5_lookRound_51_136
    rw [show (4 : Int32) + iN p = iN (4 + p) from iN_add 4 p, show (9 : Int32) + iN p = iN (9 + p) from iN_add 9 p, inb_t (show 4 + p < 24 by omega) (by omega), inb_t (show 9 + p < 24 by omega) (by omega), inb_t (show p < 5 by omega) (by omega), iN_nat (by omega), iN_nat (by omega), iN_nat (by omega), iN_succ]
    simp only [cond_true]
    have om := oW_many f dn lt G P p (by omega)
    have ok := oW_park f dn lt G P p (by omega)
    have st : ∀ a b c, a = oW f dn lt G P (4 + p) → b = oW f dn lt G P (9 + p) → c = iN (cn f P (p + 1)) → LkP f dn lt G P (p + 1) (u1 (u1 (u1 g (4 + p) a) (9 + p) b) 3 c) := by
      intro a b c ha hb hc
      refine ⟨fun w hw => ?_, by rw [u1_s]; exact hc, fun k hk => ⟨?_, ?_⟩⟩
      · rw [u1_n _ _ (by omega), u1_n _ _ (by omega), u1_n _ _ (by omega)]; exact hg.1 w hw
      · rw [u1_n _ _ (by omega), u1_n _ _ (by omega)]
        by_cases c : k = p
        · rw [c, u1_s]; exact ha
        · rw [u1_n _ _ (by omega)]; exact (hg.2.2 k (by omega)).1
      · rw [u1_n _ _ (by omega)]
        by_cases c : k = p
        · rw [c, u1_s]; exact hb
        · rw [u1_n _ _ (by omega), u1_n _ _ (by omega)]; exact (hg.2.2 k (by omega)).2
    have sv : ∀ a b : Int32, (u1 (u1 g (4 + p) a) (9 + p) b) 3 = iN (cn f P p) := fun a b => by rw [u1_n _ _ (by omega), u1_n _ _ (by omega)]; exact hg.2.1
    have st' : ∀ a b, a = oW f dn lt G P (4 + p) → b = oW f dn lt G P (9 + p) → cn f P (p + 1) = cn f P p → LkP f dn lt G P (p + 1) (u1 (u1 g (4 + p) a) (9 + p) b) := by
      intro a b ha hb hc
      have := st a b (iN (cn f P p)) ha hb (by rw [hc])
      rw [show u1 (u1 (u1 g (4 + p) a) (9 + p) b) 3 (iN (cn f P p)) = u1 (u1 g (4 + p) a) (9 + p) b from by rw [← sv a b, u1_self]] at this
      exact this
    have e52 : ∀ a b : Int32, (((wA S 52 g).1, u2 (u2 (wA S 52 g).2.1 52 (4 + p) a) 52 (9 + p) b, (wA S 52 g).2.2.1, (wA S 52 g).2.2.2) : ST) = wA S 52 (u1 (u1 g (4 + p) a) (9 + p) b) := by
      intro a b
      unfold wA
      dsimp only
      rw [u2_u1, u2_u1]
    have r5 : ∀ a b : Int32, (u2 (u2 (wA S 52 g).2.1 52 (4 + p) a) 52 (9 + p) b) 52 3 = iN (cn f P p) := by
      intro a b
      unfold wA
      dsimp only
      rw [u2_u1, u2_u1, u1_s]
      exact sv a b
    have e53 : ∀ a b c : Int32, (((wA S 52 g).1, u2 (u2 (u2 (wA S 52 g).2.1 52 (4 + p) a) 52 (9 + p) b) 52 3 c, (wA S 52 g).2.2.1, (wA S 52 g).2.2.2) : ST) = wA S 52 (u1 (u1 (u1 g (4 + p) a) (9 + p) b) 3 c) := by
      intro a b c
      unfold wA
      dsimp only
      rw [u2_u1, u2_u1, u2_u1]
    have a8 : (wA S 52 g).2.1 8 p = f (5 + p) := by rw [wA_n S g (show 8 ≠ 52 by decide)]; exact (h7 p (by omega)).2
    have a7 : ∀ a : Int32, (u2 (wA S 52 g).2.1 52 (4 + p) a) 7 p = f p := fun a => by rw [u2_n _ _ _ _ (by decide), wA_n S g (show 7 ≠ 52 by decide)]; exact (h7 p (by omega)).1
    have a7' : (wA S 52 g).2.1 7 p = f p := by rw [wA_n S g (show 7 ≠ 52 by decide)]; exact (h7 p (by omega)).1
    have a8' : ∀ a : Int32, (u2 (wA S 52 g).2.1 52 (4 + p) a) 8 p = f (5 + p) := fun a => by rw [u2_n _ _ _ _ (by decide)]; exact a8
    have hcn : cn f P (p + 1) = if p < P ∧ f (5 + p) = 1 then cn f P p + 1 else cn f P p := rfl
    by_cases c : p < P
    · rw [decide_eq_true c]
      simp only [if_neg bt, a8, a7', a8']
      rw [if_pos c] at om ok
      by_cases c1 : f (5 + p) = 1
      · rw [if_neg (fun z => z c1), r5, iN_succ, e53]
        exact look_p x S f dn lt G P hP e2 h7 q (p + 1) fuel _ (by omega) (by omega) (st _ _ _ om.symm ok.symm (by rw [hcn, if_pos ⟨c, c1⟩]))
      · rw [if_pos c1, e52]
        exact look_p x S f dn lt G P hP e2 h7 q (p + 1) fuel _ (by omega) (by omega) (st' _ _ om.symm ok.symm (by rw [hcn, if_neg (fun z => c1 z.2)]))
    · rw [decide_eq_false c]
      simp only [show bz false = 0 from rfl, if_true]
      rw [if_neg c] at om ok
      rw [e52]
      exact look_p x S f dn lt G P hP e2 h7 q (p + 1) fuel _ (by omega) (by omega) (st' _ _ om.symm ok.symm (by rw [hcn, if_neg (fun z => c z.1)]))
theorem look_eq (x : XT) (S : ST) (f : Nat → Int32) (hK : KA S 1 f) (G P : Nat) (hG : G ≤ 10) (hP : P ≤ 5) (e1 : f 91 = iN G) (e2 : f 92 = iN P) : ∃ g, gfX5_lookRound_51 x S = some ((), wA S 52 g) ∧ ∀ w, w < 24 → g w = oW f (S.1 51 0) (S.1 51 1) G P w := by
  have k0 := hK.1.trans e1
  have k6 := hK.2.1.trans e2
  have kd : S.2.1 14 0 = f 35 := hK.2.2.2.2.2.2.2.2.1
  have i0 : LkP f (S.1 51 0) (S.1 51 1) G P 0 (u1 (u1 (u1 (u1 (S.2.1 52) 0 (f 35)) 1 (S.1 51 0)) 2 (S.1 51 1)) 3 0) := by
    refine ⟨fun w hw => ?_, by rw [u1_s]; rfl, fun k hk => by omega⟩
    rw [u1_n _ _ (by omega)]
    have : w = 0 ∨ w = 1 ∨ w = 2 := by omega
    rcases this with rfl | rfl | rfl
    · rw [u1_n _ _ (by omega), u1_n _ _ (by omega), u1_s]; rfl
    · rw [u1_n _ _ (by omega), u1_s]; rfl
    · rw [u1_s]; rfl
  obtain ⟨g1, r1, r2, r3, r4⟩ := look_p x S f (S.1 51 0) (S.1 51 1) G P hP k6 (fun p hp => ⟨(hK.2.2.2.2.2.2.1 p hp).1, (hK.2.2.2.2.2.2.1 p hp).2.1⟩) 5 0 20000 _ (by omega) (by omega) i0
  obtain ⟨g2, q1, q2⟩ := look_g x S f (S.1 51 0) (S.1 51 1) G P hG k0 (fun g hg => (hK.2.2.2.2.2.1 g hg).2.2.2.1) g1 10 0 20000 g1 (by omega) (by omega) (fun w hw => by rw [if_pos (by omega)])
  refine ⟨g2, ?_, fun w hw => ?_⟩
  · unfold gfX5_lookRound_51 bfX5_lookRound_51_0
    rw [kd, show ((S.1, u2 (u2 (u2 (u2 S.2.1 52 0 (f 35)) 52 1 (S.1 51 0)) 52 2 (S.1 51 1)) 52 3 0, S.2.2.1, S.2.2.2) : ST) = wA S 52 (u1 (u1 (u1 (u1 (S.2.1 52) 0 (f 35)) 1 (S.1 51 0)) 2 (S.1 51 1)) 3 0) from by
      unfold wA
      rw [show u2 S.2.1 52 0 (f 35) = u1 S.2.1 52 (u1 (S.2.1 52) 0 (f 35)) from rfl, u2_u1, u2_u1, u2_u1]]
    exact r1.trans q1
  · rw [q2 w hw]
    by_cases c : w < 14
    · rw [if_pos c]
      by_cases c3 : w < 3
      · exact r2 w c3
      by_cases c4 : w = 3
      · rw [c4, r3]
        show _ = iN (cn f P P)
        have := cn_end f P (5 - P)
        rw [show P + (5 - P) = 5 by omega] at this
        rw [this]
      by_cases c9 : w < 9
      · have := (r4 (w - 4) (by omega)).1
        rw [show 4 + (w - 4) = w by omega] at this
        exact this
      · have := (r4 (w - 9) (by omega)).2
        rw [show 9 + (w - 9) = w by omega] at this
        exact this
    · rw [if_neg c]
end LOOK
