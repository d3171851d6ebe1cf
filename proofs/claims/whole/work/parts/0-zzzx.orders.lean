section ORDERS
theorem UStep.cgA {r r' : Nat → Int32} {w w' : Int32} {G P : Nat} {A A' B B' : Nat → Int32} (h : UStep r w G P A B) (hG : G ≤ 10) (hP : P ≤ 5) (hr : ∀ i, i < 5 → r' i = r i) (hw : w' = w) (hA : ∀ i, i < 36 → A' i = A i) (hB : ∀ i, i < 36 → B' i = B i) : UStep r' w' G P A' B' := by
  subst hw
  rcases h with ⟨p, hp, h1, h2, h3, h4, h5, h6, h7⟩ | ⟨g, hg, h1, h2, h3, h4, h7⟩ | ⟨g, hg, h1, h2, h3, h4, h7⟩ | ⟨h1, h2, h3, h7⟩
  · refine Or.inl ⟨p, hp, h1, by rw [hr 0 (by omega)]; exact h2, by rw [hr 1 (by omega)]; exact h3, by rw [hA _ (by omega), hr 2 (by omega)]; exact h4, by rw [hA _ (by omega), hr 3 (by omega)]; exact h5, by rw [hA _ (by omega), hr 4 (by omega)]; exact h6, fun i hi a b c => by rw [hA i hi, hB i hi]; exact h7 i hi a b c⟩
  · refine Or.inr (Or.inl ⟨g, hg, h1, by rw [hr 0 (by omega)]; exact h2, by rw [hr 1 (by omega)]; exact h3, by rw [hA _ (by omega), hB _ (by omega)]; exact h4, fun i hi a => by rw [hA i hi, hB i hi]; exact h7 i hi a⟩)
  · refine Or.inr (Or.inr (Or.inl ⟨g, hg, h1, by rw [hr 0 (by omega)]; exact h2, by rw [hr 1 (by omega)]; exact h3, by rw [hA _ (by omega), hr 2 (by omega)]; exact h4, fun i hi a => by rw [hA i hi, hB i hi]; exact h7 i hi a⟩))
  · refine Or.inr (Or.inr (Or.inr ⟨h1, by rw [hr 0 (by omega)]; exact h2, by rw [hA _ (by omega), hB _ (by omega)]; exact h3, fun i hi a => by rw [hA i hi, hB i hi]; exact h7 i hi a⟩))
theorem UR.same {u v f u' v' f' : Nat → Int32} {n : Nat} (h : UR u v f n) (hn : n ≤ 16) (hu : ∀ z, z < 80 → u' z = u z) (hv : ∀ z, z < 592 → v' z = v z) (hf : ∀ z, z < 36 → f' z = f z) (h91 : f' 91 = f 91) (h92 : f' 92 = f 92) : UR u' v' f' n := by
  intro k hk
  obtain ⟨h1, h2⟩ := h k hk
  refine ⟨h1.cg (fun i hi => hv _ (by omega)), fun G P e1 e2 e3 e4 => ?_⟩
  rw [h91] at e1
  rw [h92] at e3
  refine (h2 G P e1 e2 e3 e4).cgA e2 e4 (fun i hi => hu _ (by omega)) (hv _ (by omega)) (fun i hi => hv _ (by omega)) (fun i hi => ?_)
  show (if k + 1 < n then v' (37 * (k + 1) + i) else f' i) = (if k + 1 < n then v (37 * (k + 1) + i) else f i)
  by_cases c : k + 1 < n
  · rw [if_pos c, if_pos c]; exact hv _ (by omega)
  · rw [if_neg c, if_neg c]; exact hf i hi
theorem RK.lay {x : XT} {S : ST} {o : Nat} {f f' : Nat → Int32} (h : RK x S o f) (hf : ∀ z, z ≠ 102 → z < 5303 → (z < 2503 ∨ 2903 ≤ z) → f' z = f z) : RK x S o f' := by
  obtain ⟨h1, h2, h3, h4⟩ := h
  have lo : ∀ z, z < 96 → f' z = f z := fun z hz => hf z (by omega) (by omega) (by omega)
  refine ⟨h1.ff lo, h2.ff lo, h3, fun l L e1 e2 e3 => ?_⟩
  rw [lo 94 (by omega)] at e1
  obtain ⟨t, N, C, V, dS, dT, w1, w2, w3⟩ := h4 l L e1 e2 e3
  have hN : N ≤ 400 := w3.2.2.1
  refine ⟨t, N, C, V, dS, dT, w1, by rw [hf _ (by omega) (by omega) (by omega)]; exact w2, w3.cg (fun _ _ => ⟨rfl, rfl⟩) (fun y hy => ?_)⟩
  exact ⟨hf _ (by omega) (by omega) (by omega), hf _ (by omega) (by omega) (by omega)⟩
def lCO : WS := ((lK 100).1 ++ (lK 115).1 ++ [(18, 1), (0, 12), (0, 13), (0, 15), (84, 6)], (lK 100).2.1 ++ (lK 115).2.1 ++ [17, 19, 99, 90, 91, 93], [], [114, 129, 16])
def lRO : WS := ([(130, 13), (130, 0), (130, 14), (130, 6), (130, 51)], [133, 134, 137, 131, 157, 136], [], [])
theorem Rel.mkO {x : XT} {S S' T T' : ST} (h : Rel x S T) (hS : Sm lCO S S') (hT : Sm lRO T T') (hK : RK x S' 1 (T'.2.1 132)) (hU : RelU S' T') (hM : S'.1 0 14 = T'.1 130 43) : Rel x S' T' := by
  obtain ⟨h1, h2, h3, h4, h5, h6, h7, h8⟩ := h
  have e131 := hT.2.1 131 (by decide)
  have e133 := hT.2.1 133 (by decide)
  have e134 := hT.2.1 134 (by decide)
  have e136 := hT.2.1 136 (by decide)
  have e137 := hT.2.1 137 (by decide)
  have e157 := hT.2.1 157 (by decide)
  have t0 := hT.1 (130, 0) (by decide)
  have t6 := hT.1 (130, 6) (by decide)
  have t13 := hT.1 (130, 13) (by decide)
  have t14 := hT.1 (130, 14) (by decide)
  have t51 := hT.1 (130, 51) (by decide)
  have s1 := hS.1 (18, 1) (by decide)
  have s12 := hS.1 (0, 12) (by decide)
  have s13 := hS.1 (0, 13) (by decide)
  have s15 := hS.1 (0, 15) (by decide)
  have s84 := hS.1 (84, 6) (by decide)
  have a17 := hS.2.1 17 (by decide)
  have a19 := hS.2.1 19 (by decide)
  have a99 := hS.2.1 99 (by decide)
  have a90 := hS.2.1 90 (by decide)
  have a91 := hS.2.1 91 (by decide)
  have a93 := hS.2.1 93 (by decide)
  dsimp only at t0 t6 t13 t14 t51 s1 s12 s13 s15 s84
  refine ⟨hK, h2.cg (hS.sub (by decide) (by decide) (by decide)) (hS.sub (by decide) (by decide) (by decide)) a17 e133 e134 (hS.2.2.1 16 (by decide)), ?_, ?_, ?_, hU, ?_, ?_⟩
  · unfold RelT; rw [s1, t13, a19, e137]; exact h3
  · unfold RelS; rw [a99, e131, s12, t0]; exact h4
  · unfold RelM; rw [s13, s15, t14, t6]; exact ⟨h5.1, hM, h5.2.2⟩
  · unfold RelD; rw [s84, t51, a90, a91, a93, e157]; exact h7
  · unfold RelC; rw [e136]; exact h8
theorem Rel.stp {x : XT} {S T : ST} (h : Rel x S T) (v : Int32) : Rel x (u2 S.1 0 14 v, S.2.1, S.2.2.1, S.2.2.2) (u2 T.1 130 43 v, T.2.1, T.2.2.1, T.2.2.2) := by
  have aS : Agr ([(0, 14)], [], [], []) S (u2 S.1 0 14 v, S.2.1, S.2.2.1, S.2.2.2) := Agr.f Agr.rf 0 14 v (by decide)
  have aT : Agr ([(130, 43)], [], [], []) T (u2 T.1 130 43 v, T.2.1, T.2.2.1, T.2.2.2) := Agr.f Agr.rf 130 43 v (by decide)
  refine h.mkO (aS.sm (by decide)) (aT.sm (by decide)) (h.1.cg (aS.sm (by decide))) (h.2.2.2.2.2.1.cg (aS.1 33 0 (by decide)) rfl (aT.1 130 31 (by decide)) rfl (fun _ _ => rfl) rfl rfl) ?_
  show u2 S.1 0 14 v 0 14 = u2 T.1 130 43 v 130 43
  rw [u2_s, u2_s]
set_option maxRecDepth 4000 in
theorem ahead_l (x : XT) (T : ST) : ∀ (q k fuel : Nat), k + q = 592 → q < fuel → lfX11_orders_130_27 x fuel (wA T 144 (va_cpy (T.2.1 143) (T.2.1 144) 0 0 k)) (iN k) = lfX11_orders_130_27 x 1 (wA T 144 (va_cpy (T.2.1 143) (T.2.1 144) 0 0 592)) (iN 592)
  | 0, k, fuel, hk, hf => by
    obtain ⟨fuel, rfl⟩ : ∃ z, fuel = z + 1 := ⟨fuel - 1, by omega⟩
    have : k = 592 := by omega
    subst this
    rw [lfX11_orders_130_27, bfX11_orders_130_27, lfX11_orders_130_27, bfX11_orders_130_27, if_pos (show (592 : Int32) ≤ iN 592 by decide), if_pos (show (592 : Int32) ≤ iN 592 by decide)]
  | q + 1, k, fuel, hk, hf => by
    obtain ⟨fuel, rfl⟩ : ∃ z, fuel = z + 1 := ⟨fuel - 1, by omega⟩
    have ih := ahead_l x T q (k + 1) fuel (by omega) (by omega)
    have cs := cpy_s (T.2.1 143) (T.2.1 144) 0 0 k
    rw [Nat.zero_add] at cs
    rw [← ih]
    rw [lfX11_orders_130_27, bfX11_orders_130_27, if_neg (show ¬ (592 : Int32) ≤ iN k from fun hh => by have := (iN_le (m := 592) (by omega) (by omega)).mp hh; omega), inb_t (show k < 592 by omega) (by omega), cond_true, cond_true, iN_nat (by omega), iN_succ, wA_n _ _ (show 143 ≠ 144 by decide), wA_u2, cs]
set_option maxRecDepth 4000 in
theorem again_l (x : XT) (T : ST) (v w : Int32) : ∀ (q k fuel : Nat), k + q = 592 → q < fuel → lfX11_orders_130_122 x fuel (wA T 143 (va_cpy (T.2.1 144) (T.2.1 143) 0 0 k)) v w (iN k) = some (-iN 3, gR (u2 (u2 T.1 130 31 v) 130 43 w, u1 T.2.1 143 (va_cpy (T.2.1 144) (T.2.1 143) 0 0 592), T.2.2.1, T.2.2.2) 3)
  | 0, k, fuel, hk, hf => by
    obtain ⟨fuel, rfl⟩ : ∃ z, fuel = z + 1 := ⟨fuel - 1, by omega⟩
    have : k = 592 := by omega
    subst this
    rw [lfX11_orders_130_122, bfX11_orders_130_122, if_pos (show (592 : Int32) ≤ iN 592 by decide), neg_3, refuses_eq x _ 3 (by omega) (by omega)]
    rfl
  | q + 1, k, fuel, hk, hf => by
    obtain ⟨fuel, rfl⟩ : ∃ z, fuel = z + 1 := ⟨fuel - 1, by omega⟩
    have ih := again_l x T v w q (k + 1) fuel (by omega) (by omega)
    have cs := cpy_s (T.2.1 144) (T.2.1 143) 0 0 k
    rw [Nat.zero_add] at cs
    rw [← ih]
    rw [lfX11_orders_130_122, bfX11_orders_130_122, if_neg (show ¬ (592 : Int32) ≤ iN k from fun hh => by have := (iN_le (m := 592) (by omega) (by omega)).mp hh; omega), inb_t (show k < 592 by omega) (by omega), cond_true, cond_true, iN_nat (by omega), iN_succ, wA_n _ _ (show 144 ≠ 143 by decide), wA_u2, cs]
end ORDERS
