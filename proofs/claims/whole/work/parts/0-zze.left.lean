section LEFT
/-- what a row of n GATES from q to the goal costs -/
def Pt (R : RF) (f : Nat → Int32) (p G : Nat) (w : Nat → Nat → Nat) (gl : Nat → Bool) : Nat → Nat → Nat → Prop
  | 0, q, c => gl q = true ∧ c = 0
  | n + 1, q, c => ∃ g q' c', g < G ∧ q' < 120 ∧ nx R f p g q = iN q' ∧ Pt R f p G w gl n q' c' ∧ c = c' + w g q
def Pth (R : RF) (f : Nat → Int32) (p G : Nat) (w : Nat → Nat → Nat) (gl : Nat → Bool) (q c : Nat) : Prop := ∃ n, Pt R f p G w gl n q c
def wt (R : RF) (f : Nat → Int32) (p : Nat) (v : Int32) (g q : Nat) : Nat := if v = 0 then 1 else (gP R f p g (q % 20)).toNatClampNeg
theorem gP_is (R : RF) (f : Nat → Int32) (p g m : Nat) : gP R f p g m = iN (gP R f p g m).toNatClampNeg ∧ (gP R f p g m).toNatClampNeg < 10 := inb_is (tV1_inb R _)
theorem wt_lt (R : RF) (f : Nat → Int32) (p : Nat) (v : Int32) (g q : Nat) : wt R f p v g q < 10 := by
  unfold wt
  by_cases h : v = 0
  · rw [if_pos h]; omega
  · rw [if_neg h]; exact (gP_is R f p g (q % 20)).2
def sm (L : Nat → Nat) : Nat → Nat
  | 0 => 0
  | n + 1 => sm L n + L n
theorem sm_u (L : Nat → Nat) (q v : Nat) : ∀ n, q < n → v < L q → sm (u1 L q v) n < sm L n
  | n + 1, h, hv => by
    rw [sm, sm]
    by_cases e : q = n
    · subst e
      rw [u1_s]
      have : ∀ k, k ≤ q → sm (u1 L q v) k = sm L k := fun k => by
        induction k with
        | zero => intro _; rfl
        | succ k ih => intro hk; rw [sm, sm, ih (by omega), u1_n _ _ (by omega)]
      rw [this q (Nat.le_refl q)]
      omega
    · rw [u1_n _ _ (fun z => e z.symm)]
      have := sm_u L q v n (by omega) hv
      omega
theorem sm_le (L : Nat → Nat) (B : Nat) : ∀ n, (∀ q, q < n → L q ≤ B) → sm L n ≤ n * B
  | 0, _ => by rw [sm]; omega
  | n + 1, h => by
    have := sm_le L B n (fun q hq => h q (by omega))
    have := h n (by omega)
    rw [sm, Nat.succ_mul]
    omega
def LI (T : ST) (R : RF) (f : Nat → Int32) (p G : Nat) (w : Nat → Nat → Nat) (gl : Nat → Bool) (L : Nat → Nat) : Prop := BR T f R p G ∧ (∀ q, q < 120 → T.2.1 147 q = iN (L q)) ∧ (∀ q, q < 120 → L q ≤ 1000000) ∧ (∀ q, q < 120 → L q = 1000000 ∨ Pth R f p G w gl q (L q)) ∧ (∀ q, q < 120 → gl q = true → L q = 0)
/-- nothing is cheaper over GATE g at q -/
def OkE (R : RF) (f : Nat → Int32) (p : Nat) (w : Nat → Nat → Nat) (L : Nat → Nat) (g q : Nat) : Prop := ∀ q', q' < 120 → nx R f p g q = iN q' → L q ≤ L q' + w g q
theorem left_in (x : XT) (f : Nat → Int32) (R : RF) (p G : Nat) (hW : WF f) (hG : G ≤ 10) (h91 : f 91 = iN G) (gl : Nat → Bool) (v3 : Int32) (k42 : ST → Int32 → Int32 → Option (Unit × ST)) : ∀ (d v fuel : Nat) (T : ST) (L : Nat → Nat) (ch : Int32), v + d = 120 * G → d < fuel → LI T R f p G (wt R f p v3) gl L → ∃ T' L' ch', lfX11_laysLeft_130_53 x k42 fuel T v3 ch (iN v) = k42 T' v3 ch' ∧ LI T' R f p G (wt R f p v3) gl L' ∧ ((L' = L ∧ ch' = ch ∧ ∀ e, v ≤ e → e < 120 * G → OkE R f p (wt R f p v3) L (e % G) (e / G)) ∨ (ch' = 1 ∧ sm L' 120 < sm L 120))
  | 0, v, fuel, T, L, ch, hv, hf, hI => by
    obtain ⟨fuel, rfl⟩ : ∃ z, fuel = z + 1 := ⟨fuel - 1, by omega⟩
    refine ⟨T, L, ch, ?_, hI, Or.inl ⟨rfl, rfl, fun e h1 h2 => by omega⟩⟩
    rw [lfX11_laysLeft_130_53, bfX11_laysLeft_130_53, gateMany_eq]
    dsimp only
    rw [hI.1.1, h91, show (120 : Int32) * iN G = iN (120 * G) from iN_mul 120 G, if_pos ((iN_le (by omega) (by omega)).mpr (by omega))]
  | d + 1, v, fuel, T, L, ch, hv, hf, hI => by
    obtain ⟨fuel, rfl⟩ : ∃ z, fuel = z + 1 := ⟨fuel - 1, by omega⟩
    have hG0 : 0 < G := by
      rcases Nat.eq_zero_or_pos G with e | e
      · subst e; omega
      · exact e
    have hg : v % G < G := Nat.mod_lt _ hG0
    have hq : v / G < 120 := (Nat.div_lt_iff_lt_mul hG0).mpr (by omega)
    have nz : nzi (iN G) = true := by
      rcases (show G = 1 ∨ G = 2 ∨ G = 3 ∨ G = 4 ∨ G = 5 ∨ G = 6 ∨ G = 7 ∨ G = 8 ∨ G = 9 ∨ G = 10 by omega) with rfl | rfl | rfl | rfl | rfl | rfl | rfl | rfl | rfl | rfl <;> decide
    have e1 : iN v - iN v / iN G * iN G = iN (v % G) := iN_mod (by omega) (by omega)
    have e2 : iN v / iN G = iN (v / G) := iN_div (by omega) (by omega)
    rw [lfX11_laysLeft_130_53, bfX11_laysLeft_130_53, gateMany_eq]
    dsimp only
    rw [hI.1.1, h91, show (120 : Int32) * iN G = iN (120 * G) from iN_mul 120 G, if_neg (fun z => by have := (iN_le (by omega) (by omega)).mp z; omega)]
    simp only [gateMany_eq, hI.1.1, h91, nz, cond_true]
    rw [e1, e2, next_eq x T f R p G hG hI.1 (v % G) (v / G) hg hq]
    dsimp only
    unfold bfX11_laysLeft_130_163
    rw [iN_succ]
    have rest := fun T1 L1 ch1 h1 => left_in x f R p G hW hG h91 gl v3 k42 d (v + 1) fuel T1 L1 ch1 (by omega) (by omega) h1
    have keep : OkE R f p (wt R f p v3) L (v % G) (v / G) → ∃ T' L' ch', lfX11_laysLeft_130_53 x k42 fuel T v3 ch (iN (v + 1)) = k42 T' v3 ch' ∧ LI T' R f p G (wt R f p v3) gl L' ∧ ((L' = L ∧ ch' = ch ∧ ∀ e, v ≤ e → e < 120 * G → OkE R f p (wt R f p v3) L (e % G) (e / G)) ∨ (ch' = 1 ∧ sm L' 120 < sm L 120)) := by
      intro ok
      obtain ⟨T', L', ch', r1, r2, r3⟩ := rest T L ch hI
      refine ⟨T', L', ch', r1, r2, ?_⟩
      rcases r3 with ⟨a, b, c⟩ | r3
      · refine Or.inl ⟨a, b, fun e h1 h2 => ?_⟩
        by_cases ee : e = v
        · subst ee; exact ok
        · exact c e (by omega) h2
      · exact Or.inr r3
    rcases nx_in hW p (v % G) (v / G) (R := R) (by omega) with en | ⟨q', hq', en⟩
    · rw [if_neg (fun z => z en)]
      exact keep (fun q' hq' e => by rw [en] at e; exact absurd e.symm (iN_m1 (by omega)))
    · rw [en, if_pos (iN_m1 (by omega)), inb_t hq' (by omega), cond_true, iN_nat (show q' < 2147483648 by omega), mod20 _ hq]
      have e10 : (10 : Int32) * iN (v / G % 20) + iN (v % G) = iN (10 * (v / G % 20) + v % G) := by rw [show (10 : Int32) * iN (v / G % 20) = iN (10 * (v / G % 20)) from iN_mul 10 _, iN_add]
      have b1 := hI.2.2.1 q' hq'
      have b2 := hI.2.2.1 (v / G) hq
      have hw := wt_lt R f p v3 (v % G) (v / G)
      have both : (if v3 = 0 then bfX11_laysLeft_130_133 x k42 (lfX11_laysLeft_130_53 x k42 fuel) T v3 ch (iN v) (iN (v / G)) (T.2.1 147 q') 1 else bif inb (10 * iN (v / G % 20) + iN (v % G)) 200 then bfX11_laysLeft_130_133 x k42 (lfX11_laysLeft_130_53 x k42 fuel) T v3 ch (iN v) (iN (v / G)) (T.2.1 147 q') (T.2.1 146 ((10 * iN (v / G % 20) + iN (v % G)).toNatClampNeg)) else none) = bfX11_laysLeft_130_133 x k42 (lfX11_laysLeft_130_53 x k42 fuel) T v3 ch (iN v) (iN (v / G)) (iN (L q')) (iN (wt R f p v3 (v % G) (v / G))) := by
        rw [hI.2.1 q' hq', e10, inb_t (show 10 * (v / G % 20) + v % G < 200 by omega) (by omega), cond_true, iN_nat (by omega), (hI.1.2 (v % G) (v / G % 20) hg (by omega)).2]
        unfold wt
        by_cases h0 : v3 = 0
        · rw [if_pos h0, if_pos h0]; rfl
        · rw [if_neg h0, if_neg h0, ← (gP_is R f p (v % G) (v / G % 20)).1]
      rw [both]
      unfold bfX11_laysLeft_130_133 bfX11_laysLeft_130_163
      rw [inb_t hq (by omega), cond_true, cond_true, iN_nat (show v / G < 2147483648 by omega), iN_add, hI.2.1 (v / G) hq, iN_succ]
      by_cases hc : L q' + wt R f p v3 (v % G) (v / G) < L (v / G)
      · rw [if_pos ((iN_lt (by omega) (by omega)).mpr hc)]
        have hI1 : LI (T.1, u2 T.2.1 147 (v / G) (iN (L q' + wt R f p v3 (v % G) (v / G))), T.2.2.1, T.2.2.2) R f p G (wt R f p v3) gl (u1 L (v / G) (L q' + wt R f p v3 (v % G) (v / G))) := by
          have aT : Agr ([], [147], [], []) T (T.1, u2 T.2.1 147 (v / G) (iN (L q' + wt R f p v3 (v % G) (v / G))), T.2.2.1, T.2.2.2) := Agr.i Agr.rf 147 _ _ (by decide)
          refine ⟨⟨(aT.2.1 132 (by decide)).trans hI.1.1, fun g m hg hm => by rw [aT.2.1 145 (by decide), aT.2.1 146 (by decide)]; exact hI.1.2 g m hg hm⟩, fun q h1 => ?_, fun q h1 => ?_, fun q h1 => ?_, fun q h1 h2 => ?_⟩
          · dsimp only
            by_cases e : q = v / G
            · rw [e, u2_s, u1_s]
            · rw [u2_k _ _ _ e, u1_n _ _ e]; exact hI.2.1 q h1
          · by_cases e : q = v / G
            · rw [e, u1_s]; omega
            · rw [u1_n _ _ e]; exact hI.2.2.1 q h1
          · by_cases e : q = v / G
            · rw [e, u1_s]
              rcases hI.2.2.2.1 q' hq' with z | ⟨n, z⟩
              · omega
              · exact Or.inr ⟨n + 1, v % G, q', L q', hg, hq', en, z, rfl⟩
            · rw [u1_n _ _ e]; exact hI.2.2.2.1 q h1
          · by_cases e : q = v / G
            · rw [e] at h2
              have := hI.2.2.2.2 (v / G) hq h2
              omega
            · rw [u1_n _ _ e]; exact hI.2.2.2.2 q h1 h2
        have lt := sm_u L (v / G) _ 120 hq hc
        obtain ⟨T', L', ch', r1, r2, r3⟩ := rest _ _ 1 hI1
        refine ⟨T', L', ch', r1, r2, Or.inr ?_⟩
        rcases r3 with ⟨a, b, c⟩ | ⟨a, b⟩
        · rw [a]; exact ⟨b, lt⟩
        · exact ⟨a, by omega⟩
      · rw [if_neg (fun z => hc ((iN_lt (by omega) (by omega)).mp z))]
        exact keep (fun q2 hq2 e => by
          have : q2 = q' := (iN_eq (by omega) (by omega)).mp (e.symm.trans en)
          subst this
          omega)
theorem left_out (x : XT) (f : Nat → Int32) (R : RF) (p G : Nat) (hW : WF f) (hG : G ≤ 10) (h91 : f 91 = iN G) (gl : Nat → Bool) (v3 : Int32) : ∀ (s fuel : Nat) (T : ST) (L : Nat → Nat), sm L 120 ≤ s → s + 2 ≤ fuel → LI T R f p G (wt R f p v3) gl L → ∃ T' L', lfX11_laysLeft_130_42 x fuel T v3 1 = some ((), T') ∧ LI T' R f p G (wt R f p v3) gl L' ∧ ∀ q g, q < 120 → g < G → OkE R f p (wt R f p v3) L' g q := by
  intro s
  induction s with
  | zero =>
    intro fuel T L hs hf hI
    obtain ⟨fuel, rfl⟩ : ∃ z, fuel = z + 2 := ⟨fuel - 2, by omega⟩
    obtain ⟨T', L', ch', r1, r2, r3⟩ := left_in x f R p G hW hG h91 gl v3 (lfX11_laysLeft_130_42 x (fuel + 1)) (120 * G) 0 20000 T L 0 (by omega) (by omega) hI
    rw [show iN 0 = 0 from rfl] at r1
    rw [lfX11_laysLeft_130_42, bfX11_laysLeft_130_42, if_neg (show ¬ (1 : Int32) = 0 by decide), r1]
    rcases r3 with ⟨a, b, c⟩ | ⟨a, b⟩
    · subst a
      rw [b, lfX11_laysLeft_130_42, bfX11_laysLeft_130_42, if_pos rfl]
      refine ⟨T', L', rfl, r2, fun q g hq hg => ?_⟩
      have hh := c (q * G + g) (by omega) (by
        have : (q + 1) * G ≤ 120 * G := Nat.mul_le_mul_right G (by omega)
        rw [Nat.succ_mul] at this
        omega)
      rw [show (q * G + g) % G = g by rw [Nat.add_comm, Nat.add_mul_mod_self_right, Nat.mod_eq_of_lt hg], show (q * G + g) / G = q by rw [Nat.add_comm, Nat.add_mul_div_right _ _ (by omega), Nat.div_eq_of_lt hg, Nat.zero_add]] at hh
      exact hh
    · omega
  | succ s ih =>
    intro fuel T L hs hf hI
    obtain ⟨fuel, rfl⟩ : ∃ z, fuel = z + 2 := ⟨fuel - 2, by omega⟩
    obtain ⟨T', L', ch', r1, r2, r3⟩ := left_in x f R p G hW hG h91 gl v3 (lfX11_laysLeft_130_42 x (fuel + 1)) (120 * G) 0 20000 T L 0 (by omega) (by omega) hI
    rw [show iN 0 = 0 from rfl] at r1
    rw [lfX11_laysLeft_130_42, bfX11_laysLeft_130_42, if_neg (show ¬ (1 : Int32) = 0 by decide), r1]
    rcases r3 with ⟨a, b, c⟩ | ⟨a, b⟩
    · subst a
      rw [b, lfX11_laysLeft_130_42, bfX11_laysLeft_130_42, if_pos rfl]
      refine ⟨T', L', rfl, r2, fun q g hq hg => ?_⟩
      have hh := c (q * G + g) (by omega) (by
        have : (q + 1) * G ≤ 120 * G := Nat.mul_le_mul_right G (by omega)
        rw [Nat.succ_mul] at this
        omega)
      rw [show (q * G + g) % G = g by rw [Nat.add_comm, Nat.add_mul_mod_self_right, Nat.mod_eq_of_lt hg], show (q * G + g) / G = q by rw [Nat.add_comm, Nat.add_mul_div_right _ _ (by omega), Nat.div_eq_of_lt hg, Nat.zero_add]] at hh
      exact hh
    · rw [a]
      exact ih (fuel + 1) T' L' (by omega) (by omega) r2
theorem left_init (x : XT) (f : Nat → Int32) (R : RF) (p G : Nat) (b c v3 : Int32) : ∀ (d k fuel : Nat) (T : ST), k + d = 120 → d < fuel → BR T f R p G → (∀ q, q < k → T.2.1 147 q = iN (if bG q b c = true then 0 else 1000000)) → ∃ T', lfX11_laysLeft_130_3 x fuel T b c v3 (iN k) = lfX11_laysLeft_130_42 x 1000000000 T' v3 1 ∧ (∀ q, q < 120 → T'.2.1 147 q = iN (if bG q b c = true then 0 else 1000000)) ∧ BR T' f R p G
  | 0, k, fuel, T, hk, hf, hT, h => by
    obtain ⟨fuel, rfl⟩ : ∃ z, fuel = z + 1 := ⟨fuel - 1, by omega⟩
    have e : k = 120 := by omega
    subst e
    refine ⟨T, ?_, h, hT⟩
    rw [lfX11_laysLeft_130_3, bfX11_laysLeft_130_3, if_pos (show (120 : Int32) ≤ iN 120 by decide)]
  | d + 1, k, fuel, T, hk, hf, hT, h => by
    obtain ⟨fuel, rfl⟩ : ∃ z, fuel = z + 1 := ⟨fuel - 1, by omega⟩
    have go : ∀ v : Int32, v = iN (if bG k b c = true then 0 else 1000000) → ∃ T', lfX11_laysLeft_130_3 x fuel (T.1, u2 T.2.1 147 k v, T.2.2.1, T.2.2.2) b c v3 (iN (k + 1)) = lfX11_laysLeft_130_42 x 1000000000 T' v3 1 ∧ (∀ q, q < 120 → T'.2.1 147 q = iN (if bG q b c = true then 0 else 1000000)) ∧ BR T' f R p G := by
      intro v hv
      have aT : Agr ([], [147], [], []) T (T.1, u2 T.2.1 147 k v, T.2.2.1, T.2.2.2) := Agr.i Agr.rf 147 _ _ (by decide)
      exact left_init x f R p G b c v3 d (k + 1) fuel (T.1, u2 T.2.1 147 k v, T.2.2.1, T.2.2.2) (by omega) (by omega) ⟨(aT.2.1 132 (by decide)).trans hT.1, fun g m hg hm => by rw [aT.2.1 145 (by decide), aT.2.1 146 (by decide)]; exact hT.2 g m hg hm⟩ (fun q hq => by
        dsimp only
        by_cases e : q = k
        · subst e; rw [u2_s]; exact hv
        · rw [u2_k _ _ _ e]; exact h q (by omega))
    rw [lfX11_laysLeft_130_3, bfX11_laysLeft_130_3, if_neg (show ¬ (120 : Int32) ≤ iN k from fun z => by have := (iN_le (m := 120) (by omega) (by omega)).mp z; omega), isGoal_eq x T k (by omega)]
    dsimp only
    unfold bfX11_laysLeft_130_32
    rw [inb_t (show k < 120 by omega) (by omega), cond_true, cond_true, iN_nat (by omega), iN_succ]
    cases hb : bG k b c
    · rw [if_pos (show bz false = 0 from rfl)]
      exact go 1000000 (by rw [hb]; rfl)
    · rw [if_neg (show ¬ bz true = 0 by decide)]
      exact go 0 (by rw [hb]; rfl)
/-- what is LEFT from each PLACE to the goal -/
theorem left_eq (x : XT) (f : Nat → Int32) (R : RF) (p G : Nat) (hW : WF f) (hG : G ≤ 10) (h91 : f 91 = iN G) (b c v3 : Int32) (T : ST) (hT : BR T f R p G) : ∃ T' L, gfX11_laysLeft_130 x T b c v3 = some ((), T') ∧ LI T' R f p G (wt R f p v3) (fun q => bG q b c) L ∧ ∀ q g, q < 120 → g < G → OkE R f p (wt R f p v3) L g q := by
  obtain ⟨T1, a1, a2, a3⟩ := left_init x f R p G b c v3 120 0 20000 T (by omega) (by omega) hT (fun q hq => by omega)
  rw [show iN 0 = 0 from rfl] at a1
  have hI : LI T1 R f p G (wt R f p v3) (fun q => bG q b c) (fun q => if bG q b c = true then 0 else 1000000) := by
    refine ⟨a3, a2, fun q hq => ?_, fun q hq => ?_, fun q hq hg => ?_⟩
    · dsimp only
      by_cases e : bG q b c = true
      · rw [if_pos e]; omega
      · rw [if_neg e]; omega
    · dsimp only
      by_cases e : bG q b c = true
      · rw [if_pos e]; exact Or.inr ⟨0, e, rfl⟩
      · rw [if_neg e]; exact Or.inl rfl
    · dsimp only at hg ⊢
      rw [if_pos hg]
  obtain ⟨T', L, r1, r2, r3⟩ := left_out x f R p G hW hG h91 (fun q => bG q b c) v3 (120 * 1000000) 1000000000 T1 _ (sm_le _ 1000000 120 hI.2.2.1) (by omega) hI
  exact ⟨T', L, a1.trans r1, r2, r3⟩
/-- no row is cheaper -/
theorem left_min {R : RF} {f : Nat → Int32} {p G : Nat} {w : Nat → Nat → Nat} {gl : Nat → Bool} {L : Nat → Nat} (h0 : ∀ q, q < 120 → gl q = true → L q = 0) (h : ∀ q g, q < 120 → g < G → OkE R f p w L g q) : ∀ (n q c : Nat), q < 120 → Pt R f p G w gl n q c → L q ≤ c
  | 0, q, c, hq, hp => by rw [h0 q hq hp.1]; omega
  | n + 1, q, c, hq, ⟨g, q', c', h1, h2, h3, h4, h5⟩ => by
    have a := left_min h0 h n q' c' h2 h4
    have b := h q g hq h1 q' h2 h3
    omega
end LEFT
