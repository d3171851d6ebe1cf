section ADD
theorem Sm.tr {L : WS} {S S1 S2 : ST} (h1 : Sm L S S1) (h2 : Sm L S1 S2) : Sm L S S2 :=
  ⟨fun q hq => (h2.1 q hq).trans (h1.1 q hq), fun q hq => (h2.2.1 q hq).trans (h1.2.1 q hq), fun q hq => (h2.2.2.1 q hq).trans (h1.2.2.1 q hq), fun a ha => ⟨((h2.2.2.2 a ha).1).trans (h1.2.2.2 a ha).1, ((h2.2.2.2 a ha).2).trans (h1.2.2.2 a ha).2⟩⟩
/-- a call behind which nothing can be undone -/
theorem Rel.anew {x : XT} {S T S2 T2 : ST} (h : Rel x S T) (aS : Sm lC2 S S2) (aT : Sm lR2 T T2) (hK : RK x S2 1 (T2.2.1 132)) : Rel x (tG (u2 S2.1 33 0 0, S2.2.1, S2.2.2.1, S2.2.2.2)) (gG (u2 T2.1 130 31 0, T2.2.1, T2.2.2.1, T2.2.2.2)) := by
  have bS : Agr ([(33, 0)], [], [], []) S2 (u2 S2.1 33 0 0, S2.2.1, S2.2.2.1, S2.2.2.2) := Agr.f Agr.rf 33 0 0 (by decide)
  have bT : Agr ([(130, 31)], [], [], []) T2 (u2 T2.1 130 31 0, T2.2.1, T2.2.2.1, T2.2.2.2) := Agr.f Agr.rf 130 31 0 (by decide)
  exact Rel.good (h.mk2 (aS.tr (bS.sm (by decide))) (aT.tr (bT.sm (by decide))) (hK.cg (bS.sm (by decide))) ⟨0, by omega, show u2 S2.1 33 0 0 33 0 = iN 0 by rw [u2_s]; rfl, show u2 T2.1 130 31 0 130 31 = iN 0 by rw [u2_s]; rfl, fun k hk => by omega⟩)
def gatesW : WS := ([(1, 0)], [2, 3, 4, 5, 6], [], [])
/-- a GATE more: the class -/
def adG (S : ST) (G : Nat) (a b c d : Int32) : ST := (u2 S.1 1 0 (iN (G + 1)), u2 (u2 (u2 (u2 (u2 S.2.1 2 G a) 3 G b) 4 G c) 5 G d) 6 G 1, S.2.2.1, S.2.2.2)
/-- a GATE more: the row -/
def adR (f : Nat → Int32) (G : Nat) (a b c d : Int32) : Nat → Int32 := u1 (u1 (u1 (u1 (u1 (u1 f (36 + G) a) (46 + G) b) (56 + G) c) (15 + G) d) (25 + G) 1) 91 (iN (G + 1))
theorem addGate_eq (x : XT) (S : ST) (a b c d : Int32) (G : Nat) (hG : G ≤ 10) (h : S.1 1 0 = iN G) : gfX7_addGate_1 x S a b c d = if (inb a 6 && inb b 6 && inb c 8 && inb d 10) = true then (if G = 10 then some (-iN 5, S) else some (iN G, adG S G a b c d)) else some (-iN 1, S) := by
  unfold gfX7_addGate_1 bfX7_addGate_1_0 bfX7_addGate_1_37
  rw [neg_1, neg_5, show (6 : Int32) = iN 6 from rfl, show (8 : Int32) = iN 8 from rfl, show (10 : Int32) = iN 10 from rfl]
  simp only [within_eq x S a 6 (by omega), within_eq x S b 6 (by omega), within_eq x S c 8 (by omega), within_eq x S d 10 (by omega), bz_0]
  cases inb a 6
  · rfl
  cases inb b 6
  · rfl
  cases inb c 8
  · rfl
  cases inb d 10
  · rfl
  simp only [h, Bool.and_self, if_true, Bool.true_eq_false, if_false, not_false_eq_true]
  by_cases h10 : G = 10
  · subst h10; rw [if_pos rfl]; rfl
  · rw [if_neg h10, if_pos ((iN_lt (by omega) (by omega)).mpr (by omega)), inb_t (show G < 10 by omega) (by omega)]
    simp only [cond_true]
    rw [iN_nat (by omega), iN_succ]
    rfl
theorem adds_eq (x : XT) (T : ST) (a b c d : Int32) (G : Nat) (hG : G < 10) (h : T.2.1 132 91 = iN G) : gfX11_adds_130 x T a b c d = some ((), wA T 132 (adR (T.2.1 132) G a b c d)) := by
  unfold gfX11_adds_130 bfX11_adds_130_0
  rw [gateMany_eq]
  dsimp only
  have g : (u2 (u2 (u2 (u2 (u2 T.2.1 132 (36 + G) a) 132 (46 + G) b) 132 (56 + G) c) 132 (15 + G) d) 132 (25 + G) 1) 132 91 = iN G := by
    rw [u2_k _ _ _ (by omega), u2_k _ _ _ (by omega), u2_k _ _ _ (by omega), u2_k _ _ _ (by omega), u2_k _ _ _ (by omega), h]
  rw [h, show (36 : Int32) + iN G = iN (36 + G) from iN_add 36 G, show (46 : Int32) + iN G = iN (46 + G) from iN_add 46 G, show (56 : Int32) + iN G = iN (56 + G) from iN_add 56 G, show (15 : Int32) + iN G = iN (15 + G) from iN_add 15 G, show (25 : Int32) + iN G = iN (25 + G) from iN_add 25 G, inb_t (show 36 + G < 5703 by omega) (by omega), inb_t (show 46 + G < 5703 by omega) (by omega), inb_t (show 56 + G < 5703 by omega) (by omega), inb_t (show 15 + G < 5703 by omega) (by omega), inb_t (show 25 + G < 5703 by omega) (by omega), iN_nat (by omega), iN_nat (by omega), iN_nat (by omega), iN_nat (by omega), iN_nat (by omega), g, iN_succ]
  simp only [cond_true]
  unfold wA adR
  rw [show u2 T.2.1 132 (36 + G) a = u1 T.2.1 132 (u1 (T.2.1 132) (36 + G) a) from rfl, u2_u1, u2_u1, u2_u1, u2_u1, u2_u1]
theorem adG_agr (S : ST) (G : Nat) (a b c d : Int32) : Agr gatesW S (adG S G a b c d) := Agr.i (Agr.i (Agr.i (Agr.i (Agr.i (Agr.f Agr.rf 1 0 _ (by decide)) 2 G a (by decide)) 3 G b (by decide)) 4 G c (by decide)) 5 G d (by decide)) 6 G 1 (by decide)
theorem RK.addG {x : XT} {S : ST} {f : Nat → Int32} (h : RK x S 1 f) {G : Nat} (hG : G < 10) {a b c d : Int32} (ha : inb a 6 = true) (hb : inb b 6 = true) (hc : inb c 8 = true) (hd : inb d 10 = true) : RK x (adG S G a b c d) 1 (adR f G a b c d) := by
  obtain ⟨ka, kw, kt⟩ := h
  refine ⟨?_, ?_, ?_⟩
  · exact (((((ka.a1 G hG a).a2 G hG b).a3 G hG c).a4 G hG d).a5 G hG 1).f0 (iN (G + 1))
  · unfold adR
    refine WF.o (WF.m (WF.m (WF.o (WF.o (WF.o kw (36 + G) a ?_ ?_ ?_ ?_ ?_ ?_ ?_ ?_ ?_ ?_ ?_) (46 + G) b ?_ ?_ ?_ ?_ ?_ ?_ ?_ ?_ ?_ ?_ ?_) (56 + G) c ?_ ?_ ?_ ?_ ?_ ?_ ?_ ?_ ?_ ?_ ?_) (15 + G) d ?_ ?_) (25 + G) 1 ?_ ?_) 91 (iN (G + 1)) ?_ ?_ ?_ ?_ ?_ ?_ ?_ ?_ ?_ ?_ ?_
    all_goals first
      | omega
      | (intro e; omega)
      | exact fun g hg => ⟨fun _ => ha, fun e => by omega, fun e => by omega⟩
      | exact fun g hg => ⟨fun e => by omega, fun _ => hb, fun e => by omega⟩
      | exact fun g hg => ⟨fun e => by omega, fun e => by omega, fun _ => hc⟩
      | exact fun g hg => ⟨fun e => by omega, fun e => by omega, fun e => by omega⟩
      | exact fun p hp e => by omega
      | exact fun _ => inb_t (by omega) (by omega)
      | skip
    · refine (MW.put (MW.cg kw.1 (fun i hi => ?_)) (15 + G) d ?_ ?_ ?_)
      · rw [u1_n _ _ (by omega), u1_n _ _ (by omega), u1_n _ _ (by omega)]
      · exact fun p hp => ⟨fun e => by omega, fun e => by omega, fun e => by omega⟩
      · exact fun g hg => ⟨fun _ => hd, fun e => by omega⟩
      · exact fun e => by omega
    · refine MW.put (MW.put (MW.cg kw.1 (fun i hi => ?_)) (15 + G) d ?_ ?_ ?_) (25 + G) 1 ?_ ?_ ?_
      · rw [u1_n _ _ (by omega), u1_n _ _ (by omega), u1_n _ _ (by omega)]
      · exact fun p hp => ⟨fun e => by omega, fun e => by omega, fun e => by omega⟩
      · exact fun g hg => ⟨fun _ => hd, fun e => by omega⟩
      · exact fun e => by omega
      · exact fun p hp => ⟨fun e => by omega, fun e => by omega, fun e => by omega⟩
      · exact fun g hg => ⟨fun e => by omega, fun _ => rfl⟩
      · exact fun e => by omega
  · refine kt.cgf rfl ((adG_agr S G a b c d).sm (L := ([], [], [], [])) (by decide)).2.2.2 ?_ (fun k hk => ?_)
    · unfold adR
      rw [u1_n _ _ (by omega), u1_n _ _ (by omega), u1_n _ _ (by omega), u1_n _ _ (by omega), u1_n _ _ (by omega), u1_n _ _ (by omega)]
    · unfold adR
      rw [u1_n _ _ (by omega), u1_n _ _ (by omega), u1_n _ _ (by omega), u1_n _ _ (by omega), u1_n _ _ (by omega), u1_n _ _ (by omega)]
theorem c_gate (x : XT) (S T : ST) (h : Rel x S T) (a b c d : Int32) : Call x S T (gfX10_gate_0 x S a b c d) (gfX11_gate_130 x T a b c d) := by
  obtain ⟨G, hG, g1, g2⟩ := h.gates
  unfold gfX10_gate_0 bfX10_gate_0_0 gfX11_gate_130 bfX11_gate_130_0
  rw [addGate_eq x S a b c d G hG g1, canGate_eq, neg_1, neg_5]
  by_cases hb : (inb a 6 && inb b 6 && inb c 8 && inb d 10) = true
  · rw [if_pos hb, hb]
    dsimp only
    rw [if_pos (show ¬ bz true = 0 by decide), gateMany_eq]
    dsimp only
    rw [g2]
    by_cases h10 : G = 10
    · subst h10
      rw [if_pos rfl, if_neg (fun q => q (show iN 10 = 10 from rfl)), refuses_eq x T 5 (by omega) (by omega)]
      dsimp only
      rw [toldAnew_r x S 5 (by omega) (by omega)]
      exact ⟨_, _, _, rfl, rfl, h.ref 5 (by omega)⟩
    · rw [if_neg h10, if_pos (show ¬ iN G = 10 from fun q => h10 ((iN_eq (n := 10) (by omega) (by omega)).mp q)), adds_eq x T a b c d G (by omega) g2]
      dsimp only
      rw [gateMany_eq]
      dsimp only
      rw [settled_eq, toldAnew_g x _ _ (iN_nn (by omega)), wA_s]
      have e : adR (T.2.1 132) G a b c d 91 - 1 = iN G := by
        unfold adR
        rw [u1_s]
        exact iN_sub (m := G + 1) (n := 1) (by omega)
      rw [e]
      simp only [Bool.and_eq_true] at hb
      obtain ⟨⟨⟨b1, b2⟩, b3⟩, b4⟩ := hb
      refine ⟨_, _, _, rfl, rfl, h.anew ((adG_agr S G a b c d).sm (by decide)) (Agr.sm (W := ([], [132], [], [])) (Agr.ic Agr.rf 132 _ (by decide)) (by decide)) ?_⟩
      rw [wA_s]
      exact h.1.addG (by omega) b1 b2 b3 b4
  · have hb' : (inb a 6 && inb b 6 && inb c 8 && inb d 10) = false := by
      cases hh : (inb a 6 && inb b 6 && inb c 8 && inb d 10) with
      | false => rfl
      | true => exact absurd hh hb
    rw [if_neg hb, hb']
    dsimp only
    rw [if_neg (show ¬ ¬ bz false = 0 by decide), refuses_eq x T 1 (by omega) (by omega), toldAnew_r x S 1 (by omega) (by omega)]
    exact ⟨_, _, _, rfl, rfl, h.ref 1 (by omega)⟩
end ADD
