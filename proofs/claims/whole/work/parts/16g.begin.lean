section BEGIN
/-- a picture that holds the same in every place that is one -/
theorem Ev.like {M : MI} {d bc bs pc : Nat} {lv : List (Option Value)} {st : List Value} {h h1 : HP} {Q : Option Value → HP → Prop} (hn : kN h1 = kN h) (hk : ∀ a, a < kN h → kK h1 a = kK h a) (hk' : ∀ a, kK h1 a < 18 → a < kN h1) (hL : ∀ a, a < kN h → kL h1 a = kL h a) (hi : kI h1 = kI h) (hr : ∀ a, a < kN h → ∀ k, k < nF (kK h a) → kR h1 a k = kR h a k) (ha : kA h1 = kA h) (hj : kJ h1 = kJ h) (hq : kQ h1 = kQ h) (k : Ev M d bc bs pc lv st h1 Q) : Ev M d bc bs pc lv st h Q := by
  intro p l e R s m args below meth c D cy G L xs H locs cells slots ls Z C hd hrr hK hH hS hl hZ
  have hce : ∀ a, a < kN h → ce cy G h1 a = ce cy G h a := by
    intro a ha'
    have e1 : fl G h1 a = fl G h a := by
      unfold fl
      rw [hk a ha']
      refine List.map_congr_left (fun k hk2 => ?_)
      unfold fvA
      rw [hr a ha' k (List.mem_range.mp hk2), hi]
    unfold ce
    rw [e1, hk a ha', hL a ha', ha, hj, hq]
  refine k p l e R s m args below meth c D cy G L xs H locs cells slots ls Z C hd hrr hK ⟨by rw [hn]; exact hH.1, by rw [hn]; exact hH.2.1, hk', fun a ha' => ?_⟩ hS hl (fun v h' H' locs' cells' slots' ls' pc' a1 a2 a3 => hZ v h' H' locs' cells' slots' ls' pc' a1 a2 (by rw [← hn]; exact a3))
  rw [hn] at ha'
  rw [hce a ha']
  exact hH.2.2.2 a ha'
def x0 : XT := (0, fun _ => 99, fun _ => 0, fun _ _ => none)
def S0 : ST := sOf hM
theorem xw0 : XW x0 := fun _ _ => rfl
theorem shp0 : ∀ a, a < 158 → K0 a = kK hM a ∧ L0 a = kL hM a := by decide +kernel
theorem shr0 : ∀ a, a < 158 → ∀ k, k < nF (kK hM a) → R0 a k = kR hM a k := by decide +kernel
theorem kn0 : kN hM = 158 := by decide +kernel
theorem Ev.from0 {M : MI} {d bc bs pc : Nat} {lv : List (Option Value)} {st : List Value} {Q : Option Value → HP → Prop} (k : Ev M d bc bs pc lv st (mkS x0 S0) Q) : Ev M d bc bs pc lv st hM Q := by
  refine Ev.like (h1 := mkS x0 S0) kn0.symm (fun a ha => ?_) (fun a ha => ?_) (fun a ha => ?_) rfl (fun a ha j hj => ?_) rfl rfl rfl k
  · rw [kn0] at ha
    exact (mK_lo x0 ha).trans (shp0 a ha).1
  · show a < 158 + 0
    by_cases c : a < 158
    · exact c
    · have ha : mK x0 a < 18 := ha
      rw [mK_hi x0 (by omega)] at ha
      exact absurd (show (99 : Nat) < 18 from ha) (by decide)
  · rw [kn0] at ha
    exact (mL_lo x0 ha).trans (shp0 a ha).2
  · rw [kn0] at ha
    exact (mR_lo x0 ha j).trans (shr0 a ha j hj)
theorem ka0 : KA S0 1 (S0.2.1 132) := by
  unfold KA
  decide +kernel
theorem mw0 : MW (S0.2.1 132) := by
  unfold MW
  decide +kernel
theorem wf0 : WF (S0.2.1 132) := by
  refine ⟨mw0, by decide +kernel, by decide +kernel, by decide +kernel, by decide +kernel, Or.inl (by decide +kernel), by decide +kernel, by decide +kernel, by decide +kernel, by decide +kernel, by decide +kernel⟩
theorem kt0 : KT x0 S0 1 (S0.2.1 132) := by
  refine ⟨by decide +kernel, fun l L h1 h2 h3 => ?_⟩
  have e : S0.2.1 132 94 = iN 0 := by decide +kernel
  have h1 : S0.2.1 132 94 = iN L := h1
  rw [e] at h1
  have := (iN_eq (by omega) (by omega)).mp h1
  omega
theorem rel0 : Rel x0 S0 S0 := by
  refine ⟨⟨ka0, wf0, kt0⟩, fun k hk => ?_, ⟨⟨0, by decide, by decide +kernel, by decide +kernel⟩, by decide +kernel⟩, ⟨by decide +kernel, by decide +kernel⟩, ⟨by decide +kernel, by decide +kernel, by decide +kernel⟩, ⟨0, by decide, by decide +kernel, by decide +kernel, fun k hk => absurd hk (by omega)⟩, Or.inl ⟨by decide +kernel, by decide +kernel⟩, ?_⟩
  · rcases (show k = 0 ∨ k = 1 by omega) with rfl | rfl
    · exact ⟨by decide +kernel, by decide +kernel, Or.inl (by decide +kernel), fun h => absurd h (by decide +kernel)⟩
    · exact ⟨by decide +kernel, by decide +kernel, Or.inl (by decide +kernel), fun h => absurd h (by decide +kernel)⟩
  · show ∀ k, k < 122 → S0.2.1 136 k = rwB.getD k 0
    decide +kernel
end BEGIN
