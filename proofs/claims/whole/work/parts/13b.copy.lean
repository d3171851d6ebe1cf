section COPY
theorem ev_copyi {M : MI} {d bc bs pc : Nat} {lv : List (Option Value)} {st : List Value} {h : HP} {Q : Option Value → HP → Prop} {i a0 a : Nat} {sp dp n : Int32} {sp' dp' n' : Nat} (hd : decode (mB M) pc = .ok (.invokestatic i, 3)) (hlk : Cond.methodLink (cnm (mO M)) i arraycopyName ∈ TB) (hnat : Cond.native arraycopyName ∈ TB) (hstat : Cond.static arraycopyName ∈ TB) (hini : Cond.initialized "java/lang/System" ∈ TB) (hdd : 1 ≤ d) (hrest : (st.map fun v => v.category).sum ≤ 8) (hk0 : kK h a0 = 13) (hk1 : kK h a = 13) (h1 : ¬ sp < 0) (h2 : ¬ dp < 0) (h3 : ¬ n < 0) (g1 : sp.toNatClampNeg = sp') (g2 : dp.toNatClampNeg = dp') (g3 : n.toNatClampNeg = n') (h4 : sp' + n' ≤ kL h a0) (h5 : dp' + n' ≤ kL h a)
    (k : Ev M d bc bs (pc + 3) lv st (sA h (u1 (kA h) a (va_cpy (kA h a0) (kA h a) sp' dp' n'))) Q) : Ev M d bc bs pc lv (.int n :: .int dp :: .ref a :: .int sp :: .ref a0 :: st) h Q := by
  refine ev_full (h1 := sA h (u1 (kA h) a (va_cpy (kA h a0) (kA h a) sp' dp' n'))) (Nat.le_refl (kN h)) (fun {p l e R s m args below meth c D cy G L xs H locs cells slots ls Z} C hdr hrr hK hH hS hl kk => ?_) k
  subst g1; subst g2; subst g3
  have hts := C.2.2.2.2.2.1
  have hk18 : kK h a < 18 := by rw [hk1]; omega
  have hk180 : kK h a0 < 18 := by rw [hk0]; omega
  have hat := hH.2.2.2 a (hH.2.2.1 a hk18)
  have hat0 := hH.2.2.2 a0 (hH.2.2.1 a0 hk180)
  rw [ce_int hk1 (Or.inr (Or.inl rfl))] at hat
  rw [ce_int hk0 (Or.inr (Or.inl rfl))] at hat0
  have ea : cv G (.ref a) = .ref (G.1 + a) := by show Value.ref (ro G a) = _; rw [hH.ro hk18]
  have ea0 : cv G (.ref a0) = .ref (G.1 + a0) := by show Value.ref (ro G a0) = _; rw [hH.ro hk180]
  simp only [List.map_cons]
  rw [ea, ea0]
  have nn : ∀ z : Int32, ¬ z < 0 → z.toInt = (z.toNatClampNeg : Int) := by
    intro z hz
    have hz0 : (0 : Int) ≤ z.toInt := by
      have := Int32.not_lt.mp hz
      simpa using Int32.le_iff_toInt_le.mp this
    show z.toInt = ((z.toInt.toNat : Nat) : Int)
    omega
  have hc0 : H[G.1 + a0]? = some (arrV (cy 13) (kL h a0) (fun j => .int (kA h a0 j))) := hat0
  have hc1 : H[G.1 + a]? = some (arrV (cy 13) (kL h a) (fun j => .int (kA h a j))) := hat
  obtain ⟨-, k0, hk0', cm0, hkk0⟩ := (hK.1.2 1 _ rfl).1 (kL h a0) (fun j => .int (kA h a0 j))
  obtain ⟨-, k1, hk1', cm1, hkk1⟩ := (hK.1.2 1 _ rfl).1 (kL h a) (fun j => .int (kA h a j))
  intro T hT X
  obtain ⟨vm', X', step⟩ := X.arraycopy C.1 C.2.2.2.2.1 (hts _ hlk) (hts _ hnat) (hts _ hstat) (hts _ hini) (src := G.1 + a0) (dst := G.1 + a) (srcPos := sp) (destPos := dp) (n := n) (by rw [hT]; exact hc0) (by rw [hT]; exact hc1)
    (fun _ h => by cases h) (fun _ h => by cases h) (fun h => by cases h) (fun h => by cases h) hk0' hk1' hkk0 hkk1 (by rfl) h1 h2 h3
    (by rw [nn sp h1, nn n h3, arrV_size]; omega)
    (by rw [nn dp h2, nn n h3, arrV_size]; omega)
    (fun vm₁ _ j hj => by
      have ej : (arrV (cy 13) (kL h a0) (fun j => .int (kA h a0 j))).slots.getD (sp.toNatClampNeg + j) .null = .int (kA h a0 (sp.toNatClampNeg + j)) := by
        rw [Array.getD_eq_getD_getElem?, arrV_read _ _ (by omega)]
        rfl
      refine ⟨?_, ?_⟩
      · rw [ej]
        rfl
      · rw [ej]
        exact trivial)
    (g := F0 m pc ls (.int n :: .int dp :: .ref (G.1 + a) :: .int sp :: .ref (G.1 + a0) :: st.map (cv G))) rfl (hl.1.trans C.2.2.2.1.symm) (rest := st.map (cv G)) rfl (by rw [C.2.1]; exact hd) (by omega) (by
      show 2 * 0 + _ + _ ≤ _
      rw [cat_cv]
      have hw : nativeFrameWords "java/lang/System" "arraycopy" 5 ≤ 40 := by decide
      have h9 := hdr.2
      unfold LQ at h9
      omega)
  have e1 : copied (arrV (cy 13) (kL h a0) (fun j => .int (kA h a0 j))) (arrV (cy 13) (kL h a) (fun j => .int (kA h a j))) sp dp n = arrV (cy 13) (kL h a) (fun j => .int (va_cpy (kA h a0) (kA h a) sp.toNatClampNeg dp.toNatClampNeg n.toNatClampNeg j)) := va_copied (fun z => .int z) (cy 13) (cy 13) (kA h a0) (kA h a) h4
  rw [e1] at X' step
  have hlt : G.1 + a < H.size := (Array.getElem?_eq_some_iff.mp hc1).1
  obtain ⟨t, a1, b1⟩ := kk (H.setIfInBounds (G.1 + a) (arrV (cy 13) (kL h a) (fun j => .int (va_cpy (kA h a0) (kA h a) sp.toNatClampNeg dp.toNatClampNeg n.toNatClampNeg j)))) _ ls
    (hH.put (a := a) rfl rfl (fun b hb => ce_eq rfl rfl rfl rfl (u1_n _ _ hb) rfl rfl) (by simp) (fun q hq => by simp [Array.getElem?_setIfInBounds, Ne.symm hq]) (by
      rw [ce_int (h := sA h (u1 (kA h) a (va_cpy (kA h a0) (kA h a) sp.toNatClampNeg dp.toNatClampNeg n.toNatClampNeg))) hk1 (Or.inr (Or.inl rfl))]
      show (H.setIfInBounds (G.1 + a) _)[G.1 + a]? = some (arrV (cy 13) (kL h a) (fun j => .int (u1 (kA h) a (va_cpy (kA h a0) (kA h a) sp.toNatClampNeg dp.toNatClampNeg n.toNatClampNeg) a j)))
      rw [u1_s]
      simp [Array.getElem?_setIfInBounds, hlt]))
    ⟨by simp; exact hS.1, fun q q1 q2 => by
      have : q ≠ G.1 + a := fun e => q2 (by rw [e]; exact Nat.le_add_right _ _)
      simp [Array.getElem?_setIfInBounds, Ne.symm this]
      exact hS.2.1 q q1 q2, fun q hq => by
      rcases List.mem_append.mp hq with hh | hh
      · exact hS.2.2 q hh
      · obtain ⟨z, -, hz⟩ := List.mem_map.mp hh
        rw [← hz]
        exact Nat.le_add_right _ _⟩ hl _ (by rw [← hT]; rfl) X'
  exact ⟨t, step t a1, b1⟩
theorem ev_copyl {M : MI} {d bc bs pc : Nat} {lv : List (Option Value)} {st : List Value} {h : HP} {Q : Option Value → HP → Prop} {i a0 a : Nat} {sp dp n : Int32} {sp' dp' n' : Nat} (hd : decode (mB M) pc = .ok (.invokestatic i, 3)) (hlk : Cond.methodLink (cnm (mO M)) i arraycopyName ∈ TB) (hnat : Cond.native arraycopyName ∈ TB) (hstat : Cond.static arraycopyName ∈ TB) (hini : Cond.initialized "java/lang/System" ∈ TB) (hdd : 1 ≤ d) (hrest : (st.map fun v => v.category).sum ≤ 8) (hk0 : kK h a0 = 14) (hk1 : kK h a = 14) (h1 : ¬ sp < 0) (h2 : ¬ dp < 0) (h3 : ¬ n < 0) (g1 : sp.toNatClampNeg = sp') (g2 : dp.toNatClampNeg = dp') (g3 : n.toNatClampNeg = n') (h4 : sp' + n' ≤ kL h a0) (h5 : dp' + n' ≤ kL h a)
    (k : Ev M d bc bs (pc + 3) lv st (sJ h (u1 (kJ h) a (va_cpy (kJ h a0) (kJ h a) sp' dp' n'))) Q) : Ev M d bc bs pc lv (.int n :: .int dp :: .ref a :: .int sp :: .ref a0 :: st) h Q := by
  refine ev_full (h1 := sJ h (u1 (kJ h) a (va_cpy (kJ h a0) (kJ h a) sp' dp' n'))) (Nat.le_refl (kN h)) (fun {p l e R s m args below meth c D cy G L xs H locs cells slots ls Z} C hdr hrr hK hH hS hl kk => ?_) k
  subst g1; subst g2; subst g3
  have hts := C.2.2.2.2.2.1
  have hk18 : kK h a < 18 := by rw [hk1]; omega
  have hk180 : kK h a0 < 18 := by rw [hk0]; omega
  have hat := hH.2.2.2 a (hH.2.2.1 a hk18)
  have hat0 := hH.2.2.2 a0 (hH.2.2.1 a0 hk180)
  rw [ce_long hk1] at hat
  rw [ce_long hk0] at hat0
  have ea : cv G (.ref a) = .ref (G.1 + a) := by show Value.ref (ro G a) = _; rw [hH.ro hk18]
  have ea0 : cv G (.ref a0) = .ref (G.1 + a0) := by show Value.ref (ro G a0) = _; rw [hH.ro hk180]
  simp only [List.map_cons]
  rw [ea, ea0]
  have nn : ∀ z : Int32, ¬ z < 0 → z.toInt = (z.toNatClampNeg : Int) := by
    intro z hz
    have hz0 : (0 : Int) ≤ z.toInt := by
      have := Int32.not_lt.mp hz
      simpa using Int32.le_iff_toInt_le.mp this
    show z.toInt = ((z.toInt.toNat : Nat) : Int)
    omega
  have hc0 : H[G.1 + a0]? = some (arrV (cy 14) (kL h a0) (fun j => .long (kJ h a0 j))) := hat0
  have hc1 : H[G.1 + a]? = some (arrV (cy 14) (kL h a) (fun j => .long (kJ h a j))) := hat
  obtain ⟨-, k0, hk0', cm0, hkk0⟩ := (hK.1.2 2 _ rfl).1 (kL h a0) (fun j => .long (kJ h a0 j))
  obtain ⟨-, k1, hk1', cm1, hkk1⟩ := (hK.1.2 2 _ rfl).1 (kL h a) (fun j => .long (kJ h a j))
  intro T hT X
  obtain ⟨vm', X', step⟩ := X.arraycopy C.1 C.2.2.2.2.1 (hts _ hlk) (hts _ hnat) (hts _ hstat) (hts _ hini) (src := G.1 + a0) (dst := G.1 + a) (srcPos := sp) (destPos := dp) (n := n) (by rw [hT]; exact hc0) (by rw [hT]; exact hc1)
    (fun _ h => by cases h) (fun _ h => by cases h) (fun h => by cases h) (fun h => by cases h) hk0' hk1' hkk0 hkk1 (by rfl) h1 h2 h3
    (by rw [nn sp h1, nn n h3, arrV_size]; omega)
    (by rw [nn dp h2, nn n h3, arrV_size]; omega)
    (fun vm₁ _ j hj => by
      have ej : (arrV (cy 14) (kL h a0) (fun j => .long (kJ h a0 j))).slots.getD (sp.toNatClampNeg + j) .null = .long (kJ h a0 (sp.toNatClampNeg + j)) := by
        rw [Array.getD_eq_getD_getElem?, arrV_read _ _ (by omega)]
        rfl
      refine ⟨?_, ?_⟩
      · rw [ej]
        rfl
      · rw [ej]
        exact trivial)
    (g := F0 m pc ls (.int n :: .int dp :: .ref (G.1 + a) :: .int sp :: .ref (G.1 + a0) :: st.map (cv G))) rfl (hl.1.trans C.2.2.2.1.symm) (rest := st.map (cv G)) rfl (by rw [C.2.1]; exact hd) (by omega) (by
      show 2 * 0 + _ + _ ≤ _
      rw [cat_cv]
      have hw : nativeFrameWords "java/lang/System" "arraycopy" 5 ≤ 40 := by decide
      have h9 := hdr.2
      unfold LQ at h9
      omega)
  have e1 : copied (arrV (cy 14) (kL h a0) (fun j => .long (kJ h a0 j))) (arrV (cy 14) (kL h a) (fun j => .long (kJ h a j))) sp dp n = arrV (cy 14) (kL h a) (fun j => .long (va_cpy (kJ h a0) (kJ h a) sp.toNatClampNeg dp.toNatClampNeg n.toNatClampNeg j)) := va_copied (fun z => .long z) (cy 14) (cy 14) (kJ h a0) (kJ h a) h4
  rw [e1] at X' step
  have hlt : G.1 + a < H.size := (Array.getElem?_eq_some_iff.mp hc1).1
  obtain ⟨t, a1, b1⟩ := kk (H.setIfInBounds (G.1 + a) (arrV (cy 14) (kL h a) (fun j => .long (va_cpy (kJ h a0) (kJ h a) sp.toNatClampNeg dp.toNatClampNeg n.toNatClampNeg j)))) _ ls
    (hH.put (a := a) rfl rfl (fun b hb => ce_eq rfl rfl rfl rfl rfl (u1_n _ _ hb) rfl) (by simp) (fun q hq => by simp [Array.getElem?_setIfInBounds, Ne.symm hq]) (by
      rw [ce_long (h := sJ h (u1 (kJ h) a (va_cpy (kJ h a0) (kJ h a) sp.toNatClampNeg dp.toNatClampNeg n.toNatClampNeg))) hk1]
      show (H.setIfInBounds (G.1 + a) _)[G.1 + a]? = some (arrV (cy 14) (kL h a) (fun j => .long (u1 (kJ h) a (va_cpy (kJ h a0) (kJ h a) sp.toNatClampNeg dp.toNatClampNeg n.toNatClampNeg) a j)))
      rw [u1_s]
      simp [Array.getElem?_setIfInBounds, hlt]))
    ⟨by simp; exact hS.1, fun q q1 q2 => by
      have : q ≠ G.1 + a := fun e => q2 (by rw [e]; exact Nat.le_add_right _ _)
      simp [Array.getElem?_setIfInBounds, Ne.symm this]
      exact hS.2.1 q q1 q2, fun q hq => by
      rcases List.mem_append.mp hq with hh | hh
      · exact hS.2.2 q hh
      · obtain ⟨z, -, hz⟩ := List.mem_map.mp hh
        rw [← hz]
        exact Nat.le_add_right _ _⟩ hl _ (by rw [← hT]; rfl) X'
  exact ⟨t, step t a1, b1⟩
end COPY
