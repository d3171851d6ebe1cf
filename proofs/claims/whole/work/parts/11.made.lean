section MADE
/-- a new cell of kind k, n places long -/
def mk1 (h : HP) (k n : Nat) : HP := (kN h + 1, u1 (kK h) (kN h) k, u1 (kL h) (kN h) n, u1 (kI h) (kN h) (fun _ => 0), u1 (kR h) (kN h) (fun _ => none), u1 (kA h) (kN h) (fun _ => 0), u1 (kJ h) (kN h) (fun _ => 0), u1 (kQ h) (kN h) (fun _ => none))
theorem mk1_old {cy : Nat → ClassId} {G : GG} {h : HP} {k n b : Nat} (hb : b < kN h) : ce cy G (mk1 h k n) b = ce cy G h b := by
  have hne : b ≠ kN h := by omega
  exact ce_eq (u1_n _ _ hne) (u1_n _ _ hne) (u1_n _ _ hne) (u1_n _ _ hne) (u1_n _ _ hne) (u1_n _ _ hne) (u1_n _ _ hne)
theorem mk1_kd {h : HP} {k n b : Nat} (hb : kK (mk1 h k n) b < 18) : b = kN h ∨ kK h b < 18 := by
  by_cases e : b = kN h
  · exact Or.inl e
  · right
    have : kK (mk1 h k n) b = kK h b := u1_n _ _ e
    omega
theorem cv_new {D : va_G} {cy : Nat → ClassId} {G : GG} {h : HP} {H : Heap} (hH : HR D cy G h H) (hn : kN h < 1000000) : cv G (.ref (kN h)) = .ref H.size := by
  show Value.ref (ro G (kN h)) = _
  rw [ro_lt G hn, hH.1]
theorem va_S.more {A : Nat → Prop} {H0 H H1 : Heap} {locs : List Loc} (hS : va_S A H0 H locs) (z : H1.size = H.size + 1) (oq : ∀ q, q < H.size → H1[q]? = H[q]?) : va_S A H0 H1 locs :=
  ⟨Nat.le_trans hS.1 (by omega), fun q h1 h2 => (oq q (Nat.lt_of_lt_of_le h1 hS.1)).trans (hS.2.1 q h1 h2), hS.2.2⟩
theorem ev_new {M : MI} {d bc bs pc : Nat} {lv : List (Option Value)} {st : List Value} {h : HP} {Q : Option Value → HP → Prop} {i ci : Nat} (hd : decode (mB M) pc = .ok (.new i, 3)) (hc : clk (mO M) i = some ci) (hn : kN h < 1000000)
    (k : Ev M d bc bs (pc + 3) lv (.ref (kN h) :: st) (mk1 h ci 0) Q) : Ev M d (bc + 1) (bs + nF ci) pc lv st h Q := by
  refine ev_made (n := nF ci) (h1 := mk1 h ci 0) (Nat.le_succ _) (fun {p l e R s m args below meth c D cy G L xs H locs cells slots ls Z} C hrr hK hH hS kk => ?_) k
  have hts := C.2.2.2.2.2.1
  obtain ⟨hc1, hc2⟩ := clk_ok hc
  obtain ⟨c1, c2, c3, c4⟩ := cls_at ci hc1
  have hKn := hK.1.1 ci _ c1
  refine W.newcK C.1 C.2.1 C.2.2.2.2.1 (hts _ hc2) (hts _ (ini_ok ci hc1).2) (hts _ (ini_ok ci hc1).1) rfl hd hrr.1 hrr.2 hKn.2.1 rfl fun H1 kC hkC e1 z1 o1 => ?_
  have hw := kk H1 (hH.push hn rfl (fun b hb => mk1_kd hb) (fun b hb => mk1_old hb) z1 o1 ?_) (hS.more z1 o1)
  · rw [List.map_cons, cv_new hH hn] at hw
    exact hw
  · have hkk : kK (mk1 h ci 0) (kN h) = ci := u1_s _ _ _
    rw [ce_obj hkk hc1]
    refine ⟨_, c1, (u_born (tyO ci) hts c2 hKn hkC (by rw [← hH.1]; exact e1) c3).to (fun j hj => ?_)⟩
    have hj2 := fl_at (G := G) hkk hj
    show defaultValue (tyO ci j) = (fl G (mk1 h ci 0) (kN h)).getD j .null
    rw [List.getD_eq_getElem?_getD, hj2]
    show _ = cv G (fvA (mk1 h ci 0) (kN h) j (fT ci j))
    unfold fvA
    have e2 : kR (mk1 h ci 0) (kN h) j = none := by show (u1 (kR h) (kN h) (fun _ => none) (kN h)) j = none; rw [u1_s]
    have e3 : kI (mk1 h ci 0) (kN h) j = 0 := by show (u1 (kI h) (kN h) (fun _ => 0) (kN h)) j = 0; rw [u1_s]
    rw [e2, e3]
    by_cases ht : fT ci j = 2
    · rw [ht]
      rcases tyR_ok ci hc1 j hj ht with ⟨n, e⟩ | ⟨t, e⟩ <;> rw [e] <;> rfl
    · have hb : Nat.beq (fT ci j) 2 = false := by
        cases hb : Nat.beq (fT ci j) 2 with
        | false => rfl
        | true => exact absurd (Nat.eq_of_beq_eq_true hb) ht
      rw [hb]
      show _ = Value.int 0
      unfold fT at ht
      split at ht
      · rename_i e; rw [e]; rfl
      · rename_i e; rw [e]; rfl
      · exact absurd rfl ht
def akd (t : ArrayType) : Nat := match newarray.typeOf t with
  | .byte => 12
  | .int => 13
  | .long => 14
  | .boolean => 15
  | _ => 99
theorem ac_ok : Cond.arrayClass .byte ∈ TB ∧ Cond.arrayClass .int ∈ TB ∧ Cond.arrayClass .long ∈ TB ∧ Cond.arrayClass .boolean ∈ TB := by
  have h1 : Cond.arrayClass .byte ∈ tables_1 ∧ Cond.arrayClass .int ∈ tables_1 ∧ Cond.arrayClass .long ∈ tables_1 ∧ Cond.arrayClass .boolean ∈ tables_1 := by decide +kernel
  exact ⟨tbm (List.mem_append_right _ h1.1) rfl, tbm (List.mem_append_right _ h1.2.1) rfl, tbm (List.mem_append_right _ h1.2.2.1) rfl, tbm (List.mem_append_right _ h1.2.2.2) rfl⟩
theorem ev_newa {M : MI} {d bc bs pc : Nat} {lv : List (Option Value)} {st : List Value} {h : HP} {Q : Option Value → HP → Prop} {t : ArrayType} {n : Int32} {N k : Nat} (hd : decode (mB M) pc = .ok (.newarray t, 2)) (ha : akd t = k) (hk : k < 18) (hn : kN h < 1000000) (h0 : ¬ n < 0) (hN : n.toNatClampNeg = N) (hN2 : N ≤ 1000000)
    (kx : Ev M d bc bs (pc + 2) lv (.ref (kN h) :: st) (mk1 h k N) Q) : Ev M d (bc + 1) (bs + N) pc lv (.int n :: st) h Q := by
  refine ev_made (n := N) (h1 := mk1 h k N) (Nat.le_succ _) (fun {p l e R s m args below meth c D cy G L xs H locs cells slots ls Z} C hrr hK hH hS kk => ?_) kx
  have hts := C.2.2.2.2.2.1
  have hbyt : N * componentBytes (newarray.typeOf t) ≤ 536870912 := by
    have : componentBytes (newarray.typeOf t) ≤ 8 := by cases t <;> decide
    calc N * componentBytes (newarray.typeOf t) ≤ 1000000 * 8 := Nat.mul_le_mul hN2 this
      _ ≤ _ := by decide
  have hharr : (Cond.arrayClass (newarray.typeOf t)).before args s = true := by
    unfold akd at ha
    split at ha
    · rename_i e; rw [e]; exact hts _ ac_ok.1
    · rename_i e; rw [e]; exact hts _ ac_ok.2.1
    · rename_i e; rw [e]; exact hts _ ac_ok.2.2.1
    · rename_i e; rw [e]; exact hts _ ac_ok.2.2.2
    · omega
  refine va_newaK C.1 C.2.1 hharr rfl hd rfl h0 hN hbyt hrr.1 hrr.2 rfl fun H1 cA e1 z1 o1 hAr hNm => ?_
  have hw := kk H1 (hH.push hn rfl (fun b hb => mk1_kd hb) (fun b hb => mk1_old hb) z1 o1 ?_) (hS.more z1 o1)
  · rw [List.map_cons, cv_new hH hn] at hw
    exact hw
  · have hkk : kK (mk1 h k N) (kN h) = k := u1_s _ _ _
    have e2 : kL (mk1 h k N) (kN h) = N := u1_s _ _ _
    have e3 : kA (mk1 h k N) (kN h) = fun _ => 0 := u1_s _ _ _
    have e4 : kJ (mk1 h k N) (kN h) = fun _ => 0 := u1_s _ _ _
    rw [hH.1] at e1
    unfold akd at ha
    split at ha
    · rename_i e; subst ha; rw [e] at e1 hNm
      have hc : cA = cy 12 := Option.some.inj (hNm.symm.trans (hK.1.2 0 _ rfl).2)
      subst hc
      rw [ce_int hkk (Or.inl rfl), e2, e3]; exact e1
    · rename_i e; subst ha; rw [e] at e1 hNm
      have hc : cA = cy 13 := Option.some.inj (hNm.symm.trans (hK.1.2 1 _ rfl).2)
      subst hc
      rw [ce_int hkk (Or.inr (Or.inl rfl)), e2, e3]; exact e1
    · rename_i e; subst ha; rw [e] at e1 hNm
      have hc : cA = cy 14 := Option.some.inj (hNm.symm.trans (hK.1.2 2 _ rfl).2)
      subst hc
      rw [ce_long hkk, e2, e4]; exact e1
    · rename_i e; subst ha; rw [e] at e1 hNm
      have hc : cA = cy 15 := Option.some.inj (hNm.symm.trans (hK.1.2 3 _ rfl).2)
      subst hc
      rw [ce_int hkk (Or.inr (Or.inr rfl)), e2, e3]; exact e1
    · omega
theorem ev_anew {M : MI} {d bc bs pc : Nat} {lv : List (Option Value)} {st : List Value} {h : HP} {Q : Option Value → HP → Prop} {i ci k : Nat} {n : Int32} {N : Nat} (hd : decode (mB M) pc = .ok (.anewarray i, 3)) (hc : clk (mO M) i = some ci) (hk : (ci = 7 ∧ k = 16) ∨ (ci = 9 ∧ k = 17)) (hn : kN h < 1000000) (h0 : ¬ n < 0) (hN : n.toNatClampNeg = N) (hN2 : N ≤ 1000000)
    (kx : Ev M d bc bs (pc + 3) lv (.ref (kN h) :: st) (mk1 h k N) Q) : Ev M d (bc + 1) (bs + N) pc lv (.int n :: st) h Q := by
  refine ev_made (n := N) (h1 := mk1 h k N) (Nat.le_succ _) (fun {p l e R s m args below meth c D cy G L xs H locs cells slots ls Z} C hrr hK hH hS kk => ?_) kx
  have hts := C.2.2.2.2.2.1
  obtain ⟨hc1, hc2⟩ := clk_ok hc
  subst hN
  have hover : (Cond.arrayOver (.object (cnm ci))).before args s = true := by
    rcases hk with ⟨rfl, -⟩ | ⟨rfl, -⟩
    · exact va_AO.use hK.2.2.2.2.2.2.2.2.2.1
    · exact va_AO.use hK.2.2.2.2.2.2.2.2.2.2
  refine W.anew C.1 C.2.1 C.2.2.2.2.1 (hts _ hc2) hover rfl hd rfl h0 (by omega) hrr.1 hrr.2 fun cA kA0 comp f1 f2 f3 f4 => ?_
  generalize hH1 : H.push ({ cls := cA, slots := Array.replicate n.toNatClampNeg .null, vm := .none } : Cell) = H1
  have z1 : H1.size = H.size + 1 := by rw [← hH1, Array.size_push]
  have e1 : H1[H.size]? = some (arrV cA n.toNatClampNeg (fun _ => .null)) := by rw [← hH1, Array.getElem?_push_size, ← arrV_new]
  have o1 : ∀ q : Nat, q < H.size → H1[q]? = H[q]? := fun q hq => by rw [← hH1, Array.getElem?_push, if_neg (Nat.ne_of_lt hq)]
  have hw := kk H1 (hH.push hn rfl (fun b hb => mk1_kd hb) (fun b hb => mk1_old hb) z1 o1 ?_) (hS.more z1 o1)
  · rw [List.map_cons, cv_new hH hn] at hw
    exact hw
  · have hkk : kK (mk1 h k n.toNatClampNeg) (kN h) = k := u1_s _ _ _
    have e2 : kL (mk1 h k n.toNatClampNeg) (kN h) = n.toNatClampNeg := u1_s _ _ _
    have e3 : kQ (mk1 h k n.toNatClampNeg) (kN h) = fun _ => none := u1_s _ _ _
    rw [hH.1] at e1
    rcases hk with ⟨rfl, rfl⟩ | ⟨rfl, rfl⟩
    · have hr := (hK.1.2 4 _ rfl).2
      obtain ⟨kA1, comp1, g1, g2, g3, g4⟩ := hr
      have hc : cA = cy 16 := Option.some.inj (f1.symm.trans g4)
      subst hc
      rw [ce_ref hkk (Or.inl rfl), e2, e3]; exact e1
    · have hr := (hK.1.2 5 _ rfl).2
      obtain ⟨kA1, comp1, g1, g2, g3, g4⟩ := hr
      have hc : cA = cy 17 := Option.some.inj (f1.symm.trans g4)
      subst hc
      rw [ce_ref hkk (Or.inr rfl), e2, e3]; exact e1
/-- a cell, or none, into a row of cells -/
theorem ev_aast {M : MI} {d bc bs pc : Nat} {lv : List (Option Value)} {st : List Value} {h : HP} {Q : Option Value → HP → Prop} {a kd ci : Nat} {i : Int32} {r : Option Nat} (hd : decode (mB M) pc = .ok (.aastore, 1)) (hk : kK h a = kd) (hkd : (kd = 16 ∧ ci = 7) ∨ (kd = 17 ∧ ci = 9)) (hin : vp_in i (kL h a)) (hr : ∀ b, r = some b → kK h b = ci)
    (k : Ev M d bc bs (pc + 1) lv st (sQ h (u2 (kQ h) a i.toNatClampNeg r)) Q) : Ev M d bc bs pc lv (va_rf r :: .int i :: .ref a :: st) h Q := by
  refine ev_full (h1 := sQ h (u2 (kQ h) a i.toNatClampNeg r)) (Nat.le_refl (kN h)) (fun {p l e R s m args below meth c D cy G L xs H locs cells slots ls Z} C hdr hrr hK hH hS hl kk => ?_) k
  have hk18 : kK h a < 18 := by rw [hk]; omega
  have hat := hH.2.2.2 a (hH.2.2.1 a hk18)
  have hkr : kd = 16 ∨ kd = 17 := by omega
  rw [ce_ref hk hkr] at hat
  have ea : cv G (.ref a) = .ref (G.1 + a) := by show Value.ref (ro G a) = _; rw [hH.ro hk18]
  rw [List.map_cons, List.map_cons, List.map_cons, ea, cv_rf]
  have hty : ∃ (t0 : Nat), (tyl cy)[t0]? = some (cy kd, .object (cnm ci)) := by
    rcases hkd with ⟨rfl, rfl⟩ | ⟨rfl, rfl⟩
    · exact ⟨4, rfl⟩
    · exact ⟨5, rfl⟩
  obtain ⟨t0, ht0⟩ := hty
  have hci : ci < 12 := by omega
  have hlt : i.toNatClampNeg < kL h a := Nat.not_le.mp fun q => hin (Or.inr q)
  have h0 : ¬ i < 0 := fun q => hin (Or.inl q)
  have fin : ∀ H1 : Heap, H1[G.1 + a]? = some ((arrV (cy kd) (kL h a) (fun j => va_rf ((kQ h a j).map (ro G)))).setSlot i.toNatClampNeg (va_rf (r.map (ro G)))) → H1.size = H.size → (∀ q, q ≠ G.1 + a → H1[q]? = H[q]?) → W p l e R s m args below meth c H1 (locs ++ [⟨G.1 + a, i.toNatClampNeg⟩]) cells slots Z (F0 m (pc + 1) ls (st.map (cv G))) := by
    intro H1 z1 z2 z3
    refine kk H1 _ ls (hH.put (a := a) rfl rfl (fun b hb => ce_eq rfl rfl rfl rfl rfl rfl (by show u2 _ _ _ _ b = _; rw [u2, u1_n _ _ hb])) z2 z3 ?_) (hS.put z2 z3 (Nat.le_add_right _ _)) hl
    rw [ce_ref (h := sQ h (u2 (kQ h) a i.toNatClampNeg r)) hk hkr]
    show H1[G.1 + a]? = some (arrV (cy kd) (kL h a) (fun j => va_rf ((u2 (kQ h) a i.toNatClampNeg r a j).map (ro G))))
    rw [z1, arrV_store]
    congr 2
    funext q
    by_cases hq : q = i.toNatClampNeg
    · subst hq; rw [u2_s]; simp [updV]
    · rw [u2_k _ _ _ hq]; simp [updV, hq]
  cases r with
  | none =>
    refine va_WaastN (C := cnm ci) C.1 C.2.1 hat ((hK.1.2 t0 _ ht0).1 (kL h a) (fun j => va_rf ((kQ h a j).map (ro G)))) (fun h => by cases h) (by show ¬ (i < 0 ∨ (arrV _ _ _).slots.size ≤ _); rw [arrV_size]; exact hin) rfl rfl hd fun H1 z1 z2 z3 => ?_
    exact fin H1 z1 z2 z3
  | some b =>
    have hb := hr b rfl
    have hb18 : kK h b < 18 := by rw [hb]; omega
    have hatb := hH.2.2.2 b (hH.2.2.1 b hb18)
    rw [ce_obj hb hci] at hatb
    obtain ⟨rr, g0, cellV, g1, g2, g3, -⟩ := hatb
    have hcls := (hK.1.1 ci _ (cls_at ci hci).1).2
    obtain ⟨kA0, comp, k1, k2, k3, -⟩ := (hK.1.2 t0 _ ht0).2
    have hcomp : comp = D.1 ci := Option.some.inj (k3.symm.trans hcls.1)
    subst hcomp
    obtain ⟨kC, hkC, -⟩ := hcls.2
    have eb : (va_rf ((some b).map (ro G))) = .ref (G.1 + b) := by show Value.ref (ro G b) = _; rw [hH.ro hb18]
    rw [eb] at fin ⊢
    refine W.aast C.1 C.2.1 hat (fun q h => by cases h) (fun h => by cases h) k1 k2 rfl hkC ⟨h0, by show _ < (arrV _ _ _).slots.size; rw [arrV_size]; exact hlt⟩ g1 (fun q h => by rw [g3] at h; cases h) (by rw [g2]; exact hkC) (by rw [g2]; exact va_assign hcls) rfl rfl hd fun H1 z1 z2 z3 => ?_
    exact fin H1 z1 z2 z3
/-- the script -/
theorem ro_sc (G : GG) : ro G 1000000 = G.2.1 := rfl
theorem ev_sld {M : MI} {d bc bs pc : Nat} {lv : List (Option Value)} {st : List Value} {h : HP} {Q : Option Value → HP → Prop} {i : Int32} {L0 : Nat} {xs0 : Nat → Int32} (hd : decode (mB M) pc = .ok (.iaload, 1)) (hs : mS M = some (L0, xs0)) (hin : vp_in i L0)
    (k : Ev M d bc bs (pc + 1) lv (.int (xs0 i.toNatClampNeg) :: st) h Q) : Ev M d bc bs pc lv (.int i :: .ref 1000000 :: st) h Q := by
  refine ev_full (Nat.le_refl _) (fun {p l e R s m args below meth c D cy G L xs H locs cells slots ls Z} C hdr hrr hK hH hS hl kk => ?_) k
  have hq := C.2.2.2.2.2.2.2.2 _ hs
  cases hq
  exact va_sld C.1 C.2.1 hK.2.1 (Nat.lt_of_lt_of_le hK.2.2.1 hK.2.2.2.1) (Nat.not_le.mpr hK.2.2.1) hS hin hd (kk _ _ _ hH hS hl)
theorem ev_slen {M : MI} {d bc bs pc : Nat} {lv : List (Option Value)} {st : List Value} {h : HP} {Q : Option Value → HP → Prop} {L0 : Nat} {xs0 : Nat → Int32} (hd : decode (mB M) pc = .ok (.arraylength, 1)) (hs : mS M = some (L0, xs0))
    (k : Ev M d bc bs (pc + 1) lv (.int (Int32.ofNat L0) :: st) h Q) : Ev M d bc bs pc lv (.ref 1000000 :: st) h Q := by
  refine ev_full (Nat.le_refl _) (fun {p l e R s m args below meth c D cy G L xs H locs cells slots ls Z} C hdr hrr hK hH hS hl kk => ?_) k
  have hq := C.2.2.2.2.2.2.2.2 _ hs
  cases hq
  exact va_slen C.1 C.2.1 hK.2.1 (Nat.lt_of_lt_of_le hK.2.2.1 hK.2.2.2.1) (Nat.not_le.mpr hK.2.2.1) hS hd (kk _ _ _ hH hS hl)
end MADE
