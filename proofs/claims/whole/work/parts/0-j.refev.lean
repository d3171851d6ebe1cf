section REFEV
/-! the reference goes along TOKENS: only two of its fields change -/
def ge (T : ST) (g : Nat) (b : Int32) : ST := (u2 (u2 T.1 130 22 (iN g)) 130 24 b, T.2.1, T.2.2.1, T.2.2.2)
theorem ge_22 (T : ST) (g : Nat) (b : Int32) : (ge T g b).1 130 22 = iN g := by
  unfold ge; dsimp only; rw [u2_k _ _ _ (by decide), u2_s]
theorem ge_24 (T : ST) (g : Nat) (b : Int32) : (ge T g b).1 130 24 = b := by
  unfold ge; dsimp only; rw [u2_s]
theorem ge_o (T : ST) (g : Nat) (b : Int32) {k : Nat} (h1 : k ≠ 22) (h2 : k ≠ 24) : (ge T g b).1 130 k = T.1 130 k := by
  unfold ge; dsimp only; rw [u2_k _ _ _ h2, u2_k _ _ _ h1]
theorem ge_21 (T : ST) (g : Nat) (b : Int32) : (ge T g b).2.1 = T.2.1 := rfl
theorem u2_u2 {α : Type} (f : Nat → Nat → α) (a k : Nat) (v w : α) : u2 (u2 f a k v) a k w = u2 f a k w := by
  funext b j
  by_cases h : b = a
  · subst h
    by_cases hj : j = k
    · subst hj; rw [u2_s, u2_s]
    · rw [u2_k _ _ _ hj, u2_k _ _ _ hj, u2_k _ _ _ hj]
  · rw [u2_n _ _ _ _ h, u2_n _ _ _ _ h, u2_n _ _ _ _ h]
theorem u2_cm {α : Type} (f : Nat → Nat → α) (a k k' : Nat) (v w : α) (hk : k ≠ k') : u2 (u2 f a k v) a k' w = u2 (u2 f a k' w) a k v := by
  funext b j
  by_cases h : b = a
  · subst h
    by_cases hj : j = k
    · subst hj; rw [u2_k _ _ _ hk, u2_s, u2_s]
    · by_cases hj' : j = k'
      · subst hj'; rw [u2_s, u2_k _ _ _ hj, u2_s]
      · rw [u2_k _ _ _ hj', u2_k _ _ _ hj, u2_k _ _ _ hj, u2_k _ _ _ hj']
  · rw [u2_n _ _ _ _ h, u2_n _ _ _ _ h, u2_n _ _ _ _ h, u2_n _ _ _ _ h]
theorem ge_go (T : ST) (g g' : Nat) (b : Int32) : ((u2 (ge T g b).1 130 22 (iN g')), (ge T g b).2.1, (ge T g b).2.2.1, (ge T g b).2.2.2) = ge T g' b := by
  unfold ge; dsimp only
  rw [u2_cm _ 130 24 22 _ _ (by decide), u2_u2]
theorem ge_br (T : ST) (g : Nat) (b b' : Int32) : ((u2 (ge T g b).1 130 24 b'), (ge T g b).2.1, (ge T g b).2.2.1, (ge T g b).2.2.2) = ge T g b' := by
  unfold ge; dsimp only
  rw [u2_u2]
theorem ge_self {T : ST} {g : Nat} {b : Int32} (h1 : T.1 130 22 = iN g) (h2 : T.1 130 24 = b) : ge T g b = T := by
  unfold ge
  have e : u2 (u2 T.1 130 22 (iN g)) 130 24 b = T.1 := by
    funext a j
    by_cases h : a = 130
    · subst h
      by_cases hj : j = 24
      · subst hj; rw [u2_s, h2]
      · rw [u2_k _ _ _ hj]
        by_cases hj' : j = 22
        · subst hj'; rw [u2_s, h1]
        · rw [u2_k _ _ _ hj']
    · rw [u2_n _ _ _ _ h, u2_n _ _ _ _ h]
  rw [e]
theorem ge_ge (T : ST) (g g' : Nat) (b b' : Int32) : ge (ge T g b) g' b' = ge T g' b' := by
  show (u2 (u2 (u2 (u2 T.1 130 22 (iN g)) 130 24 b) 130 22 (iN g')) 130 24 b', _, _, _) = _
  rw [u2_cm _ 130 24 22 _ _ (by decide), u2_u2, u2_u2]
  rfl
/-- the code at a place: 0 behind the end -/
def ec (T : ST) (E k : Nat) : Int32 := if k < E then T.2.1 132 (103 + k) else 0
theorem codeAt_eq (x : XT) (T : ST) (E : Nat) (hE : T.1 130 23 = iN E) (hE2 : E ≤ 2800) (g : Nat) (b : Int32) (k : Nat) (hk : k ≤ 2800) : gfX11_codeAt_130 x (ge T g b) (iN k) = some (ec T E k, ge T g b) := by
  unfold gfX11_codeAt_130 bfX11_codeAt_130_0 bfX11_codeAt_130_21
  rw [ge_o T g b (by decide) (by decide), hE]
  unfold ec
  by_cases h : k < E
  · rw [if_neg (fun h' => by have := (iN_le (by omega) (by omega)).mp h'; omega), if_pos h]
    have e : (103 : Int32) + iN k = iN (103 + k) := iN_add 103 k
    rw [e, inb_t (show 103 + k < 5703 by omega) (by omega), cond_true, iN_nat (by omega), ge_21]
  · rw [if_pos ((iN_le (by omega) (by omega)).mpr (by omega)), if_neg h]
theorem passes_eq (x : XT) (T : ST) (E : Nat) (hE : T.1 130 23 = iN E) (hE2 : E ≤ 2800) (g : Nat) (b : Int32) (hg : g ≤ 2800) (c : Int32) : gfX11_passes0_130 x (ge T g b) c = if ec T E g = c then some (1, ge T (g + 1) b) else some (0, ge T g b) := by
  unfold gfX11_passes0_130 bfX11_passes0_130_0
  rw [ge_22, codeAt_eq x T E hE hE2 g b g hg]
  dsimp only
  unfold bfX11_passes0_130_17 bfX11_passes0_130_32
  by_cases h : ec T E g = c
  · rw [if_neg (fun h' => h' h), if_pos h, if_neg (by decide), ge_22, iN_succ, ge_go]
    rfl
  · rw [if_pos h, if_neg h, if_pos rfl]
    rfl
theorem sign_eq (x : XT) (S : ST) (c : Nat) : gfX11_sign x S (iN c) = some (iN (100 + c), S) := by
  unfold gfX11_sign bfX11_sign_0
  rw [show (100 : Int32) + iN c = iN (100 + c) from iN_add 100 c]
/-- what a walk along a SUM must tell -/
def PS (lv br : Int32) (dv : Option Int32) (r : Int64) (br' : Int32) : Prop :=
  (br' = 0 ∨ br' = 1) ∧ (lv = 1 → br = 0 → match dv with
    | none => br' = 1
    | some v => br' = 0 ∧ r = v.toInt64) ∧ (lv = 0 ∨ br = 1 → br' = br)
theorem bounded_eq (x : XT) (T : ST) (g : Nat) (b lv : Int32) (z : Int64) (hb : b = 0 ∨ b = 1) (hlv : lv = 0 ∨ lv = 1) : ∃ r b', gfX11_bounded_130 x (ge T g b) z lv = some (r, ge T g b') ∧ PS lv b (rg z) r b' := by
  have e1 : (1 : Int32) ≠ 0 := by decide
  unfold gfX11_bounded_130 bfX11_bounded_130_0 bfX11_bounded_130_20 bfX11_bounded_130_25 bfX11_bounded_130_37
  simp only [lg_cmp_gt, lg_cmp_ge, ge_br, ge_24]
  rcases hlv with rfl | rfl
  · rw [if_pos rfl]
    rcases hb with rfl | rfl
    · rw [if_pos rfl]
      exact ⟨_, _, rfl, Or.inl rfl, fun h => absurd h.symm e1, fun _ => rfl⟩
    · rw [if_neg e1]
      exact ⟨_, _, rfl, Or.inr rfl, fun h => absurd h.symm e1, fun _ => rfl⟩
  · rw [if_neg e1]
    by_cases h1 : 1000000000 < z
    · rw [if_pos h1, u2_s, if_neg e1]
      refine ⟨_, _, rfl, Or.inr rfl, fun _ _ => ?_, fun h => h.elim (fun h => absurd h e1) (fun h => h.symm)⟩
      unfold rg
      rw [if_pos (Or.inr h1)]
    · rw [if_neg h1]
      by_cases h2 : -1000000000 ≤ z
      · rw [if_pos h2]
        have hr : rg z = some z.toInt32 := by
          unfold rg
          rw [if_neg (fun h => h.elim (fun h => Int64.not_lt.mpr h2 h) h1)]
        rcases hb with rfl | rfl
        · rw [if_pos rfl]
          refine ⟨_, _, rfl, Or.inl rfl, fun _ _ => ?_, fun _ => rfl⟩
          rw [hr]
          exact ⟨rfl, (rg_64 hr).1.symm⟩
        · rw [if_neg e1]
          exact ⟨_, _, rfl, Or.inr rfl, fun _ h => absurd h e1, fun _ => rfl⟩
      · rw [if_neg h2, u2_s, if_neg e1]
        refine ⟨_, _, rfl, Or.inr rfl, fun _ _ => ?_, fun h => h.elim (fun h => absurd h e1) (fun h => h.symm)⟩
        unfold rg
        rw [if_pos (Or.inl (Int64.not_le.mp h2))]
end REFEV
