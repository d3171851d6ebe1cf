section REFSUM
def q0 (x : XT) (D : Nat) : ST → Int32 → Option (Int64 × ST) := fun S z0 => gqX11_sumOf_130 x D 0 S z0 0
def q1 (x : XT) (D : Nat) : ST → Int32 → Option (Int64 × ST) := fun S z0 => gqX11_sumOf_130 x D 1 S z0 0
def q2 (x : XT) (D : Nat) : ST → Int32 → Option (Int64 × ST) := fun S z0 => gqX11_sumOf_130 x D 2 S z0 0
theorem q0_s (x : XT) (D : Nat) (S : ST) (a : Int32) : q0 x (D + 1) S a = bfX11_sumOf_130_0 x (q0 x D) (q1 x D) (q2 x D) S a := rfl
theorem q1_s (x : XT) (D : Nat) (S : ST) (a : Int32) : q1 x (D + 1) S a = bfX11_termOf_130_0 x (q0 x D) (q1 x D) (q2 x D) S a := rfl
theorem q2_s (x : XT) (D : Nat) (S : ST) (a : Int32) : q2 x (D + 1) S a = bfX11_partOf_130_0 x (q0 x D) (q1 x D) (q2 x D) S a := rfl
/-- what the words mean to the reference -/
def HW (x : XT) (o : Bool) (T : ST) (W : Nat → Int32) : Prop := match o with
  | false => T.1 130 25 = 0 ∧ ∀ c, 8 ≤ c → c ≤ 15 → T.2.1 142 (c - 8) = W (lw c)
  | true => T.1 130 25 = 1 ∧ (∀ g b c v, 15 ≤ c → c ≤ 18 → gfX11_orderValue_130 x (ge T g b) (iN c) v = some (W (c - 15), ge T g b)) ∧
    (∀ g b p, p < 5 → gfX11_orderValue_130 x (ge T g b) (iN 14) (iN p) = some (W (4 + p), ge T g b) ∧ gfX11_orderValue_130 x (ge T g b) (iN 19) (iN p) = some (W (9 + p), ge T g b)) ∧
    (∀ g b p, p < 10 → gfX11_orderValue_130 x (ge T g b) (iN 13) (iN p) = some (W (14 + p), ge T g b))
theorem p100 {x : XT} {A B C : ST → Int32 → Option (Int64 × ST)} {T : ST} {g : Nat} {br lv c k v : Int32} (hb : br = 0 ∨ br = 1) (hlv : lv = 0 ∨ lv = 1) (h : lv = 1 → br = 0 → bfX11_partOf_130_100 x A B C (ge T g br) lv c k = some (v.toInt64, ge T g br)) : ∃ r br', bfX11_partOf_130_100 x A B C (ge T g br) lv c k = some (r, ge T g br') ∧ PS lv br (some v) r br' := by
  rcases hlv with rfl | rfl
  · refine ⟨0, br, ?_, hb, fun h => absurd h (by decide), fun _ => rfl⟩
    unfold bfX11_partOf_130_100 bfX11_partOf_130_111
    rw [if_pos rfl]
  · rcases hb with rfl | rfl
    · exact ⟨_, _, h rfl rfl, Or.inl rfl, fun _ _ => ⟨rfl, rfl⟩, fun _ => rfl⟩
    · refine ⟨0, 1, ?_, Or.inr rfl, fun _ h => absurd h (by decide), fun _ => rfl⟩
      unfold bfX11_partOf_130_100 bfX11_partOf_130_111
      rw [if_neg (by decide), ge_24, if_neg (by decide)]
theorem ec_lt {T : ST} {E k : Nat} (h : k < E) : ec T E k = T.2.1 132 (103 + k) := by unfold ec; rw [if_pos h]
set_option maxRecDepth 4000 in
theorem part_leaf (x : XT) (A B C : ST → Int32 → Option (Int64 × ST)) (o : Bool) (T : ST) (W : Nat → Int32) (hW : HW x o T W) (E : Nat) (hE : T.1 130 23 = iN E) (hE2 : E ≤ 2800) (i j : Nat) (hj : j ≤ E) (br lv : Int32) (hb : br = 0 ∨ br = 1) (hlv : lv = 0 ∨ lv = 1) (v : Int32)
    (h : (T.2.1 132 (103 + i) = iN 50 ∧ j = i + 1 ∧ T.2.1 132 (2903 + i) = v) ∨ ∃ w, WD o (fun k => T.2.1 132 (103 + k)) (fun k => T.2.1 132 (2903 + k)) i j w ∧ v = W w) : ∃ r br', bfX11_partOf_130_0 x A B C (ge T i br) lv = some (r, ge T j br') ∧ PS lv br (some v) r br' := by
  have nn : ∀ m n : Nat, m < 1000 → n < 1000 → m ≠ n → ¬ iN m = iN n := fun m n hm hn h e => h ((iN_eq (by omega) (by omega)).mp e)
  have n13 : ∀ c : Nat, c < 1000 → c ≠ 13 → ¬ iN c = (13 : Int32) := fun c hc h => nn c 13 hc (by omega) h
  have n14 : ∀ c : Nat, c < 1000 → c ≠ 14 → ¬ iN c = (14 : Int32) := fun c hc h => nn c 14 hc (by omega) h
  have n19 : ∀ c : Nat, c < 1000 → c ≠ 19 → ¬ iN c = (19 : Int32) := fun c hc h => nn c 19 hc (by omega) h
  have n50 : ∀ c : Nat, c < 1000 → c ≠ 50 → ¬ iN c = (50 : Int32) := fun c hc h => nn c 50 hc (by omega) h
  have start : ∀ c, c < 100 → i < E → T.2.1 132 (103 + i) = iN c → bfX11_partOf_130_0 x A B C (ge T i br) lv = (if T.1 130 25 = 0 then (bfX11_partOf_130_100 x A B C (ge T (i + 1) br) lv (iN c) 0) else (if iN c = 13 then (bfX11_partOf_130_76 x A B C (ge T (i + 1) br) lv (iN c)) else (if iN c = 14 then (bfX11_partOf_130_76 x A B C (ge T (i + 1) br) lv (iN c)) else (if ¬ iN c = 19 then (bfX11_partOf_130_100 x A B C (ge T (i + 1) br) lv (iN c) 0) else (bfX11_partOf_130_76 x A B C (ge T (i + 1) br) lv (iN c)))))) := by
    intro c hc hi he
    have e1 : ec T E i = iN c := (ec_lt hi).trans he
    unfold bfX11_partOf_130_0
    rw [show (91 : Int32) = iN 91 from rfl, sign_eq]
    dsimp only
    rw [passes_eq x T E hE hE2 i br (by omega), e1, if_neg (nn c (100 + 91) (by omega) (by omega) (by omega))]
    dsimp only
    rw [if_pos rfl, ge_22, codeAt_eq x T E hE hE2 i br i (by omega), e1]
    dsimp only
    rw [ge_o T i br (by decide) (by decide), ge_22, iN_succ, ge_go]
  have h76 : ∀ c k : Nat, i + 1 < E → T.2.1 132 (2903 + (i + 1)) = iN k → bfX11_partOf_130_76 x A B C (ge T (i + 1) br) lv (iN c) = bfX11_partOf_130_100 x A B C (ge T (i + 2) br) lv (iN c) (iN k) := by
    intro c k hi hk
    unfold bfX11_partOf_130_76
    rw [ge_22, show (2903 : Int32) + iN (i + 1) = iN (2903 + (i + 1)) from iN_add 2903 (i + 1), inb_t (show 2903 + (i + 1) < 5703 by omega) (by omega), cond_true, iN_nat (by omega), iN_succ, ge_go, ge_21, hk]
  rcases h with ⟨h1, rfl, h3⟩ | ⟨w, hw, rfl⟩
  · rw [start 50 (by omega) (by omega) h1]
    have key : ∃ r br', bfX11_partOf_130_100 x A B C (ge T (i + 1) br) lv (iN 50) 0 = some (r, ge T (i + 1) br') ∧ PS lv br (some v) r br' := by
      refine p100 hb hlv (fun e1 e2 => ?_)
      subst e1; subst e2
      unfold bfX11_partOf_130_100
      rw [if_neg (by decide), ge_24, if_pos rfl, if_neg (fun h => h rfl), ge_22]
      have e : (2903 : Int32) + iN (i + 1) - 1 = iN (2903 + i) := by
        rw [show (2903 : Int32) + iN (i + 1) = iN (2903 + (i + 1)) from iN_add 2903 (i + 1)]
        exact iN_sub (m := 2903 + (i + 1)) (n := 1) (by omega)
      rw [e, inb_t (show 2903 + i < 5703 by omega) (by omega), cond_true, iN_nat (by omega), ge_21, h3]
    by_cases ho : T.1 130 25 = 0
    · rw [if_pos ho]; exact key
    · rw [if_neg ho, if_neg (n13 50 (by omega) (by omega)), if_neg (n14 50 (by omega) (by omega)), if_pos (n19 50 (by omega) (by omega))]
      exact key
  · cases o with
    | false =>
      obtain ⟨c, h1, h2, h3, rfl, rfl⟩ := hw
      obtain ⟨w1, w2⟩ := hW
      rw [start c (by omega) (by omega) h3, if_pos w1]
      refine p100 hb hlv (fun e1 e2 => ?_)
      subst e1; subst e2
      unfold bfX11_partOf_130_100 bfX11_partOf_130_163
      rw [if_neg (by decide), ge_24, if_pos rfl, if_pos (n50 c (by omega) (by omega)), ge_o T _ _ (by decide) (by decide), if_pos w1]
      have e : iN c - 8 = iN (c - 8) := iN_sub (n := 8) h1
      rw [e, inb_t (show c - 8 < 8 by omega) (by omega), cond_true, iN_nat (by omega), ge_21, w2 c h1 h2]
    | true =>
      obtain ⟨w1, w2, w3, w4⟩ := hW
      have ho : ¬ T.1 130 25 = 0 := by rw [w1]; decide
      have val : ∀ (g c : Nat) (k : Int32) (u : Int32), c < 50 → gfX11_orderValue_130 x (ge T g 0) (iN c) k = some (u, ge T g 0) → ∃ r br', bfX11_partOf_130_100 x A B C (ge T g br) lv (iN c) k = some (r, ge T g br') ∧ PS lv br (some u) r br' := by
        intro g c k u hc hu
        refine p100 hb hlv (fun e1 e2 => ?_)
        subst e1; subst e2
        unfold bfX11_partOf_130_100 bfX11_partOf_130_163
        rw [if_neg (by decide), ge_24, if_pos rfl, if_pos (n50 c (by omega) (by omega)), ge_o T _ _ (by decide) (by decide), if_neg ho, hu]
      rcases hw with ⟨c, h1, h2, h3, rfl, rfl⟩ | ⟨h1, rfl, ⟨p, h3, h4, ⟨h5, rfl⟩ | ⟨h5, rfl⟩⟩ | ⟨p, h3, h4, h5, rfl⟩⟩
      · rw [start c (by omega) (by omega) h3, if_neg ho, if_neg (n13 c (by omega) (by omega)), if_neg (n14 c (by omega) (by omega)), if_pos (n19 c (by omega) (by omega))]
        exact val _ c 0 _ (by omega) (w2 _ _ c 0 h1 h2)
      · rw [start 14 (by omega) (by omega) h5, if_neg ho, if_neg (n13 14 (by omega) (by omega)), if_pos (show iN 14 = 14 from rfl), h76 14 p (by omega) h4]
        exact val _ 14 (iN p) _ (by omega) (w3 _ _ p h3).1
      · rw [start 19 (by omega) (by omega) h5, if_neg ho, if_neg (n13 19 (by omega) (by omega)), if_neg (n14 19 (by omega) (by omega)), if_neg (fun h => h (show iN 19 = 19 from rfl)), h76 19 p (by omega) h4]
        exact val _ 19 (iN p) _ (by omega) (w3 _ _ p h3).2
      · rw [start 13 (by omega) (by omega) h5, if_neg ho, if_pos (show iN 13 = 13 from rfl), h76 13 p (by omega) h4]
        exact val _ 13 (iN p) _ (by omega) (w4 _ _ p h3)
end REFSUM
