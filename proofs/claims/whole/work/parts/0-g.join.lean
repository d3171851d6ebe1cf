section JOIN
/-! what two numbers joined by a sign are; none: BROKEN -/
def rg (z : Int64) : Option Int32 := if z < -1000000000 ∨ 1000000000 < z then none else some z.toInt32
def raw (op : Nat) (l r : Int64) : Int64 :=
  if op = 37 then l - l / r * r else if op = 42 then l * r else if op = 43 then l + r else if op = 45 then l - r else if op = 47 then l / r else if op = 60 then (if l < r then 1 else 0) else if op = 62 then (if r < l then 1 else 0) else (if l = r then 1 else 0)
def jn (op : Nat) (a b : Int32) : Option Int32 := if (op = 47 ∨ op = 37) ∧ b.toInt64 = 0 then none else rg (raw op a.toInt64 b.toInt64)
theorem rg_64 {z : Int64} {c : Int32} (h : rg z = some c) : c.toInt64 = z ∧ ¬ z < -1000000000 ∧ ¬ 1000000000 < z := by
  unfold rg at h
  split at h
  · cases h
  · rename_i hc
    have h1 : ¬ z < -1000000000 := fun q => hc (Or.inl q)
    have h2 : ¬ 1000000000 < z := fun q => hc (Or.inr q)
    cases h
    refine ⟨?_, h1, h2⟩
    apply Int64.toInt_inj.mp
    rw [Int32.toInt_toInt64, Int64.toInt_toInt32]
    rw [Int64.lt_iff_toInt_lt] at h1 h2
    have e1 : (-1000000000 : Int64).toInt = -1000000000 := by decide
    have e2 : (1000000000 : Int64).toInt = 1000000000 := by decide
    rw [e1] at h1
    rw [e2] at h2
    rw [Int.bmod_eq_of_le] <;> omega
theorem rg_nb {z : Int64} {c : Int32} (h : rg z = some c) : ¬ c = -2000000000 := by
  intro e
  obtain ⟨h1, h2, -⟩ := rg_64 h
  subst e
  rw [← h1] at h2
  exact h2 (by decide)
theorem jn_nb {op : Nat} {a b c : Int32} (h : jn op a b = some c) : ¬ c = -2000000000 := by
  unfold jn at h
  split at h
  · cases h
  · exact rg_nb h
theorem j173 (x : XT) (S : ST) (z : Int64) : bfX9_join_173 x S z = some ((rg z).getD (-2000000000), S) := by
  unfold bfX9_join_173 bfX9_join_191 bfX9_join_199
  simp only [lg_cmp_lt, lg_cmp_le]
  unfold rg
  by_cases h1 : z < -1000000000
  · rw [if_pos h1, if_pos (Or.inl h1)]; rfl
  · rw [if_neg h1]
    by_cases h2 : 1000000000 < z
    · rw [if_neg (fun q => Int64.not_lt.mpr q h2), if_pos (Or.inr h2)]; rfl
    · rw [if_pos (Int64.not_lt.mp h2), if_neg (fun q => q.elim h1 h2)]; rfl
theorem join_eq (x : XT) (S : ST) (op : Nat) (hop : op < 1000) (a b : Int32) : gfX9_join x S (iN op) a.toInt64 b.toInt64 = some ((jn op a b).getD (-2000000000), S) := by
  have e : ∀ m, m < 1000 → ((iN op = iN m) = (op = m)) := fun m hm => propext (iN_eq (by omega) (by omega))
  have e37 : (iN op = 37) = (op = 37) := e 37 (by omega)
  have e42 : (iN op = 42) = (op = 42) := e 42 (by omega)
  have e43 : (iN op = 43) = (op = 43) := e 43 (by omega)
  have e45 : (iN op = 45) = (op = 45) := e 45 (by omega)
  have e47 : (iN op = 47) = (op = 47) := e 47 (by omega)
  have e60 : (iN op = 60) = (op = 60) := e 60 (by omega)
  have e62 : (iN op = 62) = (op = 62) := e 62 (by omega)
  unfold gfX9_join bfX9_join_0 bfX9_join_12 bfX9_join_21 bfX9_join_139 bfX9_join_155 bfX9_join_171
  simp only [e37, e42, e43, e45, e47, e60, e62, j173, lg_cmp_ge, lg_cmp_le, lg_cmp_eq]
  unfold jn raw
  by_cases h47 : op = 47
  · subst h47
    by_cases hz : b.toInt64 = 0
    · simp [hz]
    · simp [hz, nzl]
  · by_cases h37 : op = 37
    · subst h37
      by_cases hz : b.toInt64 = 0
      · simp [hz]
      · simp [hz, nzl]
    · simp only [h47, h37, if_false, false_or, false_and, not_false_eq_true, if_true]
      by_cases h42 : op = 42
      · simp [h42]
      · by_cases h43 : op = 43
        · simp [h43]
        · by_cases h45 : op = 45
          · simp [h45]
          · by_cases h60 : op = 60
            · subst h60
              by_cases hl : a.toInt64 < b.toInt64
              · have hl2 : a < b := by simpa using hl
                simp [hl]
                intro h
                exact absurd hl2 (Int32.not_lt.mpr h)
              · simp [hl, Int64.not_lt.mp hl]
            · by_cases h62 : op = 62
              · subst h62
                by_cases hl : b.toInt64 < a.toInt64
                · have hl2 : b < a := by simpa using hl
                  simp [hl]
                  intro h
                  exact absurd hl2 (Int32.not_lt.mpr h)
                · simp [hl, Int64.not_lt.mp hl]
              · by_cases hl : a.toInt64 = b.toInt64
                · simp [h42, h43, h45, h60, h62, hl]
                · simp [h42, h43, h45, h60, h62, hl]
end JOIN
