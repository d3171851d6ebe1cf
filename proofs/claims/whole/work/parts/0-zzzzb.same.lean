section SAME
theorem i_bfX11_lies_15 (x y : XT) : bfX11_lies_15 x = bfX11_lies_15 y := by
  funext a0 a1
  unfold bfX11_lies_15
  rfl
theorem i_bfX11_lies_14 (x y : XT) : bfX11_lies_14 x = bfX11_lies_14 y := by
  funext a0
  unfold bfX11_lies_14
  rw [i_bfX11_lies_15 x y]
theorem i_bfX11_lies_0 (x y : XT) : bfX11_lies_0 x = bfX11_lies_0 y := by
  funext a0 a1 a2 a3
  unfold bfX11_lies_0
  rw [i_bfX11_lies_14 x y, i_bfX11_lies_15 x y]
theorem i_gfX11_lies (x y : XT) : gfX11_lies x = gfX11_lies y := by
  funext a0 a1 a2 a3
  unfold gfX11_lies
  rw [i_bfX11_lies_0 x y]
theorem i_bfX11_refuses_130_0 (x y : XT) : bfX11_refuses_130_0 x = bfX11_refuses_130_0 y := by
  funext a0 a1
  unfold bfX11_refuses_130_0
  rfl
theorem i_gfX11_refuses_130 (x y : XT) : gfX11_refuses_130 x = gfX11_refuses_130 y := by
  funext a0 a1
  unfold gfX11_refuses_130
  rw [i_bfX11_refuses_130_0 x y]
theorem i_bfX11_good_130_0 (x y : XT) : bfX11_good_130_0 x = bfX11_good_130_0 y := by
  funext a0 a1
  unfold bfX11_good_130_0
  rfl
theorem i_gfX11_good_130 (x y : XT) : gfX11_good_130 x = gfX11_good_130 y := by
  funext a0 a1
  unfold gfX11_good_130
  rw [i_bfX11_good_130_0 x y]
theorem i_bfX11_sign_0 (x y : XT) : bfX11_sign_0 x = bfX11_sign_0 y := by
  funext a0 a1
  unfold bfX11_sign_0
  rfl
theorem i_gfX11_sign (x y : XT) : gfX11_sign x = gfX11_sign y := by
  funext a0 a1
  unfold gfX11_sign
  rw [i_bfX11_sign_0 x y]
theorem i_bfX11_isSmall_17 (x y : XT) : bfX11_isSmall_17 x = bfX11_isSmall_17 y := by
  funext a0 a1
  unfold bfX11_isSmall_17
  rfl
theorem i_bfX11_isSmall_16 (x y : XT) : bfX11_isSmall_16 x = bfX11_isSmall_16 y := by
  funext a0
  unfold bfX11_isSmall_16
  rw [i_bfX11_isSmall_17 x y]
theorem i_bfX11_isSmall_0 (x y : XT) : bfX11_isSmall_0 x = bfX11_isSmall_0 y := by
  funext a0 a1
  unfold bfX11_isSmall_0
  rw [i_bfX11_isSmall_16 x y, i_bfX11_isSmall_17 x y]
theorem i_gfX11_isSmall (x y : XT) : gfX11_isSmall x = gfX11_isSmall y := by
  funext a0 a1
  unfold gfX11_isSmall
  rw [i_bfX11_isSmall_0 x y]
theorem i_bfX11_isDigit_17 (x y : XT) : bfX11_isDigit_17 x = bfX11_isDigit_17 y := by
  funext a0 a1
  unfold bfX11_isDigit_17
  rfl
theorem i_bfX11_isDigit_16 (x y : XT) : bfX11_isDigit_16 x = bfX11_isDigit_16 y := by
  funext a0
  unfold bfX11_isDigit_16
  rw [i_bfX11_isDigit_17 x y]
theorem i_bfX11_isDigit_0 (x y : XT) : bfX11_isDigit_0 x = bfX11_isDigit_0 y := by
  funext a0 a1
  unfold bfX11_isDigit_0
  rw [i_bfX11_isDigit_16 x y, i_bfX11_isDigit_17 x y]
theorem i_gfX11_isDigit (x y : XT) : gfX11_isDigit x = gfX11_isDigit y := by
  funext a0 a1
  unfold gfX11_isDigit
  rw [i_bfX11_isDigit_0 x y]
theorem i_bfX11_wordOf_130_104 (x y : XT) : bfX11_wordOf_130_104 x = bfX11_wordOf_130_104 y := by
  funext a0 a1 a2 a3 a4 a5 a6 a7
  unfold bfX11_wordOf_130_104
  rfl
theorem i_bfX11_wordOf_130_96 (x y : XT) : bfX11_wordOf_130_96 x = bfX11_wordOf_130_96 y := by
  funext a0 a1 a2 a3 a4 a5 a6 a7 a8 a9
  unfold bfX11_wordOf_130_96
  rfl
theorem i_bfX11_wordOf_130_57 (x y : XT) : bfX11_wordOf_130_57 x = bfX11_wordOf_130_57 y := by
  funext a0 a1 a2 a3 a4 a5 a6 a7 a8 a9
  unfold bfX11_wordOf_130_57
  rw [i_bfX11_wordOf_130_104 x y, i_bfX11_wordOf_130_96 x y]
theorem i_lfX11_wordOf_130_57 (x y : XT) (k5 : ST → Int32 → Int32 → Int32 → Int32 → Option (Int32 × ST)) : ∀ n, lfX11_wordOf_130_57 x k5 n = lfX11_wordOf_130_57 y k5 n
  | 0 => rfl
  | n + 1 => by
    funext S v1 v2 v3 v4 v5 v6 v7
    show bfX11_wordOf_130_57 x k5 (lfX11_wordOf_130_57 x k5 n) S v1 v2 v3 v4 v5 v6 v7 = bfX11_wordOf_130_57 y k5 (lfX11_wordOf_130_57 y k5 n) S v1 v2 v3 v4 v5 v6 v7
    rw [i_lfX11_wordOf_130_57 x y k5 n, i_bfX11_wordOf_130_57 x y]
theorem i_bfX11_wordOf_130_52 (x y : XT) : bfX11_wordOf_130_52 x = bfX11_wordOf_130_52 y := by
  funext a0 a1 a2 a3 a4 a5 a6 a7
  unfold bfX11_wordOf_130_52
  rw [i_lfX11_wordOf_130_57 x y]
theorem i_bfX11_wordOf_130_18 (x y : XT) : bfX11_wordOf_130_18 x = bfX11_wordOf_130_18 y := by
  funext a0 a1 a2 a3 a4 a5 a6 a7
  unfold bfX11_wordOf_130_18
  rw [i_bfX11_wordOf_130_52 x y]
theorem i_lfX11_wordOf_130_18 (x y : XT) (k5 : ST → Int32 → Int32 → Int32 → Int32 → Option (Int32 × ST)) : ∀ n, lfX11_wordOf_130_18 x k5 n = lfX11_wordOf_130_18 y k5 n
  | 0 => rfl
  | n + 1 => by
    funext S v1 v2 v3 v4 v5
    show bfX11_wordOf_130_18 x k5 (lfX11_wordOf_130_18 x k5 n) S v1 v2 v3 v4 v5 = bfX11_wordOf_130_18 y k5 (lfX11_wordOf_130_18 y k5 n) S v1 v2 v3 v4 v5
    rw [i_lfX11_wordOf_130_18 x y k5 n, i_bfX11_wordOf_130_18 x y]
theorem i_bfX11_wordOf_130_5 (x y : XT) : bfX11_wordOf_130_5 x = bfX11_wordOf_130_5 y := by
  funext a0 a1 a2 a3 a4 a5
  unfold bfX11_wordOf_130_5
  rw [i_lfX11_wordOf_130_18 x y]
theorem i_lfX11_wordOf_130_5 (x y : XT) : ∀ n, lfX11_wordOf_130_5 x  n = lfX11_wordOf_130_5 y  n
  | 0 => rfl
  | n + 1 => by
    funext S v1 v2 v3 v4
    show bfX11_wordOf_130_5 x (lfX11_wordOf_130_5 x  n) S v1 v2 v3 v4 = bfX11_wordOf_130_5 y (lfX11_wordOf_130_5 y  n) S v1 v2 v3 v4
    rw [i_lfX11_wordOf_130_5 x y  n, i_bfX11_wordOf_130_5 x y]
theorem i_bfX11_wordOf_130_0 (x y : XT) : bfX11_wordOf_130_0 x = bfX11_wordOf_130_0 y := by
  funext a0 a1 a2
  unfold bfX11_wordOf_130_0
  rw [i_lfX11_wordOf_130_5 x y]
theorem i_gfX11_wordOf_130 (x y : XT) : gfX11_wordOf_130 x = gfX11_wordOf_130 y := by
  funext a0 a1 a2
  unfold gfX11_wordOf_130
  rw [i_bfX11_wordOf_130_0 x y]
theorem i_bfX11_splits_130_247 (x y : XT) : bfX11_splits_130_247 x = bfX11_splits_130_247 y := by
  funext a0 a1 a2 a3
  unfold bfX11_splits_130_247
  rfl
theorem i_bfX11_splits_130_240 (x y : XT) : bfX11_splits_130_240 x = bfX11_splits_130_240 y := by
  funext a0 a1 a2 a3 a4 a5 a6 a7 a8
  unfold bfX11_splits_130_240
  rfl
theorem i_bfX11_splits_130_169 (x y : XT) : bfX11_splits_130_169 x = bfX11_splits_130_169 y := by
  funext a0 a1 a2 a3 a4 a5 a6
  unfold bfX11_splits_130_169
  rw [i_bfX11_splits_130_247 x y, i_gfX11_isDigit x y, i_bfX11_splits_130_240 x y]
theorem i_lfX11_splits_130_169 (x y : XT) (k7 : ST → Int32 → Int32 → Option (Unit × ST)) : ∀ n, lfX11_splits_130_169 x k7 n = lfX11_splits_130_169 y k7 n
  | 0 => rfl
  | n + 1 => by
    funext S v1 v3 v4 v5
    show bfX11_splits_130_169 x k7 (lfX11_splits_130_169 x k7 n) S v1 v3 v4 v5 = bfX11_splits_130_169 y k7 (lfX11_splits_130_169 y k7 n) S v1 v3 v4 v5
    rw [i_lfX11_splits_130_169 x y k7 n, i_bfX11_splits_130_169 x y]
theorem i_bfX11_splits_130_165 (x y : XT) : bfX11_splits_130_165 x = bfX11_splits_130_165 y := by
  funext a0 a1 a2 a3 a4 a5 a6 a7
  unfold bfX11_splits_130_165
  rw [i_lfX11_splits_130_169 x y]
theorem i_bfX11_splits_130_100 (x y : XT) : bfX11_splits_130_100 x = bfX11_splits_130_100 y := by
  funext a0 a1 a2 a3 a4 a5
  unfold bfX11_splits_130_100
  rw [i_gfX11_isSmall x y, i_gfX11_isDigit x y, i_bfX11_splits_130_165 x y, i_gfX11_wordOf_130 x y]
theorem i_bfX11_splits_130_75 (x y : XT) : bfX11_splits_130_75 x = bfX11_splits_130_75 y := by
  funext a0 a1 a2 a3 a4 a5 a6
  unfold bfX11_splits_130_75
  rw [i_bfX11_splits_130_100 x y, i_gfX11_isDigit x y]
theorem i_lfX11_splits_130_75 (x y : XT) (k7 : ST → Int32 → Int32 → Option (Unit × ST)) : ∀ n, lfX11_splits_130_75 x k7 n = lfX11_splits_130_75 y k7 n
  | 0 => rfl
  | n + 1 => by
    funext S v1 v2 v3 v4
    show bfX11_splits_130_75 x k7 (lfX11_splits_130_75 x k7 n) S v1 v2 v3 v4 = bfX11_splits_130_75 y k7 (lfX11_splits_130_75 y k7 n) S v1 v2 v3 v4
    rw [i_lfX11_splits_130_75 x y k7 n, i_bfX11_splits_130_75 x y]
theorem i_bfX11_splits_130_68 (x y : XT) : bfX11_splits_130_68 x = bfX11_splits_130_68 y := by
  funext a0 a1 a2 a3 a4 a5
  unfold bfX11_splits_130_68
  rw [i_gfX11_isDigit x y, i_bfX11_splits_130_100 x y, i_lfX11_splits_130_75 x y]
theorem i_bfX11_splits_130_43 (x y : XT) : bfX11_splits_130_43 x = bfX11_splits_130_43 y := by
  funext a0 a1 a2 a3 a4 a5 a6
  unfold bfX11_splits_130_43
  rw [i_bfX11_splits_130_68 x y, i_gfX11_isSmall x y]
theorem i_lfX11_splits_130_43 (x y : XT) (k7 : ST → Int32 → Int32 → Option (Unit × ST)) : ∀ n, lfX11_splits_130_43 x k7 n = lfX11_splits_130_43 y k7 n
  | 0 => rfl
  | n + 1 => by
    funext S v1 v2 v3 v4
    show bfX11_splits_130_43 x k7 (lfX11_splits_130_43 x k7 n) S v1 v2 v3 v4 = bfX11_splits_130_43 y k7 (lfX11_splits_130_43 y k7 n) S v1 v2 v3 v4
    rw [i_lfX11_splits_130_43 x y k7 n, i_bfX11_splits_130_43 x y]
theorem i_bfX11_splits_130_7 (x y : XT) : bfX11_splits_130_7 x = bfX11_splits_130_7 y := by
  funext a0 a1 a2 a3
  unfold bfX11_splits_130_7
  rw [i_gfX11_isSmall x y, i_bfX11_splits_130_68 x y, i_lfX11_splits_130_43 x y]
theorem i_lfX11_splits_130_7 (x y : XT) : ∀ n, lfX11_splits_130_7 x  n = lfX11_splits_130_7 y  n
  | 0 => rfl
  | n + 1 => by
    funext S v1 v2
    show bfX11_splits_130_7 x (lfX11_splits_130_7 x  n) S v1 v2 = bfX11_splits_130_7 y (lfX11_splits_130_7 y  n) S v1 v2
    rw [i_lfX11_splits_130_7 x y  n, i_bfX11_splits_130_7 x y]
theorem i_bfX11_splits_130_0 (x y : XT) : bfX11_splits_130_0 x = bfX11_splits_130_0 y := by
  funext a0 a1
  unfold bfX11_splits_130_0
  rw [i_lfX11_splits_130_7 x y]
theorem i_gfX11_splits_130 (x y : XT) : gfX11_splits_130 x = gfX11_splits_130 y := by
  funext a0 a1
  unfold gfX11_splits_130
  rw [i_bfX11_splits_130_0 x y]
theorem i_bfX11_fine_130_13 (x y : XT) : bfX11_fine_130_13 x = bfX11_fine_130_13 y := by
  funext a0 a1
  unfold bfX11_fine_130_13
  rfl
theorem i_bfX11_fine_130_0 (x y : XT) : bfX11_fine_130_0 x = bfX11_fine_130_0 y := by
  funext a0
  unfold bfX11_fine_130_0
  rw [i_bfX11_fine_130_13 x y]
theorem i_gfX11_fine_130 (x y : XT) : gfX11_fine_130 x = gfX11_fine_130 y := by
  funext a0
  unfold gfX11_fine_130
  rw [i_bfX11_fine_130_0 x y]
theorem i_bfX11_faults_130_20 (x y : XT) : bfX11_faults_130_20 x = bfX11_faults_130_20 y := by
  funext a0
  unfold bfX11_faults_130_20
  rfl
theorem i_bfX11_faults_130_0 (x y : XT) : bfX11_faults_130_0 x = bfX11_faults_130_0 y := by
  funext a0
  unfold bfX11_faults_130_0
  rw [i_gfX11_fine_130 x y, i_bfX11_faults_130_20 x y]
theorem i_gfX11_faults_130 (x y : XT) : gfX11_faults_130 x = gfX11_faults_130 y := by
  funext a0
  unfold gfX11_faults_130
  rw [i_bfX11_faults_130_0 x y]
theorem i_bfX11_takes0_130_40 (x y : XT) : bfX11_takes0_130_40 x = bfX11_takes0_130_40 y := by
  funext a0 a1
  unfold bfX11_takes0_130_40
  rfl
theorem i_bfX11_takes0_130_25 (x y : XT) : bfX11_takes0_130_25 x = bfX11_takes0_130_25 y := by
  funext a0 a1
  unfold bfX11_takes0_130_25
  rw [i_bfX11_takes0_130_40 x y]
theorem i_bfX11_takes0_130_24 (x y : XT) : bfX11_takes0_130_24 x = bfX11_takes0_130_24 y := by
  funext a0
  unfold bfX11_takes0_130_24
  rw [i_bfX11_takes0_130_25 x y]
theorem i_bfX11_takes0_130_0 (x y : XT) : bfX11_takes0_130_0 x = bfX11_takes0_130_0 y := by
  funext a0 a1
  unfold bfX11_takes0_130_0
  rw [i_gfX11_fine_130 x y, i_bfX11_takes0_130_24 x y, i_bfX11_takes0_130_25 x y]
theorem i_gfX11_takes0_130 (x y : XT) : gfX11_takes0_130 x = gfX11_takes0_130 y := by
  funext a0 a1
  unfold gfX11_takes0_130
  rw [i_bfX11_takes0_130_0 x y]
theorem i_bfX11_must_130_12 (x y : XT) : bfX11_must_130_12 x = bfX11_must_130_12 y := by
  funext a0
  unfold bfX11_must_130_12
  rfl
theorem i_bfX11_must_130_0 (x y : XT) : bfX11_must_130_0 x = bfX11_must_130_0 y := by
  funext a0 a1
  unfold bfX11_must_130_0
  rw [i_gfX11_takes0_130 x y, i_bfX11_must_130_12 x y, i_gfX11_faults_130 x y]
theorem i_gfX11_must_130 (x y : XT) : gfX11_must_130 x = gfX11_must_130 y := by
  funext a0 a1
  unfold gfX11_must_130
  rw [i_bfX11_must_130_0 x y]
theorem i_bfX11_leaf_130_40 (x y : XT) : bfX11_leaf_130_40 x = bfX11_leaf_130_40 y := by
  funext a0
  unfold bfX11_leaf_130_40
  rfl
theorem i_bfX11_leaf_130_13 (x y : XT) : bfX11_leaf_130_13 x = bfX11_leaf_130_13 y := by
  funext a0
  unfold bfX11_leaf_130_13
  rw [i_gfX11_fine_130 x y, i_bfX11_leaf_130_40 x y]
theorem i_bfX11_leaf_130_0 (x y : XT) : bfX11_leaf_130_0 x = bfX11_leaf_130_0 y := by
  funext a0
  unfold bfX11_leaf_130_0
  rw [i_bfX11_leaf_130_13 x y, i_gfX11_faults_130 x y]
theorem i_gfX11_leaf_130 (x y : XT) : gfX11_leaf_130 x = gfX11_leaf_130 y := by
  funext a0
  unfold gfX11_leaf_130
  rw [i_bfX11_leaf_130_0 x y]
theorem i_bfX11_mustNumber_130_59 (x y : XT) : bfX11_mustNumber_130_59 x = bfX11_mustNumber_130_59 y := by
  funext a0
  unfold bfX11_mustNumber_130_59
  rfl
theorem i_bfX11_mustNumber_130_42 (x y : XT) : bfX11_mustNumber_130_42 x = bfX11_mustNumber_130_42 y := by
  funext a0
  unfold bfX11_mustNumber_130_42
  rw [i_gfX11_fine_130 x y, i_bfX11_mustNumber_130_59 x y]
theorem i_bfX11_mustNumber_130_38 (x y : XT) : bfX11_mustNumber_130_38 x = bfX11_mustNumber_130_38 y := by
  funext a0
  unfold bfX11_mustNumber_130_38
  rw [i_gfX11_faults_130 x y, i_bfX11_mustNumber_130_42 x y]
theorem i_bfX11_mustNumber_130_0 (x y : XT) : bfX11_mustNumber_130_0 x = bfX11_mustNumber_130_0 y := by
  funext a0 a1 a2
  unfold bfX11_mustNumber_130_0
  rw [i_gfX11_fine_130 x y, i_bfX11_mustNumber_130_42 x y, i_bfX11_mustNumber_130_38 x y, i_gfX11_lies x y]
theorem i_gfX11_mustNumber_130 (x y : XT) : gfX11_mustNumber_130 x = gfX11_mustNumber_130 y := by
  funext a0 a1 a2
  unfold gfX11_mustNumber_130
  rw [i_bfX11_mustNumber_130_0 x y]
theorem i_bfX11_readSum_130_29 (x y : XT) : bfX11_readSum_130_29 x = bfX11_readSum_130_29 y := by
  funext a0 a1 a2 a3 a4 a5
  unfold bfX11_readSum_130_29
  rfl
theorem i_bfX11_readSum_130_5 (x y : XT) : bfX11_readSum_130_5 x = bfX11_readSum_130_5 y := by
  funext a0 a1 a2 a3 a4 a5
  unfold bfX11_readSum_130_5
  rw [i_gfX11_sign x y, i_gfX11_takes0_130 x y, i_bfX11_readSum_130_29 x y]
theorem i_lfX11_readSum_130_5 (x y : XT) (rec_X11_readSum : ST → Int32 → Option (Unit × ST)) (rec_X11_readTerm : ST → Int32 → Option (Unit × ST)) (rec_X11_readPart : ST → Int32 → Option (Unit × ST)) : ∀ n, lfX11_readSum_130_5 x rec_X11_readSum rec_X11_readTerm rec_X11_readPart n = lfX11_readSum_130_5 y rec_X11_readSum rec_X11_readTerm rec_X11_readPart n
  | 0 => rfl
  | n + 1 => by
    funext S v1
    show bfX11_readSum_130_5 x rec_X11_readSum rec_X11_readTerm rec_X11_readPart (lfX11_readSum_130_5 x rec_X11_readSum rec_X11_readTerm rec_X11_readPart  n) S v1 = bfX11_readSum_130_5 y rec_X11_readSum rec_X11_readTerm rec_X11_readPart (lfX11_readSum_130_5 y rec_X11_readSum rec_X11_readTerm rec_X11_readPart  n) S v1
    rw [i_lfX11_readSum_130_5 x y rec_X11_readSum rec_X11_readTerm rec_X11_readPart n, i_bfX11_readSum_130_5 x y]
theorem i_bfX11_readSum_130_0 (x y : XT) : bfX11_readSum_130_0 x = bfX11_readSum_130_0 y := by
  funext a0 a1 a2 a3 a4
  unfold bfX11_readSum_130_0
  rw [i_lfX11_readSum_130_5 x y]
theorem i_grfX11_readSum_130 (x y : XT) : grfX11_readSum_130 x = grfX11_readSum_130 y := by
  funext a0 a1 a2 a3 a4
  unfold grfX11_readSum_130
  rw [i_bfX11_readSum_130_0 x y]
theorem i_bfX11_readTerm_130_41 (x y : XT) : bfX11_readTerm_130_41 x = bfX11_readTerm_130_41 y := by
  funext a0 a1 a2 a3 a4 a5
  unfold bfX11_readTerm_130_41
  rfl
theorem i_bfX11_readTerm_130_5 (x y : XT) : bfX11_readTerm_130_5 x = bfX11_readTerm_130_5 y := by
  funext a0 a1 a2 a3 a4 a5
  unfold bfX11_readTerm_130_5
  rw [i_gfX11_sign x y, i_gfX11_takes0_130 x y, i_bfX11_readTerm_130_41 x y]
theorem i_lfX11_readTerm_130_5 (x y : XT) (rec_X11_readSum : ST → Int32 → Option (Unit × ST)) (rec_X11_readTerm : ST → Int32 → Option (Unit × ST)) (rec_X11_readPart : ST → Int32 → Option (Unit × ST)) : ∀ n, lfX11_readTerm_130_5 x rec_X11_readSum rec_X11_readTerm rec_X11_readPart n = lfX11_readTerm_130_5 y rec_X11_readSum rec_X11_readTerm rec_X11_readPart n
  | 0 => rfl
  | n + 1 => by
    funext S v1
    show bfX11_readTerm_130_5 x rec_X11_readSum rec_X11_readTerm rec_X11_readPart (lfX11_readTerm_130_5 x rec_X11_readSum rec_X11_readTerm rec_X11_readPart  n) S v1 = bfX11_readTerm_130_5 y rec_X11_readSum rec_X11_readTerm rec_X11_readPart (lfX11_readTerm_130_5 y rec_X11_readSum rec_X11_readTerm rec_X11_readPart  n) S v1
    rw [i_lfX11_readTerm_130_5 x y rec_X11_readSum rec_X11_readTerm rec_X11_readPart n, i_bfX11_readTerm_130_5 x y]
theorem i_bfX11_readTerm_130_0 (x y : XT) : bfX11_readTerm_130_0 x = bfX11_readTerm_130_0 y := by
  funext a0 a1 a2 a3 a4
  unfold bfX11_readTerm_130_0
  rw [i_lfX11_readTerm_130_5 x y]
theorem i_grfX11_readTerm_130 (x y : XT) : grfX11_readTerm_130 x = grfX11_readTerm_130 y := by
  funext a0 a1 a2 a3 a4
  unfold grfX11_readTerm_130
  rw [i_bfX11_readTerm_130_0 x y]
theorem i_bfX11_readPart_130_167 (x y : XT) : bfX11_readPart_130_167 x = bfX11_readPart_130_167 y := by
  funext a0 a1 a2 a3
  unfold bfX11_readPart_130_167
  rfl
theorem i_bfX11_readPart_130_163 (x y : XT) : bfX11_readPart_130_163 x = bfX11_readPart_130_163 y := by
  funext a0 a1 a2 a3
  unfold bfX11_readPart_130_163
  rw [i_gfX11_faults_130 x y, i_bfX11_readPart_130_167 x y]
theorem i_bfX11_readPart_130_154 (x y : XT) : bfX11_readPart_130_154 x = bfX11_readPart_130_154 y := by
  funext a0 a1 a2 a3
  unfold bfX11_readPart_130_154
  rw [i_gfX11_mustNumber_130 x y, i_bfX11_readPart_130_167 x y]
theorem i_bfX11_readPart_130_135 (x y : XT) : bfX11_readPart_130_135 x = bfX11_readPart_130_135 y := by
  funext a0 a1 a2 a3 a4
  unfold bfX11_readPart_130_135
  rw [i_bfX11_readPart_130_167 x y, i_bfX11_readPart_130_154 x y]
theorem i_bfX11_readPart_130_111 (x y : XT) : bfX11_readPart_130_111 x = bfX11_readPart_130_111 y := by
  funext a0 a1 a2 a3 a4
  unfold bfX11_readPart_130_111
  rw [i_gfX11_leaf_130 x y, i_bfX11_readPart_130_135 x y, i_gfX11_mustNumber_130 x y]
theorem i_bfX11_readPart_130_95 (x y : XT) : bfX11_readPart_130_95 x = bfX11_readPart_130_95 y := by
  funext a0 a1 a2 a3 a4
  unfold bfX11_readPart_130_95
  rw [i_bfX11_readPart_130_163 x y, i_bfX11_readPart_130_111 x y]
theorem i_bfX11_readPart_130_37 (x y : XT) : bfX11_readPart_130_37 x = bfX11_readPart_130_37 y := by
  funext a0 a1 a2 a3 a4
  unfold bfX11_readPart_130_37
  rw [i_gfX11_fine_130 x y, i_gfX11_sign x y, i_gfX11_must_130 x y, i_bfX11_readPart_130_167 x y]
theorem i_bfX11_readPart_130_0 (x y : XT) : bfX11_readPart_130_0 x = bfX11_readPart_130_0 y := by
  funext a0 a1 a2 a3 a4
  unfold bfX11_readPart_130_0
  rw [i_gfX11_fine_130 x y, i_gfX11_sign x y, i_bfX11_readPart_130_95 x y, i_bfX11_readPart_130_111 x y, i_bfX11_readPart_130_37 x y, i_gfX11_faults_130 x y]
theorem i_grfX11_readPart_130 (x y : XT) : grfX11_readPart_130 x = grfX11_readPart_130 y := by
  funext a0 a1 a2 a3 a4
  unfold grfX11_readPart_130
  rw [i_bfX11_readPart_130_0 x y]
theorem i_gqX11_readSum_130 (x y : XT) : ∀ n, gqX11_readSum_130 x n = gqX11_readSum_130 y n
  | 0 => rfl
  | n + 1 => by
    funext t S a b
    rw [gqX11_readSum_130, gqX11_readSum_130, i_gqX11_readSum_130 x y n, i_grfX11_readSum_130 x y, i_grfX11_readTerm_130 x y, i_grfX11_readPart_130 x y]
theorem i_gfX11_readSum_130 (x y : XT) : gfX11_readSum_130 x = gfX11_readSum_130 y := by
  funext a0 a1
  unfold gfX11_readSum_130
  rw [i_gqX11_readSum_130 x y]
theorem i_bfX11_readTest_130_5 (x y : XT) : bfX11_readTest_130_5 x = bfX11_readTest_130_5 y := by
  funext a0 a1 a2 a3 a4 a5
  unfold bfX11_readTest_130_5
  rw [i_gfX11_takes0_130 x y]
theorem i_lfX11_readTest_130_5 (x y : XT) (rec_X11_readTest : ST → Int32 → Option (Unit × ST)) (rec_X11_readBoth : ST → Int32 → Option (Unit × ST)) (rec_X11_readPlain : ST → Int32 → Option (Unit × ST)) : ∀ n, lfX11_readTest_130_5 x rec_X11_readTest rec_X11_readBoth rec_X11_readPlain n = lfX11_readTest_130_5 y rec_X11_readTest rec_X11_readBoth rec_X11_readPlain n
  | 0 => rfl
  | n + 1 => by
    funext S v1
    show bfX11_readTest_130_5 x rec_X11_readTest rec_X11_readBoth rec_X11_readPlain (lfX11_readTest_130_5 x rec_X11_readTest rec_X11_readBoth rec_X11_readPlain  n) S v1 = bfX11_readTest_130_5 y rec_X11_readTest rec_X11_readBoth rec_X11_readPlain (lfX11_readTest_130_5 y rec_X11_readTest rec_X11_readBoth rec_X11_readPlain  n) S v1
    rw [i_lfX11_readTest_130_5 x y rec_X11_readTest rec_X11_readBoth rec_X11_readPlain n, i_bfX11_readTest_130_5 x y]
theorem i_bfX11_readTest_130_0 (x y : XT) : bfX11_readTest_130_0 x = bfX11_readTest_130_0 y := by
  funext a0 a1 a2 a3 a4
  unfold bfX11_readTest_130_0
  rw [i_lfX11_readTest_130_5 x y]
theorem i_grfX11_readTest_130 (x y : XT) : grfX11_readTest_130 x = grfX11_readTest_130 y := by
  funext a0 a1 a2 a3 a4
  unfold grfX11_readTest_130
  rw [i_bfX11_readTest_130_0 x y]
theorem i_bfX11_readBoth_130_5 (x y : XT) : bfX11_readBoth_130_5 x = bfX11_readBoth_130_5 y := by
  funext a0 a1 a2 a3 a4 a5
  unfold bfX11_readBoth_130_5
  rw [i_gfX11_takes0_130 x y]
theorem i_lfX11_readBoth_130_5 (x y : XT) (rec_X11_readTest : ST → Int32 → Option (Unit × ST)) (rec_X11_readBoth : ST → Int32 → Option (Unit × ST)) (rec_X11_readPlain : ST → Int32 → Option (Unit × ST)) : ∀ n, lfX11_readBoth_130_5 x rec_X11_readTest rec_X11_readBoth rec_X11_readPlain n = lfX11_readBoth_130_5 y rec_X11_readTest rec_X11_readBoth rec_X11_readPlain n
  | 0 => rfl
  | n + 1 => by
    funext S v1
    show bfX11_readBoth_130_5 x rec_X11_readTest rec_X11_readBoth rec_X11_readPlain (lfX11_readBoth_130_5 x rec_X11_readTest rec_X11_readBoth rec_X11_readPlain  n) S v1 = bfX11_readBoth_130_5 y rec_X11_readTest rec_X11_readBoth rec_X11_readPlain (lfX11_readBoth_130_5 y rec_X11_readTest rec_X11_readBoth rec_X11_readPlain  n) S v1
    rw [i_lfX11_readBoth_130_5 x y rec_X11_readTest rec_X11_readBoth rec_X11_readPlain n, i_bfX11_readBoth_130_5 x y]
theorem i_bfX11_readBoth_130_0 (x y : XT) : bfX11_readBoth_130_0 x = bfX11_readBoth_130_0 y := by
  funext a0 a1 a2 a3 a4
  unfold bfX11_readBoth_130_0
  rw [i_lfX11_readBoth_130_5 x y]
theorem i_grfX11_readBoth_130 (x y : XT) : grfX11_readBoth_130 x = grfX11_readBoth_130 y := by
  funext a0 a1 a2 a3 a4
  unfold grfX11_readBoth_130
  rw [i_bfX11_readBoth_130_0 x y]
theorem i_bfX11_readPlain_130_133 (x y : XT) : bfX11_readPlain_130_133 x = bfX11_readPlain_130_133 y := by
  funext a0 a1 a2 a3
  unfold bfX11_readPlain_130_133
  rfl
theorem i_bfX11_readPlain_130_128 (x y : XT) : bfX11_readPlain_130_128 x = bfX11_readPlain_130_128 y := by
  funext a0 a1 a2 a3 a4
  unfold bfX11_readPlain_130_128
  rw [i_gfX11_readSum_130 x y, i_bfX11_readPlain_130_133 x y]
theorem i_bfX11_readPlain_130_53 (x y : XT) : bfX11_readPlain_130_53 x = bfX11_readPlain_130_53 y := by
  funext a0 a1 a2 a3 a4
  unfold bfX11_readPlain_130_53
  rw [i_gfX11_fine_130 x y, i_gfX11_sign x y, i_gfX11_must_130 x y, i_bfX11_readPlain_130_133 x y]
theorem i_bfX11_readPlain_130_2 (x y : XT) : bfX11_readPlain_130_2 x = bfX11_readPlain_130_2 y := by
  funext a0 a1 a2 a3 a4 a5 a6
  unfold bfX11_readPlain_130_2
  rw [i_gfX11_fine_130 x y, i_gfX11_sign x y, i_gfX11_readSum_130 x y, i_gfX11_takes0_130 x y, i_bfX11_readPlain_130_128 x y, i_gfX11_must_130 x y, i_bfX11_readPlain_130_53 x y, i_gfX11_faults_130 x y]
theorem i_lfX11_readPlain_130_2 (x y : XT) (rec_X11_readTest : ST → Int32 → Option (Unit × ST)) (rec_X11_readBoth : ST → Int32 → Option (Unit × ST)) (rec_X11_readPlain : ST → Int32 → Option (Unit × ST)) : ∀ n, lfX11_readPlain_130_2 x rec_X11_readTest rec_X11_readBoth rec_X11_readPlain n = lfX11_readPlain_130_2 y rec_X11_readTest rec_X11_readBoth rec_X11_readPlain n
  | 0 => rfl
  | n + 1 => by
    funext S v1 v2
    show bfX11_readPlain_130_2 x rec_X11_readTest rec_X11_readBoth rec_X11_readPlain (lfX11_readPlain_130_2 x rec_X11_readTest rec_X11_readBoth rec_X11_readPlain  n) S v1 v2 = bfX11_readPlain_130_2 y rec_X11_readTest rec_X11_readBoth rec_X11_readPlain (lfX11_readPlain_130_2 y rec_X11_readTest rec_X11_readBoth rec_X11_readPlain  n) S v1 v2
    rw [i_lfX11_readPlain_130_2 x y rec_X11_readTest rec_X11_readBoth rec_X11_readPlain n, i_bfX11_readPlain_130_2 x y]
theorem i_bfX11_readPlain_130_0 (x y : XT) : bfX11_readPlain_130_0 x = bfX11_readPlain_130_0 y := by
  funext a0 a1 a2 a3 a4
  unfold bfX11_readPlain_130_0
  rw [i_lfX11_readPlain_130_2 x y]
theorem i_grfX11_readPlain_130 (x y : XT) : grfX11_readPlain_130 x = grfX11_readPlain_130 y := by
  funext a0 a1 a2 a3 a4
  unfold grfX11_readPlain_130
  rw [i_bfX11_readPlain_130_0 x y]
theorem i_gqX11_readTest_130 (x y : XT) : ∀ n, gqX11_readTest_130 x n = gqX11_readTest_130 y n
  | 0 => rfl
  | n + 1 => by
    funext t S a b
    rw [gqX11_readTest_130, gqX11_readTest_130, i_gqX11_readTest_130 x y n, i_grfX11_readTest_130 x y, i_grfX11_readBoth_130 x y, i_grfX11_readPlain_130 x y]
theorem i_gfX11_readTest_130 (x y : XT) : gfX11_readTest_130 x = gfX11_readTest_130 y := by
  funext a0 a1
  unfold gfX11_readTest_130
  rw [i_gqX11_readTest_130 x y]
theorem i_bfX11_readClause_130_42 (x y : XT) : bfX11_readClause_130_42 x = bfX11_readClause_130_42 y := by
  funext a0
  unfold bfX11_readClause_130_42
  rfl
theorem i_bfX11_readClause_130_29 (x y : XT) : bfX11_readClause_130_29 x = bfX11_readClause_130_29 y := by
  funext a0
  unfold bfX11_readClause_130_29
  rw [i_gfX11_takes0_130 x y, i_bfX11_readClause_130_42 x y, i_gfX11_readTest_130 x y]
theorem i_bfX11_readClause_130_16 (x y : XT) : bfX11_readClause_130_16 x = bfX11_readClause_130_16 y := by
  funext a0
  unfold bfX11_readClause_130_16
  rw [i_gfX11_readSum_130 x y, i_bfX11_readClause_130_29 x y]
theorem i_bfX11_readClause_130_0 (x y : XT) : bfX11_readClause_130_0 x = bfX11_readClause_130_0 y := by
  funext a0
  unfold bfX11_readClause_130_0
  rw [i_gfX11_takes0_130 x y, i_bfX11_readClause_130_16 x y, i_gfX11_must_130 x y, i_bfX11_readClause_130_29 x y]
theorem i_gfX11_readClause_130 (x y : XT) : gfX11_readClause_130 x = gfX11_readClause_130 y := by
  funext a0
  unfold gfX11_readClause_130
  rw [i_bfX11_readClause_130_0 x y]
theorem i_bfX11_readTwo_130_0 (x y : XT) : bfX11_readTwo_130_0 x = bfX11_readTwo_130_0 y := by
  funext a0 a1
  unfold bfX11_readTwo_130_0
  rw [i_gfX11_readSum_130 x y, i_gfX11_must_130 x y]
theorem i_gfX11_readTwo_130 (x y : XT) : gfX11_readTwo_130 x = gfX11_readTwo_130 y := by
  funext a0 a1
  unfold gfX11_readTwo_130
  rw [i_bfX11_readTwo_130_0 x y]
theorem i_bfX11_readOrder_130_88 (x y : XT) : bfX11_readOrder_130_88 x = bfX11_readOrder_130_88 y := by
  funext a0
  unfold bfX11_readOrder_130_88
  rfl
theorem i_bfX11_readOrder_130_75 (x y : XT) : bfX11_readOrder_130_75 x = bfX11_readOrder_130_75 y := by
  funext a0
  unfold bfX11_readOrder_130_75
  rw [i_gfX11_takes0_130 x y, i_bfX11_readOrder_130_88 x y, i_gfX11_readTest_130 x y]
theorem i_bfX11_readOrder_130_59 (x y : XT) : bfX11_readOrder_130_59 x = bfX11_readOrder_130_59 y := by
  funext a0
  unfold bfX11_readOrder_130_59
  rw [i_gfX11_takes0_130 x y, i_bfX11_readOrder_130_75 x y, i_gfX11_mustNumber_130 x y]
theorem i_bfX11_readOrder_130_0 (x y : XT) : bfX11_readOrder_130_0 x = bfX11_readOrder_130_0 y := by
  funext a0
  unfold bfX11_readOrder_130_0
  rw [i_gfX11_takes0_130 x y, i_gfX11_must_130 x y, i_bfX11_readOrder_130_59 x y, i_gfX11_readSum_130 x y, i_gfX11_readTwo_130 x y]
theorem i_gfX11_readOrder_130 (x y : XT) : gfX11_readOrder_130 x = gfX11_readOrder_130 y := by
  funext a0
  unfold gfX11_readOrder_130
  rw [i_bfX11_readOrder_130_0 x y]
theorem i_bfX11_readOne_130_18 (x y : XT) : bfX11_readOne_130_18 x = bfX11_readOne_130_18 y := by
  funext a0
  unfold bfX11_readOne_130_18
  rfl
theorem i_bfX11_readOne_130_0 (x y : XT) : bfX11_readOne_130_0 x = bfX11_readOne_130_0 y := by
  funext a0
  unfold bfX11_readOne_130_0
  rw [i_gfX11_readClause_130 x y, i_bfX11_readOne_130_18 x y, i_gfX11_readOrder_130 x y]
theorem i_gfX11_readOne_130 (x y : XT) : gfX11_readOne_130 x = gfX11_readOne_130 y := by
  funext a0
  unfold gfX11_readOne_130
  rw [i_bfX11_readOne_130_0 x y]
theorem i_bfX11_reads_130_95 (x y : XT) : bfX11_reads_130_95 x = bfX11_reads_130_95 y := by
  funext a0
  unfold bfX11_reads_130_95
  rw [i_gfX11_fine_130 x y]
theorem i_bfX11_reads_130_67 (x y : XT) : bfX11_reads_130_67 x = bfX11_reads_130_67 y := by
  funext a0 a1 a2
  unfold bfX11_reads_130_67
  rfl
theorem i_bfX11_reads_130_56 (x y : XT) : bfX11_reads_130_56 x = bfX11_reads_130_56 y := by
  funext a0 a1 a2
  unfold bfX11_reads_130_56
  rw [i_gfX11_fine_130 x y, i_bfX11_reads_130_67 x y, i_gfX11_readOne_130 x y]
theorem i_bfX11_reads_130_34 (x y : XT) : bfX11_reads_130_34 x = bfX11_reads_130_34 y := by
  funext a0 a1 a2
  unfold bfX11_reads_130_34
  rw [i_gfX11_sign x y, i_gfX11_takes0_130 x y, i_gfX11_fine_130 x y, i_bfX11_reads_130_95 x y, i_gfX11_faults_130 x y, i_bfX11_reads_130_56 x y]
theorem i_lfX11_reads_130_34 (x y : XT) : ∀ n, lfX11_reads_130_34 x  n = lfX11_reads_130_34 y  n
  | 0 => rfl
  | n + 1 => by
    funext S v1
    show bfX11_reads_130_34 x (lfX11_reads_130_34 x  n) S v1 = bfX11_reads_130_34 y (lfX11_reads_130_34 y  n) S v1
    rw [i_lfX11_reads_130_34 x y  n, i_bfX11_reads_130_34 x y]
theorem i_bfX11_reads_130_0 (x y : XT) : bfX11_reads_130_0 x = bfX11_reads_130_0 y := by
  funext a0
  unfold bfX11_reads_130_0
  rw [i_gfX11_splits_130 x y, i_gfX11_readOne_130 x y, i_lfX11_reads_130_34 x y]
theorem i_gfX11_reads_130 (x y : XT) : gfX11_reads_130 x = gfX11_reads_130 y := by
  funext a0
  unfold gfX11_reads_130
  rw [i_bfX11_reads_130_0 x y]
theorem i_bfX11_readsAs_130_32 (x y : XT) : bfX11_readsAs_130_32 x = bfX11_readsAs_130_32 y := by
  funext a0 a1
  unfold bfX11_readsAs_130_32
  rw [i_gfX11_reads_130 x y]
theorem i_bfX11_readsAs_130_17 (x y : XT) : bfX11_readsAs_130_17 x = bfX11_readsAs_130_17 y := by
  funext a0 a1 a2
  unfold bfX11_readsAs_130_17
  rw [i_bfX11_readsAs_130_32 x y]
theorem i_bfX11_readsAs_130_0 (x y : XT) : bfX11_readsAs_130_0 x = bfX11_readsAs_130_0 y := by
  funext a0 a1
  unfold bfX11_readsAs_130_0
  rw [i_bfX11_readsAs_130_17 x y]
theorem i_gfX11_readsAs_130 (x y : XT) : gfX11_readsAs_130 x = gfX11_readsAs_130 y := by
  funext a0 a1
  unfold gfX11_readsAs_130
  rw [i_bfX11_readsAs_130_0 x y]
theorem i_bfX11_lays_130_15 (x y : XT) : bfX11_lays_130_15 x = bfX11_lays_130_15 y := by
  funext a0 a1 a2 a3
  unfold bfX11_lays_130_15
  rfl
theorem i_lfX11_lays_130_15 (x y : XT) : ∀ n, lfX11_lays_130_15 x  n = lfX11_lays_130_15 y  n
  | 0 => rfl
  | n + 1 => by
    funext S v1 v2
    show bfX11_lays_130_15 x (lfX11_lays_130_15 x  n) S v1 v2 = bfX11_lays_130_15 y (lfX11_lays_130_15 y  n) S v1 v2
    rw [i_lfX11_lays_130_15 x y  n, i_bfX11_lays_130_15 x y]
theorem i_bfX11_lays_130_0 (x y : XT) : bfX11_lays_130_0 x = bfX11_lays_130_0 y := by
  funext a0 a1
  unfold bfX11_lays_130_0
  rw [i_lfX11_lays_130_15 x y]
theorem i_gfX11_lays_130 (x y : XT) : gfX11_lays_130 x = gfX11_lays_130 y := by
  funext a0 a1
  unfold gfX11_lays_130
  rw [i_bfX11_lays_130_0 x y]
theorem i_bfX11_law_130_0 (x y : XT) : bfX11_law_130_0 x = bfX11_law_130_0 y := by
  funext a0
  unfold bfX11_law_130_0
  rw [i_gfX11_readsAs_130 x y, i_gfX11_lays_130 x y, i_gfX11_good_130 x y, i_gfX11_refuses_130 x y]
theorem i_gfX11_law_130 (x y : XT) : gfX11_law_130 x = gfX11_law_130 y := by
  funext a0
  unfold gfX11_law_130
  rw [i_bfX11_law_130_0 x y]
end SAME
