section LINKS
theorem tm {w : Cond} (i : Nat) (h : tables_1[i]? = some w) (g : goodWord w = true := by rfl) : w ∈ TB := tbm (List.mem_append_right _ (List.mem_of_getElem? h)) g
def tO (ci : Nat) : u_T := match ci with
  | 0 => TX0
  | 1 => TX1
  | 2 => TX2
  | 3 => TX3
  | 4 => TX4
  | 5 => TX5
  | 6 => TX6
  | 7 => TX7
  | 8 => TX8
  | 9 => TX9
  | 10 => TX10
  | _ => TX11
theorem iwX0 : ∀ w ∈ u_ws RX0 TX0 3, w ∈ TB := by
  have h1 : ∀ w ∈ u_ws RX0 TX0 3, w ∈ tables_1 := by decide +kernel
  have h2 : (u_ws RX0 TX0 3).all goodWord = true := by decide +kernel
  exact fun w hw => tbm (List.mem_append_right _ (h1 w hw)) (List.all_eq_true.mp h2 w hw)
theorem iwX1 : ∀ w ∈ u_ws RX1 TX1 7, w ∈ TB := by
  have h1 : ∀ w ∈ u_ws RX1 TX1 7, w ∈ tables_1 := by decide +kernel
  have h2 : (u_ws RX1 TX1 7).all goodWord = true := by decide +kernel
  exact fun w hw => tbm (List.mem_append_right _ (h1 w hw)) (List.all_eq_true.mp h2 w hw)
theorem iwX2 : ∀ w ∈ u_ws RX2 TX2 3, w ∈ TB := by
  have h1 : ∀ w ∈ u_ws RX2 TX2 3, w ∈ tables_1 := by decide +kernel
  have h2 : (u_ws RX2 TX2 3).all goodWord = true := by decide +kernel
  exact fun w hw => tbm (List.mem_append_right _ (h1 w hw)) (List.all_eq_true.mp h2 w hw)
theorem iwX3 : ∀ w ∈ u_ws RX3 TX3 3, w ∈ TB := by
  have h1 : ∀ w ∈ u_ws RX3 TX3 3, w ∈ tables_1 := by decide +kernel
  have h2 : (u_ws RX3 TX3 3).all goodWord = true := by decide +kernel
  exact fun w hw => tbm (List.mem_append_right _ (h1 w hw)) (List.all_eq_true.mp h2 w hw)
theorem iwX4 : ∀ w ∈ u_ws RX4 TX4 9, w ∈ TB := by
  have h1 : ∀ w ∈ u_ws RX4 TX4 9, w ∈ tables_1 := by decide +kernel
  have h2 : (u_ws RX4 TX4 9).all goodWord = true := by decide +kernel
  exact fun w hw => tbm (List.mem_append_right _ (h1 w hw)) (List.all_eq_true.mp h2 w hw)
theorem iwX5 : ∀ w ∈ u_ws RX5 TX5 6, w ∈ TB := by
  have h1 : ∀ w ∈ u_ws RX5 TX5 6, w ∈ tables_1 := by decide +kernel
  have h2 : (u_ws RX5 TX5 6).all goodWord = true := by decide +kernel
  exact fun w hw => tbm (List.mem_append_right _ (h1 w hw)) (List.all_eq_true.mp h2 w hw)
theorem iwX6 : ∀ w ∈ u_ws RX6 TX6 13, w ∈ TB := by
  have h1 : ∀ w ∈ u_ws RX6 TX6 13, w ∈ tables_1 := by decide +kernel
  have h2 : (u_ws RX6 TX6 13).all goodWord = true := by decide +kernel
  exact fun w hw => tbm (List.mem_append_right _ (h1 w hw)) (List.all_eq_true.mp h2 w hw)
theorem iwX7 : ∀ w ∈ u_ws RX7 TX7 19, w ∈ TB := by
  have h1 : ∀ w ∈ u_ws RX7 TX7 19, w ∈ tables_1 := by decide +kernel
  have h2 : (u_ws RX7 TX7 19).all goodWord = true := by decide +kernel
  exact fun w hw => tbm (List.mem_append_right _ (h1 w hw)) (List.all_eq_true.mp h2 w hw)
theorem iwX8 : ∀ w ∈ u_ws RX8 TX8 2, w ∈ TB := by
  have h1 : ∀ w ∈ u_ws RX8 TX8 2, w ∈ tables_1 := by decide +kernel
  have h2 : (u_ws RX8 TX8 2).all goodWord = true := by decide +kernel
  exact fun w hw => tbm (List.mem_append_right _ (h1 w hw)) (List.all_eq_true.mp h2 w hw)
theorem iwX9 : ∀ w ∈ u_ws RX9 TX9 6, w ∈ TB := by
  have h1 : ∀ w ∈ u_ws RX9 TX9 6, w ∈ tables_1 := by decide +kernel
  have h2 : (u_ws RX9 TX9 6).all goodWord = true := by decide +kernel
  exact fun w hw => tbm (List.mem_append_right _ (h1 w hw)) (List.all_eq_true.mp h2 w hw)
theorem iwX10 : ∀ w ∈ u_ws RX10 TX10 16, w ∈ TB := by
  have h1 : ∀ w ∈ u_ws RX10 TX10 16, w ∈ tables_1 := by decide +kernel
  have h2 : (u_ws RX10 TX10 16).all goodWord = true := by decide +kernel
  exact fun w hw => tbm (List.mem_append_right _ (h1 w hw)) (List.all_eq_true.mp h2 w hw)
theorem iwX11 : ∀ w ∈ u_ws RX11 TX11 53, w ∈ TB := by
  have h1 : ∀ w ∈ u_ws RX11 TX11 53, w ∈ tables_1 := by decide +kernel
  have h2 : (u_ws RX11 TX11 53).all goodWord = true := by decide +kernel
  exact fun w hw => tbm (List.mem_append_right _ (h1 w hw)) (List.all_eq_true.mp h2 w hw)
theorem cls_at : ∀ ci, ci < 12 → cls[ci]? = some (cnm ci, tO ci, nF ci) ∧ (∀ w ∈ u_ws (cnm ci) (tO ci) (nF ci), w ∈ TB) ∧ (∀ k, k < nF ci → parseFieldDescriptor (tO ci k).2.2.1 = some (tyO ci k)) ∧ (∀ a, a < nF ci → ∀ b, b < nF ci → a ≠ b → (tO ci a).2.1 ≠ (tO ci b).2.1)
  | 0, _ => ⟨rfl, iwX0, tyX0_ok, nmX0⟩
  | 1, _ => ⟨rfl, iwX1, tyX1_ok, nmX1⟩
  | 2, _ => ⟨rfl, iwX2, tyX2_ok, nmX2⟩
  | 3, _ => ⟨rfl, iwX3, tyX3_ok, nmX3⟩
  | 4, _ => ⟨rfl, iwX4, tyX4_ok, nmX4⟩
  | 5, _ => ⟨rfl, iwX5, tyX5_ok, nmX5⟩
  | 6, _ => ⟨rfl, iwX6, tyX6_ok, nmX6⟩
  | 7, _ => ⟨rfl, iwX7, tyX7_ok, nmX7⟩
  | 8, _ => ⟨rfl, iwX8, tyX8_ok, nmX8⟩
  | 9, _ => ⟨rfl, iwX9, tyX9_ok, nmX9⟩
  | 10, _ => ⟨rfl, iwX10, tyX10_ok, nmX10⟩
  | 11, _ => ⟨rfl, iwX11, tyX11_ok, nmX11⟩
  | k + 12, h => absurd h (by omega)
theorem cls_own : ∀ ci, ci < 12 → ∀ k, k < nF ci → (tO ci k).1 = cnm ci := by decide +kernel
def fd3 : List (Nat × Nat × Nat) → Nat → Option (Nat × Nat)
  | [], _ => none
  | q :: t, i => bif Nat.beq q.1 i then some q.2 else fd3 t i
theorem fd3_mem : ∀ (l : List (Nat × Nat × Nat)) (i : Nat) (q : Nat × Nat), fd3 l i = some q → (i, q) ∈ l
  | [], i, q, h => by simp [fd3] at h
  | p :: t, i, q, h => by
    cases hb : Nat.beq p.1 i with
    | true =>
      simp [fd3, hb] at h
      have := Nat.eq_of_beq_eq_true hb
      subst h; subst this
      exact List.mem_cons_self
    | false => exact List.mem_cons_of_mem _ (fd3_mem t i q (by simpa [fd3, hb] using h))
def fL0 : List (Nat × Nat × Nat) := [(90, 7, 0), (73, 7, 1), (97, 7, 2), (21, 7, 3), (26, 7, 4), (76, 7, 5), (70, 7, 7), (80, 7, 8), (33, 7, 9), (100, 7, 10), (36, 7, 15), (9, 0, 0), (15, 0, 1), (18, 0, 2), (44, 9, 0), (50, 9, 2)]
def fP0 : List Nat := [39, 44, 48, 51, 54, 62, 71, 79, 82, 88, 100, 174, 175, 176, 198, 204]
set_option maxRecDepth 20000 in
theorem fL0_ok : ∀ q ∈ fL0, q.2.1 < 12 ∧ q.2.2 < nF q.2.1 ∧ Cond.fieldLink (cnm 0) q.1 (cnm q.2.1) (tO q.2.1 q.2.2).2.1 (tO q.2.1 q.2.2).2.2.1 ∈ tables_1 := by decide +kernel
def fL1 : List (Nat × Nat × Nat) := [(77, 7, 4), (69, 7, 5), (52, 7, 7), (55, 7, 8), (58, 7, 10), (80, 7, 15), (9, 1, 0), (15, 1, 1), (32, 1, 2), (35, 1, 3), (22, 1, 4), (26, 1, 5), (29, 1, 6)]
def fP1 : List Nat := [57, 60, 68, 75, 85, 102, 263, 265, 266, 267, 268, 269, 270]
set_option maxRecDepth 20000 in
theorem fL1_ok : ∀ q ∈ fL1, q.2.1 < 12 ∧ q.2.2 < nF q.2.1 ∧ Cond.fieldLink (cnm 1) q.1 (cnm q.2.1) (tO q.2.1 q.2.2).2.1 (tO q.2.1 q.2.2).2.2.1 ∈ tables_1 := by decide +kernel
def fL2 : List (Nat × Nat × Nat) := [(41, 7, 0), (34, 7, 6), (62, 7, 7), (65, 7, 8), (68, 7, 10), (30, 7, 15), (12, 2, 0), (22, 2, 1), (18, 2, 2)]
def fP2 : List Nat := [38, 65, 69, 76, 86, 99, 385, 386, 387]
set_option maxRecDepth 20000 in
theorem fL2_ok : ∀ q ∈ fL2, q.2.1 < 12 ∧ q.2.2 < nF q.2.1 ∧ Cond.fieldLink (cnm 2) q.1 (cnm q.2.1) (tO q.2.1 q.2.2).2.1 (tO q.2.1 q.2.2).2.2.1 ∈ tables_1 := by decide +kernel
def fL3 : List (Nat × Nat × Nat) := [(33, 7, 11), (39, 7, 12), (42, 7, 13), (49, 7, 14), (19, 3, 0), (9, 3, 1), (15, 3, 2)]
def fP3 : List Nat := [90, 93, 95, 97, 367, 368, 369]
set_option maxRecDepth 20000 in
theorem fL3_ok : ∀ q ∈ fL3, q.2.1 < 12 ∧ q.2.2 < nF q.2.1 ∧ Cond.fieldLink (cnm 3) q.1 (cnm q.2.1) (tO q.2.1 q.2.2).2.1 (tO q.2.1 q.2.2).2.2.1 ∈ tables_1 := by decide +kernel
def fL4 : List (Nat × Nat × Nat) := [(70, 8, 0), (65, 8, 1), (105, 9, 0), (117, 9, 1), (108, 9, 2), (111, 9, 3), (114, 9, 4), (14, 4, 0), (20, 4, 1), (24, 4, 2), (28, 4, 3), (31, 4, 4), (34, 4, 5), (37, 4, 6), (40, 4, 7), (43, 4, 8)]
def fP4 : List Nat := [159, 161, 199, 201, 205, 208, 210, 225, 227, 229, 230, 231, 232, 233, 234, 235]
set_option maxRecDepth 20000 in
theorem fL4_ok : ∀ q ∈ fL4, q.2.1 < 12 ∧ q.2.2 < nF q.2.1 ∧ Cond.fieldLink (cnm 4) q.1 (cnm q.2.1) (tO q.2.1 q.2.2).2.1 (tO q.2.1 q.2.2).2.2.1 ∈ tables_1 := by decide +kernel
def fL5 : List (Nat × Nat × Nat) := [(95, 7, 4), (89, 7, 7), (86, 7, 8), (77, 7, 15), (33, 9, 0), (57, 9, 2), (38, 9, 3), (9, 5, 0), (15, 5, 1), (25, 5, 2), (29, 5, 3), (18, 5, 4), (22, 5, 5)]
def fP5 : List Nat := [58, 70, 77, 101, 197, 203, 207, 292, 294, 295, 296, 297, 298]
set_option maxRecDepth 20000 in
theorem fL5_ok : ∀ q ∈ fL5, q.2.1 < 12 ∧ q.2.2 < nF q.2.1 ∧ Cond.fieldLink (cnm 5) q.1 (cnm q.2.1) (tO q.2.1 q.2.2).2.1 (tO q.2.1 q.2.2).2.2.1 ∈ tables_1 := by decide +kernel
def fL6 : List (Nat × Nat × Nat) := [(108, 7, 0), (80, 7, 1), (97, 7, 2), (71, 7, 4), (83, 7, 5), (74, 7, 7), (77, 7, 8), (68, 7, 18), (12, 6, 0), (54, 6, 1), (18, 6, 2), (22, 6, 3), (26, 6, 4), (29, 6, 5), (32, 6, 6), (35, 6, 7), (38, 6, 8), (41, 6, 9), (44, 6, 10), (47, 6, 11), (51, 6, 12)]
def fP6 : List Nat := [40, 45, 49, 56, 63, 72, 78, 108, 320, 321, 322, 323, 324, 325, 326, 327, 328, 329, 330, 331, 332]
set_option maxRecDepth 20000 in
theorem fL6_ok : ∀ q ∈ fL6, q.2.1 < 12 ∧ q.2.2 < nF q.2.1 ∧ Cond.fieldLink (cnm 6) q.1 (cnm q.2.1) (tO q.2.1 q.2.2).2.1 (tO q.2.1 q.2.2).2.2.1 ∈ tables_1 := by decide +kernel
def fL7 : List (Nat × Nat × Nat) := [(9, 7, 0), (15, 7, 1), (19, 7, 2), (22, 7, 3), (25, 7, 4), (28, 7, 5), (32, 7, 6), (35, 7, 7), (38, 7, 8), (41, 7, 9), (44, 7, 10), (47, 7, 11), (50, 7, 12), (53, 7, 13), (56, 7, 14), (59, 7, 15), (62, 7, 16), (67, 7, 17), (71, 7, 18)]
def fP7 : List Nat := [37, 42, 46, 50, 53, 59, 64, 67, 74, 81, 84, 89, 92, 94, 96, 98, 104, 106, 107]
set_option maxRecDepth 20000 in
theorem fL7_ok : ∀ q ∈ fL7, q.2.1 < 12 ∧ q.2.2 < nF q.2.1 ∧ Cond.fieldLink (cnm 7) q.1 (cnm q.2.1) (tO q.2.1 q.2.2).2.1 (tO q.2.1 q.2.2).2.2.1 ∈ tables_1 := by decide +kernel
def fL8 : List (Nat × Nat × Nat) := [(9, 8, 0), (15, 8, 1)]
def fP8 : List Nat := [158, 160]
set_option maxRecDepth 20000 in
theorem fL8_ok : ∀ q ∈ fL8, q.2.1 < 12 ∧ q.2.2 < nF q.2.1 ∧ Cond.fieldLink (cnm 8) q.1 (cnm q.2.1) (tO q.2.1 q.2.2).2.1 (tO q.2.1 q.2.2).2.2.1 ∈ tables_1 := by decide +kernel
def fL9 : List (Nat × Nat × Nat) := [(9, 9, 0), (15, 9, 1), (18, 9, 2), (22, 9, 3), (25, 9, 4), (28, 9, 5)]
def fP9 : List Nat := [196, 200, 202, 206, 209, 211]
set_option maxRecDepth 20000 in
theorem fL9_ok : ∀ q ∈ fL9, q.2.1 < 12 ∧ q.2.2 < nF q.2.1 ∧ Cond.fieldLink (cnm 9) q.1 (cnm q.2.1) (tO q.2.1 q.2.2).2.1 (tO q.2.1 q.2.2).2.2.1 ∈ tables_1 := by decide +kernel
def fL10 : List (Nat × Nat × Nat) := [(329, 7, 0), (115, 7, 1), (118, 7, 2), (121, 7, 3), (124, 7, 4), (127, 7, 5), (326, 7, 6), (137, 7, 7), (140, 7, 8), (143, 7, 9), (146, 7, 10), (303, 7, 11), (314, 7, 15), (186, 7, 16), (222, 7, 18), (175, 8, 1), (193, 4, 0), (357, 4, 1), (345, 1, 0), (216, 5, 0), (12, 10, 0), (16, 10, 1), (20, 10, 2), (27, 10, 3), (34, 10, 4), (41, 10, 5), (50, 10, 6), (59, 10, 7), (68, 10, 8), (75, 10, 9), (82, 10, 10), (86, 10, 11), (90, 10, 12), (94, 10, 13), (97, 10, 14), (100, 10, 15)]
def fP10 : List Nat := [41, 43, 47, 52, 55, 61, 66, 73, 80, 83, 87, 91, 103, 105, 109, 162, 226, 228, 264, 293, 395, 396, 397, 398, 399, 400, 401, 402, 403, 404, 405, 406, 407, 408, 409, 410]
set_option maxRecDepth 20000 in
theorem fL10_ok : ∀ q ∈ fL10, q.2.1 < 12 ∧ q.2.2 < nF q.2.1 ∧ Cond.fieldLink (cnm 10) q.1 (cnm q.2.1) (tO q.2.1 q.2.2).2.1 (tO q.2.1 q.2.2).2.2.1 ∈ tables_1 := by decide +kernel
def fL11 : List (Nat × Nat × Nat) := [(3, 11, 0), (7, 11, 1), (28, 11, 2), (31, 11, 3), (34, 11, 4), (38, 11, 5), (182, 11, 6), (41, 11, 7), (260, 11, 8), (263, 11, 9), (234, 11, 10), (45, 11, 11), (48, 11, 12), (179, 11, 13), (51, 11, 14), (54, 11, 15), (57, 11, 16), (60, 11, 17), (185, 11, 18), (205, 11, 19), (214, 11, 20), (199, 11, 21), (291, 11, 22), (288, 11, 23), (301, 11, 24), (321, 11, 25), (63, 11, 26), (327, 11, 27), (330, 11, 28), (66, 11, 29), (69, 11, 30), (11, 11, 31), (72, 11, 32), (75, 11, 33), (78, 11, 34), (81, 11, 35), (84, 11, 36), (87, 11, 37), (91, 11, 38), (94, 11, 39), (97, 11, 40), (100, 11, 41), (103, 11, 42), (106, 11, 43), (463, 11, 44), (478, 11, 45), (472, 11, 46), (475, 11, 47), (481, 11, 48), (109, 11, 49), (112, 11, 50), (115, 11, 51), (499, 11, 52)]
def fP11 : List Nat := [1134, 1135, 1136, 1137, 1138, 1139, 1140, 1141, 1142, 1143, 1144, 1145, 1146, 1147, 1148, 1149, 1150, 1151, 1152, 1153, 1154, 1155, 1156, 1157, 1158, 1159, 1160, 1161, 1162, 1163, 1164, 1165, 1166, 1167, 1168, 1169, 1170, 1171, 1172, 1173, 1174, 1175, 1176, 1177, 1178, 1179, 1180, 1181, 1182, 1183, 1184, 1185, 1186]
set_option maxRecDepth 20000 in
theorem fL11_ok : ∀ q ∈ fL11, q.2.1 < 12 ∧ q.2.2 < nF q.2.1 ∧ Cond.fieldLink (cnm 11) q.1 (cnm q.2.1) (tO q.2.1 q.2.2).2.1 (tO q.2.1 q.2.2).2.2.1 ∈ tables_1 := by decide +kernel
def flT (oc : Nat) : List (Nat × Nat × Nat) := match oc with
  | 0 => fL0
  | 1 => fL1
  | 2 => fL2
  | 3 => fL3
  | 4 => fL4
  | 5 => fL5
  | 6 => fL6
  | 7 => fL7
  | 8 => fL8
  | 9 => fL9
  | 10 => fL10
  | 11 => fL11
  | _ => []
theorem flk_ok {oc idx ci k : Nat} (h : fd3 (flT oc) idx = some (ci, k)) : ci < 12 ∧ k < nF ci ∧ Cond.fieldLink (cnm oc) idx (cnm ci) (tO ci k).2.1 (tO ci k).2.2.1 ∈ TB := by
  have hm := fd3_mem _ _ _ h
  have key : ∀ oc, ∀ q ∈ flT oc, q.2.1 < 12 ∧ q.2.2 < nF q.2.1 ∧ Cond.fieldLink (cnm oc) q.1 (cnm q.2.1) (tO q.2.1 q.2.2).2.1 (tO q.2.1 q.2.2).2.2.1 ∈ tables_1 := by
    intro oc q hq
    match oc, hq with
    | 0, hq => exact fL0_ok q hq
    | 1, hq => exact fL1_ok q hq
    | 2, hq => exact fL2_ok q hq
    | 3, hq => exact fL3_ok q hq
    | 4, hq => exact fL4_ok q hq
    | 5, hq => exact fL5_ok q hq
    | 6, hq => exact fL6_ok q hq
    | 7, hq => exact fL7_ok q hq
    | 8, hq => exact fL8_ok q hq
    | 9, hq => exact fL9_ok q hq
    | 10, hq => exact fL10_ok q hq
    | 11, hq => exact fL11_ok q hq
    | k + 12, hq => exact absurd hq List.not_mem_nil
  have h3 := key oc _ hm
  exact ⟨h3.1, h3.2.1, tbm (List.mem_append_right _ h3.2.2) rfl⟩
def ldk (oc idx : Nat) : Option Int32 := match oc, idx with
  | 0, 39 => some (-2000000000)
  | 2, 61 => some (1000003)
  | 5, 56 => some (-2000000000)
  | 9, 46 => some (-2000000000)
  | 10, 325 => some (1000001)
  | 11, 198 => some (1000000)
  | 13, 265 => some (1431655765)
  | 13, 266 => some (858993459)
  | 13, 267 => some (252645135)
  | _, _ => none
theorem ldk_ok {oc idx : Nat} {v : Int32} (h : ldk oc idx = some v) : Cond.constant (cnm oc) idx v ∈ TB := by
  unfold ldk at h
  split at h
  · cases h; exact tm 510 (by decide +kernel)
  · cases h; exact tm 1094 (by decide +kernel)
  · cases h; exact tm 785 (by decide +kernel)
  · cases h; exact tm 528 (by decide +kernel)
  · cases h; exact tm 1084 (by decide +kernel)
  · cases h; exact tm 1505 (by decide +kernel)
  · cases h; exact tm 994 (by decide +kernel)
  · cases h; exact tm 995 (by decide +kernel)
  · cases h; exact tm 996 (by decide +kernel)
  · cases h
def ldk2 (oc idx : Nat) : Option Int64 := match oc, idx with
  | 3, 72 => some (1000000000000)
  | 3, 74 => some (10)
  | 9, 54 => some (-1000000000)
  | 9, 56 => some (1000000000)
  | 10, 264 => some (-1)
  | 10, 274 => some (1000000000000)
  | 11, 297 => some (1000000000)
  | 11, 299 => some (-1000000000)
  | 11, 421 => some (-1)
  | 11, 435 => some (1000000000000)
  | 11, 458 => some (10)
  | 11, 484 => some (1000000)
  | 11, 497 => some (1103)
  | 11, 502 => some (12345)
  | 11, 504 => some (1000003)
  | _, _ => none
theorem ldk2_ok {oc idx : Nat} {v : Int64} (h : ldk2 oc idx = some v) : Cond.constantLong (cnm oc) idx v ∈ TB := by
  unfold ldk2 at h
  split at h
  · cases h; exact tm 1070 (by decide +kernel)
  · cases h; exact tm 1071 (by decide +kernel)
  · cases h; exact tm 535 (by decide +kernel)
  · cases h; exact tm 536 (by decide +kernel)
  · cases h; exact tm 940 (by decide +kernel)
  · cases h; exact tm 961 (by decide +kernel)
  · cases h; exact tm 1420 (by decide +kernel)
  · cases h; exact tm 1421 (by decide +kernel)
  · cases h; exact tm 1699 (by decide +kernel)
  · cases h; exact tm 1720 (by decide +kernel)
  · cases h; exact tm 1781 (by decide +kernel)
  · cases h; exact tm 1809 (by decide +kernel)
  · cases h; exact tm 1822 (by decide +kernel)
  · cases h; exact tm 1823 (by decide +kernel)
  · cases h; exact tm 1824 (by decide +kernel)
  · cases h
def clk (oc idx : Nat) : Option Nat := match oc, idx with
  | 1, 19 => some 7
  | 2, 9 => some 7
  | 4, 9 => some 9
  | 6, 9 => some 7
  | 7, 65 => some 9
  | 9, 10 => some 9
  | 10, 9 => some 7
  | 10, 24 => some 8
  | 10, 31 => some 0
  | 10, 38 => some 4
  | 10, 45 => some 1
  | 10, 54 => some 5
  | 10, 63 => some 6
  | 10, 72 => some 3
  | 10, 79 => some 2
  | 12, 7 => some 10
  | 12, 10 => some 11
  | _, _ => none
theorem clk_ok {oc idx ci : Nat} (h : clk oc idx = some ci) : ci < 12 ∧ Cond.classLink (cnm oc) idx (cnm ci) ∈ TB := by
  unfold clk at h
  split at h
  · cases h; exact ⟨by decide, tm 261 (by decide +kernel)⟩
  · cases h; exact ⟨by decide, tm 383 (by decide +kernel)⟩
  · cases h; exact ⟨by decide, tm 190 (by decide +kernel)⟩
  · cases h; exact ⟨by decide, tm 318 (by decide +kernel)⟩
  · cases h; exact ⟨by decide, tm 35 (by decide +kernel)⟩
  · cases h; exact ⟨by decide, tm 746 (by decide +kernel)⟩
  · cases h; exact ⟨by decide, tm 29 (by decide +kernel)⟩
  · cases h; exact ⟨by decide, tm 152 (by decide +kernel)⟩
  · cases h; exact ⟨by decide, tm 168 (by decide +kernel)⟩
  · cases h; exact ⟨by decide, tm 184 (by decide +kernel)⟩
  · cases h; exact ⟨by decide, tm 255 (by decide +kernel)⟩
  · cases h; exact ⟨by decide, tm 286 (by decide +kernel)⟩
  · cases h; exact ⟨by decide, tm 312 (by decide +kernel)⟩
  · cases h; exact ⟨by decide, tm 361 (by decide +kernel)⟩
  · cases h; exact ⟨by decide, tm 377 (by decide +kernel)⟩
  · cases h; exact ⟨by decide, tm 21 (by decide +kernel)⟩
  · cases h; exact ⟨by decide, tm 1128 (by decide +kernel)⟩
  · cases h
theorem ini_ok : ∀ ci, ci < 12 → Cond.initialized (cnm ci) ∈ TB ∧ Cond.instantiable (cnm ci) (nF ci) ∈ TB
  | 0, _ => ⟨tm 4 (by decide +kernel), tm 169 (by decide +kernel)⟩
  | 1, _ => ⟨tm 7 (by decide +kernel), tm 256 (by decide +kernel)⟩
  | 2, _ => ⟨tm 11 (by decide +kernel), tm 378 (by decide +kernel)⟩
  | 3, _ => ⟨tm 10 (by decide +kernel), tm 362 (by decide +kernel)⟩
  | 4, _ => ⟨tm 5 (by decide +kernel), tm 185 (by decide +kernel)⟩
  | 5, _ => ⟨tm 8 (by decide +kernel), tm 287 (by decide +kernel)⟩
  | 6, _ => ⟨tm 9 (by decide +kernel), tm 313 (by decide +kernel)⟩
  | 7, _ => ⟨tm 2 (by decide +kernel), tm 30 (by decide +kernel)⟩
  | 8, _ => ⟨tm 3 (by decide +kernel), tm 153 (by decide +kernel)⟩
  | 9, _ => ⟨tm 6 (by decide +kernel), tm 191 (by decide +kernel)⟩
  | 10, _ => ⟨tm 1 (by decide +kernel), tm 22 (by decide +kernel)⟩
  | 11, _ => ⟨tm 12 (by decide +kernel), tm 1129 (by decide +kernel)⟩
  | k + 12, h => absurd h (by omega)
end LINKS
