/-! THE LAW, 8: what it asks behind each call -/
section ZL
variable {Y : zLy} {n s : Nat} {X : zX} {G : Nat × Nat} {t p q r k j : Int}
theorem S_0 (hZ : zLA G t Y n X) (ht : t < 1000) (hq : 0 ≤ q ∧ q < 60000) : ev_ G 217 0 [.ref (wA Y 13 0), .ref (wA Y 15 603), .ref (wA Y 15 604), .ref (wA Y 15 605), .ref (wA Y 15 606), .ref (wA Y 15 607), .ref (wA Y 15 608), .ref (wA Y 15 609), .ref (wA Y 15 610), .ref (wA Y 15 611), .ref (wA Y 15 612), .ref (wA Y 15 613), .int (zJ q), zU, zU, zU, zU, zU, zU] [] (wd Y n s X) = ev_ G 217 97 [.ref (wA Y 13 0), .ref (wA Y 15 603), .ref (wA Y 15 604), .ref (wA Y 15 605), .ref (wA Y 15 606), .ref (wA Y 15 607), .ref (wA Y 15 608), .ref (wA Y 15 609), .ref (wA Y 15 610), .ref (wA Y 15 611), .ref (wA Y 15 612), .ref (wA Y 15 613), .int (zJ q), .int (zJ 1), .int (zJ 0), zU, zU, zU, zU] [] (wd Y n s X) := by
  have hZ' := hZ
  obtain ⟨hY, hG, hI, pg, pb, pc, pw, pr, ph, ps, pf⟩ := hZ
  have hL := wY_A hY
  have h13 := (wY_F hY).2.1
  have h7 := hI.2.2.2.2.2.2.1
  obtain ⟨w1, w2, w3⟩ := zwin_e h7
  unfold iD at h7
  obtain ⟨d1, d2, d3, d4, d5, d6⟩ := h7
  have a6 : X 1113 6 = X 100 0 := by rw [pg.2.2.2.2.2.1, d1]
  have a7 : X 1113 7 = X 101 0 := by rw [pg.2.2.2.2.2.2.1, d2]
  have c0 := qc_crimps (G := G) (n := n) (s := s) (p := 0) hY hI ht (by decide)
  have c1 := qc_crimps (G := G) (n := n) (s := s) (p := 1) hY hI ht (by decide)
  have c2 := qc_crimps (G := G) (n := n) (s := s) (p := 2) hY hI ht (by decide)
  rw [if_pos rfl] at c0
  rw [if_neg (by decide), if_pos rfl] at c1
  rw [if_neg (by decide), if_neg (by decide)] at c2
  have c3 := qc_weight (G := G) (n := n) (s := s) (p := 255) hY hI (by decide)
  have c4 := qc_weight (G := G) (n := n) (s := s) (p := q % 256) hY hI (by omega)
  have v1 := L_window (s := s) hZ' ht
  have v3 := L_weight (s := s) (p := 255) hZ' (by decide)
  have v4 := L_weight (s := s) (p := q % 256) hZ' (by omega)
  have e6 : zld false (wd Y n s X) (wA Y 15 613) 6 = some (zJ (X 100 0)) := by rw [l_6, lg_ hL (by decide) (by decide), a6]
  have e7 : zld false (wd Y n s X) (wA Y 15 613) 7 = some (zJ (X 101 0)) := by rw [l_7, lg_ hL (by decide) (by decide), a7]
  have em : (zJ q - zJ q / 256 * 256 : Int32) = zJ (q % 256) := by rw [l_256, zJ_dv hq.1 (by omega) (by decide) (by decide), zJ_mul, zJ_sub, zem]
  have h256 : ¬(256 : Nat) = 0 := by decide
  rw [q_L_isSo_0, k13 h13, l_0, c0, t_I, e6, t_b, if_pos rfl, k13 h13, l_1, c1, t_I, e7, t_b, if_pos rfl, k13 h13, l_2, c2, t_I, v1, t_I, if_pos rfl, k13 h13, l_255, c3, t_I, v3, t_I, if_pos rfl, ← l_0, if_neg h256, em, k13 h13, c4, t_I, if_neg h256, v4, t_I, if_pos rfl]
theorem S_97 (hZ : zLA G t Y n X) : ∀ (m : Nat) (k : Int), 0 ≤ k → k + m = X 410 0 → ev_ G 217 97 [.ref (wA Y 13 0), .ref (wA Y 15 603), .ref (wA Y 15 604), .ref (wA Y 15 605), .ref (wA Y 15 606), .ref (wA Y 15 607), .ref (wA Y 15 608), .ref (wA Y 15 609), .ref (wA Y 15 610), .ref (wA Y 15 611), .ref (wA Y 15 612), .ref (wA Y 15 613), .int (zJ q), .int (zJ 1), .int (zJ k), zU, zU, zU, zU] [] (wd Y n s X) = ev_ G 217 157 [.ref (wA Y 13 0), .ref (wA Y 15 603), .ref (wA Y 15 604), .ref (wA Y 15 605), .ref (wA Y 15 606), .ref (wA Y 15 607), .ref (wA Y 15 608), .ref (wA Y 15 609), .ref (wA Y 15 610), .ref (wA Y 15 611), .ref (wA Y 15 612), .ref (wA Y 15 613), .int (zJ q), .int (zJ 1), .int (zJ 0), zU, zU, zU, zU] [] (wd Y n s X) := by
  have hZ' := hZ
  obtain ⟨hY, hG, hI, pg, pb, pc, pw, pr, ph, ps, pf⟩ := hZ
  have hL := wY_A hY
  have h13 := (wY_F hY).2.1
  have z1 := hI.2.2.2.1.1
  have hQ2 := hY.2.2.2.1
  intro m
  induction m with
  | zero =>
    intro k h0 he
    have e1 : X 410 0 ≤ k := by omega
    rw [q_L_isSo_97]
    simp (disch := first | assumption | omega) only [↓reduceIte, l_0, l_1, l_2, l_3, l_4, l_5, l_6, l_7, l_8, l_9, l_10, l_12, l_16, l_24, l_31, l_32, l_48, l_96, l_99, l_100, l_150, l_180, l_200, l_240, l_255, l_260, l_384, l_400, l_999, l_5000, l_9999, l_1000000, l_1000000000, l_11, l_13, l_14, l_15, l_17, l_18, l_19, l_20, l_21, l_22, l_23, l_25, l_26, l_28, l_30, l_34, l_38, l_42, l_44, l_54, l_60, l_64, l_81, l_90, l_101, l_103, l_110, l_120, l_128, l_140, l_256, l_401, l_403, l_450, l_512, l_853, l_983, l_1000, l_1001, l_2048, l_3000000, l_2000000, l_4096, l_5001, l_5002, l_10000, l_10001, l_32767, l_32768, l_60000, l_2147483647, zJ_lt, zJ_le, zJ_eq, zJ_add, zJ_sub, zJ_mul, zJ_neg, zJ_dv, t_I, t_Ie, t_R, t_Re, t_N, t_Nn, t_V, t_Ve, t_b, t_x, t_w, e_0, e_1, e_2, e_3, ↓t_0, ↓t_1, t_00, t_11, if_true, if_false, ite_not, not_false_eq_true, not_true_eq_false, Int.reduceEq, Int.reduceLT, Int.reduceLE, Int.reduceNeg, Nat.reduceEqDiff, Bool.false_eq_true, lg_ hL, pg.2.2.1, e1]
  | succ m ih =>
    intro k h0 he
    have e1 : ¬X 410 0 ≤ k := by omega
    obtain ⟨-, r1, r2, r3, r4, r5, r6⟩ := pW_r hZ' (k := k) ⟨h0, by omega⟩
    obtain ⟨w1, w2, w3, w4⟩ := pw.1 k h0 (by omega)
    have c := qc_ofWire (G := G) (n := n) (s := s) (p := k) (q := -1) hY hI ⟨h0, by omega⟩ (by decide) (by decide)
    rw [if_pos rfl, r5] at c
    have hst : ev_ G 217 97 [.ref (wA Y 13 0), .ref (wA Y 15 603), .ref (wA Y 15 604), .ref (wA Y 15 605), .ref (wA Y 15 606), .ref (wA Y 15 607), .ref (wA Y 15 608), .ref (wA Y 15 609), .ref (wA Y 15 610), .ref (wA Y 15 611), .ref (wA Y 15 612), .ref (wA Y 15 613), .int (zJ q), .int (zJ 1), .int (zJ k), zU, zU, zU, zU] [] (wd Y n s X) = ev_ G 217 97 [.ref (wA Y 13 0), .ref (wA Y 15 603), .ref (wA Y 15 604), .ref (wA Y 15 605), .ref (wA Y 15 606), .ref (wA Y 15 607), .ref (wA Y 15 608), .ref (wA Y 15 609), .ref (wA Y 15 610), .ref (wA Y 15 611), .ref (wA Y 15 612), .ref (wA Y 15 613), .int (zJ q), .int (zJ 1), .int (zJ (k + 1)), zU, zU, zU, zU] [] (wd Y n s X) := by
      rw [q_L_isSo_97]
      by_cases k1 : X 1011 k = 0
      · have e2 : ¬32768 ≤ X 1103 k := by omega
        rw [if_pos k1] at c
        simp (disch := first | assumption | omega) only [↓reduceIte, l_0, l_1, l_2, l_3, l_4, l_5, l_6, l_7, l_8, l_9, l_10, l_12, l_16, l_24, l_31, l_32, l_48, l_96, l_99, l_100, l_150, l_180, l_200, l_240, l_255, l_260, l_384, l_400, l_999, l_5000, l_9999, l_1000000, l_1000000000, l_11, l_13, l_14, l_15, l_17, l_18, l_19, l_20, l_21, l_22, l_23, l_25, l_26, l_28, l_30, l_34, l_38, l_42, l_44, l_54, l_60, l_64, l_81, l_90, l_101, l_103, l_110, l_120, l_128, l_140, l_256, l_401, l_403, l_450, l_512, l_853, l_983, l_1000, l_1001, l_2048, l_3000000, l_2000000, l_4096, l_5001, l_5002, l_10000, l_10001, l_32767, l_32768, l_60000, l_2147483647, zJ_lt, zJ_le, zJ_eq, zJ_add, zJ_sub, zJ_mul, zJ_neg, zJ_dv, t_I, t_Ie, t_R, t_Re, t_N, t_Nn, t_V, t_Ve, t_b, t_x, t_w, e_0, e_1, e_2, e_3, ↓t_0, ↓t_1, t_00, t_11, if_true, if_false, ite_not, not_false_eq_true, not_true_eq_false, Int.reduceEq, Int.reduceLT, Int.reduceLE, Int.reduceNeg, Nat.reduceEqDiff, Bool.false_eq_true, lg_ hL, pg.2.2.1, e1, k13 h13, c, lw_ hL, e2, ly_ hL, w2]
        rw [q_L_isSo_138]
        simp (disch := first | assumption | omega) only [↓reduceIte, l_0, l_1, l_2, l_3, l_4, l_5, l_6, l_7, l_8, l_9, l_10, l_12, l_16, l_24, l_31, l_32, l_48, l_96, l_99, l_100, l_150, l_180, l_200, l_240, l_255, l_260, l_384, l_400, l_999, l_5000, l_9999, l_1000000, l_1000000000, l_11, l_13, l_14, l_15, l_17, l_18, l_19, l_20, l_21, l_22, l_23, l_25, l_26, l_28, l_30, l_34, l_38, l_42, l_44, l_54, l_60, l_64, l_81, l_90, l_101, l_103, l_110, l_120, l_128, l_140, l_256, l_401, l_403, l_450, l_512, l_853, l_983, l_1000, l_1001, l_2048, l_3000000, l_2000000, l_4096, l_5001, l_5002, l_10000, l_10001, l_32767, l_32768, l_60000, l_2147483647, zJ_lt, zJ_le, zJ_eq, zJ_add, zJ_sub, zJ_mul, zJ_neg, zJ_dv, t_I, t_Ie, t_R, t_Re, t_N, t_Nn, t_V, t_Ve, t_b, t_x, t_w, e_0, e_1, e_2, e_3, ↓t_0, ↓t_1, t_00, t_11, if_true, if_false, ite_not, not_false_eq_true, not_true_eq_false, Int.reduceEq, Int.reduceLT, Int.reduceLE, Int.reduceNeg, Nat.reduceEqDiff, Bool.false_eq_true]
      · have e2 : 32768 ≤ X 1103 k := by omega
        rw [if_neg k1] at c
        simp (disch := first | assumption | omega) only [↓reduceIte, l_0, l_1, l_2, l_3, l_4, l_5, l_6, l_7, l_8, l_9, l_10, l_12, l_16, l_24, l_31, l_32, l_48, l_96, l_99, l_100, l_150, l_180, l_200, l_240, l_255, l_260, l_384, l_400, l_999, l_5000, l_9999, l_1000000, l_1000000000, l_11, l_13, l_14, l_15, l_17, l_18, l_19, l_20, l_21, l_22, l_23, l_25, l_26, l_28, l_30, l_34, l_38, l_42, l_44, l_54, l_60, l_64, l_81, l_90, l_101, l_103, l_110, l_120, l_128, l_140, l_256, l_401, l_403, l_450, l_512, l_853, l_983, l_1000, l_1001, l_2048, l_3000000, l_2000000, l_4096, l_5001, l_5002, l_10000, l_10001, l_32767, l_32768, l_60000, l_2147483647, zJ_lt, zJ_le, zJ_eq, zJ_add, zJ_sub, zJ_mul, zJ_neg, zJ_dv, t_I, t_Ie, t_R, t_Re, t_N, t_Nn, t_V, t_Ve, t_b, t_x, t_w, e_0, e_1, e_2, e_3, ↓t_0, ↓t_1, t_00, t_11, if_true, if_false, ite_not, not_false_eq_true, not_true_eq_false, Int.reduceEq, Int.reduceLT, Int.reduceLE, Int.reduceNeg, Nat.reduceEqDiff, Bool.false_eq_true, lg_ hL, pg.2.2.1, e1, k13 h13, c, lw_ hL, e2]
        rw [q_L_isSo_138]
        simp (disch := first | assumption | omega) only [↓reduceIte, l_0, l_1, l_2, l_3, l_4, l_5, l_6, l_7, l_8, l_9, l_10, l_12, l_16, l_24, l_31, l_32, l_48, l_96, l_99, l_100, l_150, l_180, l_200, l_240, l_255, l_260, l_384, l_400, l_999, l_5000, l_9999, l_1000000, l_1000000000, l_11, l_13, l_14, l_15, l_17, l_18, l_19, l_20, l_21, l_22, l_23, l_25, l_26, l_28, l_30, l_34, l_38, l_42, l_44, l_54, l_60, l_64, l_81, l_90, l_101, l_103, l_110, l_120, l_128, l_140, l_256, l_401, l_403, l_450, l_512, l_853, l_983, l_1000, l_1001, l_2048, l_3000000, l_2000000, l_4096, l_5001, l_5002, l_10000, l_10001, l_32767, l_32768, l_60000, l_2147483647, zJ_lt, zJ_le, zJ_eq, zJ_add, zJ_sub, zJ_mul, zJ_neg, zJ_dv, t_I, t_Ie, t_R, t_Re, t_N, t_Nn, t_V, t_Ve, t_b, t_x, t_w, e_0, e_1, e_2, e_3, ↓t_0, ↓t_1, t_00, t_11, if_true, if_false, ite_not, not_false_eq_true, not_true_eq_false, Int.reduceEq, Int.reduceLT, Int.reduceLE, Int.reduceNeg, Nat.reduceEqDiff, Bool.false_eq_true]
    rw [hst, ih (k + 1) (by omega) (by omega)]
theorem S_196 (hZ : zLA G t Y n X) (hk : 0 ≤ k ∧ k < 12) (hj : 0 ≤ j ∧ j + 8 ≤ 32) {x15 : Int32} : ∀ (m : Nat) (i c : Int), 0 ≤ c → j ≤ i → i + m = j + 8 → ev_ G 217 196 [.ref (wA Y 13 0), .ref (wA Y 15 603), .ref (wA Y 15 604), .ref (wA Y 15 605), .ref (wA Y 15 606), .ref (wA Y 15 607), .ref (wA Y 15 608), .ref (wA Y 15 609), .ref (wA Y 15 610), .ref (wA Y 15 611), .ref (wA Y 15 612), .ref (wA Y 15 613), .int (zJ q), .int (zJ 1), .int (zJ k), .int x15, .int (zJ j), .int (zJ (zB (0 < c))), .int (zJ i)] [] (wd Y n s X) = ev_ G 217 196 [.ref (wA Y 13 0), .ref (wA Y 15 603), .ref (wA Y 15 604), .ref (wA Y 15 605), .ref (wA Y 15 606), .ref (wA Y 15 607), .ref (wA Y 15 608), .ref (wA Y 15 609), .ref (wA Y 15 610), .ref (wA Y 15 611), .ref (wA Y 15 612), .ref (wA Y 15 613), .int (zJ q), .int (zJ 1), .int (zJ k), .int x15, .int (zJ j), .int (zJ (zB (0 < c + zsm (fun m => zB (X 1038 m = k)) i m))), .int (zJ (j + 8))] [] (wd Y n s X) := by
  have hZ' := hZ
  obtain ⟨hY, hG, hI, pg, pb, pc, pw, pr, ph, ps, pf⟩ := hZ
  have hL := wY_A hY
  intro m
  induction m with
  | zero =>
    intro i c h0 h2 he
    rw [show zsm (fun m => zB (X 1038 m = k)) i 0 = 0 from rfl, Int.add_zero, show i = j + 8 by omega]
  | succ m ih =>
    intro i c h0 h2 he
    have e1 : ¬j + 8 ≤ i := by omega
    obtain ⟨r1, r2, r3, r4, r5, r6, r7, r8, r9, r10, r11⟩ := pS_r hZ' (k := i) (by omega)
    have hz : zsm (fun m => zB (X 1038 m = k)) i (m + 1) = zB (X 1038 i = k) + zsm (fun m => zB (X 1038 m = k)) (i + 1) m := rfl
    have hst : ev_ G 217 196 [.ref (wA Y 13 0), .ref (wA Y 15 603), .ref (wA Y 15 604), .ref (wA Y 15 605), .ref (wA Y 15 606), .ref (wA Y 15 607), .ref (wA Y 15 608), .ref (wA Y 15 609), .ref (wA Y 15 610), .ref (wA Y 15 611), .ref (wA Y 15 612), .ref (wA Y 15 613), .int (zJ q), .int (zJ 1), .int (zJ k), .int x15, .int (zJ j), .int (zJ (zB (0 < c))), .int (zJ i)] [] (wd Y n s X) = ev_ G 217 196 [.ref (wA Y 13 0), .ref (wA Y 15 603), .ref (wA Y 15 604), .ref (wA Y 15 605), .ref (wA Y 15 606), .ref (wA Y 15 607), .ref (wA Y 15 608), .ref (wA Y 15 609), .ref (wA Y 15 610), .ref (wA Y 15 611), .ref (wA Y 15 612), .ref (wA Y 15 613), .int (zJ q), .int (zJ 1), .int (zJ k), .int x15, .int (zJ j), .int (zJ (zB (0 < c + zB (X 1038 i = k)))), .int (zJ (i + 1))] [] (wd Y n s X) := by
      rw [q_L_isSo_196]
      by_cases k1 : 0 < c
      · have hb := zB_r (X 1038 i = k)
        rw [zB_1 k1, zB_1 (show 0 < c + zB (X 1038 i = k) by omega)]
        simp (disch := first | assumption | omega) only [↓reduceIte, l_0, l_1, l_2, l_3, l_4, l_5, l_6, l_7, l_8, l_9, l_10, l_12, l_16, l_24, l_31, l_32, l_48, l_96, l_99, l_100, l_150, l_180, l_200, l_240, l_255, l_260, l_384, l_400, l_999, l_5000, l_9999, l_1000000, l_1000000000, l_11, l_13, l_14, l_15, l_17, l_18, l_19, l_20, l_21, l_22, l_23, l_25, l_26, l_28, l_30, l_34, l_38, l_42, l_44, l_54, l_60, l_64, l_81, l_90, l_101, l_103, l_110, l_120, l_128, l_140, l_256, l_401, l_403, l_450, l_512, l_853, l_983, l_1000, l_1001, l_2048, l_3000000, l_2000000, l_4096, l_5001, l_5002, l_10000, l_10001, l_32767, l_32768, l_60000, l_2147483647, zJ_lt, zJ_le, zJ_eq, zJ_add, zJ_sub, zJ_mul, zJ_neg, zJ_dv, t_I, t_Ie, t_R, t_Re, t_N, t_Nn, t_V, t_Ve, t_b, t_x, t_w, e_0, e_1, e_2, e_3, ↓t_0, ↓t_1, t_00, t_11, if_true, if_false, ite_not, not_false_eq_true, not_true_eq_false, Int.reduceEq, Int.reduceLT, Int.reduceLE, Int.reduceNeg, Nat.reduceEqDiff, Bool.false_eq_true, e1]
      · rw [zB_0 k1]
        by_cases k2 : X 1038 i = k
        · rw [zB_1 k2, zB_1 (show 0 < c + 1 by omega)]
          simp (disch := first | assumption | omega) only [↓reduceIte, l_0, l_1, l_2, l_3, l_4, l_5, l_6, l_7, l_8, l_9, l_10, l_12, l_16, l_24, l_31, l_32, l_48, l_96, l_99, l_100, l_150, l_180, l_200, l_240, l_255, l_260, l_384, l_400, l_999, l_5000, l_9999, l_1000000, l_1000000000, l_11, l_13, l_14, l_15, l_17, l_18, l_19, l_20, l_21, l_22, l_23, l_25, l_26, l_28, l_30, l_34, l_38, l_42, l_44, l_54, l_60, l_64, l_81, l_90, l_101, l_103, l_110, l_120, l_128, l_140, l_256, l_401, l_403, l_450, l_512, l_853, l_983, l_1000, l_1001, l_2048, l_3000000, l_2000000, l_4096, l_5001, l_5002, l_10000, l_10001, l_32767, l_32768, l_60000, l_2147483647, zJ_lt, zJ_le, zJ_eq, zJ_add, zJ_sub, zJ_mul, zJ_neg, zJ_dv, t_I, t_Ie, t_R, t_Re, t_N, t_Nn, t_V, t_Ve, t_b, t_x, t_w, e_0, e_1, e_2, e_3, ↓t_0, ↓t_1, t_00, t_11, if_true, if_false, ite_not, not_false_eq_true, not_true_eq_false, Int.reduceEq, Int.reduceLT, Int.reduceLE, Int.reduceNeg, Nat.reduceEqDiff, Bool.false_eq_true, zem, e1, ls_ hL, r1, k2]
        · rw [zB_0 k2, zB_0 (show ¬0 < c + 0 by omega)]
          have k3 : ¬X 1038 i + 1 = k + 1 := by omega
          simp (disch := first | assumption | omega) only [↓reduceIte, l_0, l_1, l_2, l_3, l_4, l_5, l_6, l_7, l_8, l_9, l_10, l_12, l_16, l_24, l_31, l_32, l_48, l_96, l_99, l_100, l_150, l_180, l_200, l_240, l_255, l_260, l_384, l_400, l_999, l_5000, l_9999, l_1000000, l_1000000000, l_11, l_13, l_14, l_15, l_17, l_18, l_19, l_20, l_21, l_22, l_23, l_25, l_26, l_28, l_30, l_34, l_38, l_42, l_44, l_54, l_60, l_64, l_81, l_90, l_101, l_103, l_110, l_120, l_128, l_140, l_256, l_401, l_403, l_450, l_512, l_853, l_983, l_1000, l_1001, l_2048, l_3000000, l_2000000, l_4096, l_5001, l_5002, l_10000, l_10001, l_32767, l_32768, l_60000, l_2147483647, zJ_lt, zJ_le, zJ_eq, zJ_add, zJ_sub, zJ_mul, zJ_neg, zJ_dv, t_I, t_Ie, t_R, t_Re, t_N, t_Nn, t_V, t_Ve, t_b, t_x, t_w, e_0, e_1, e_2, e_3, ↓t_0, ↓t_1, t_00, t_11, if_true, if_false, ite_not, not_false_eq_true, not_true_eq_false, Int.reduceEq, Int.reduceLT, Int.reduceLE, Int.reduceNeg, Nat.reduceEqDiff, Bool.false_eq_true, zem, e1, ls_ hL, r1, k3]
    have hb := zB_r (X 1038 i = k)
    rw [hst, ih (i + 1) _ (by omega) (by omega) (by omega), hz, Int.add_assoc]
theorem S_177 (hZ : zLA G t Y n X) (hk : 0 ≤ k ∧ k < 12) {u17 u18 : Value} : ∀ (m : Nat) (b a : Int) (u17 u18 : Value), 0 ≤ b → b + m = X 434 0 → ∃ w17 w18 : Value, ev_ G 217 177 [.ref (wA Y 13 0), .ref (wA Y 15 603), .ref (wA Y 15 604), .ref (wA Y 15 605), .ref (wA Y 15 606), .ref (wA Y 15 607), .ref (wA Y 15 608), .ref (wA Y 15 609), .ref (wA Y 15 610), .ref (wA Y 15 611), .ref (wA Y 15 612), .ref (wA Y 15 613), .int (zJ q), .int (zJ 1), .int (zJ k), .int (zJ a), .int (zJ (8 * b)), u17, u18] [] (wd Y n s X) = ev_ G 217 177 [.ref (wA Y 13 0), .ref (wA Y 15 603), .ref (wA Y 15 604), .ref (wA Y 15 605), .ref (wA Y 15 606), .ref (wA Y 15 607), .ref (wA Y 15 608), .ref (wA Y 15 609), .ref (wA Y 15 610), .ref (wA Y 15 611), .ref (wA Y 15 612), .ref (wA Y 15 613), .int (zJ q), .int (zJ 1), .int (zJ k), .int (zJ (a + zsm (fun b => zB (X 1037 b ≠ 0 ∧ 0 < zsm (fun m => zB (X 1038 m = k)) (8 * b) 8)) b m)), .int (zJ (8 * X 434 0)), w17, w18] [] (wd Y n s X) := by
  have hZ' := hZ
  obtain ⟨hY, hG, hI, pg, pb, pc, pw, pr, ph, ps, pf⟩ := hZ
  have hL := wY_A hY
  have h4 := pg.2.2.2.2.2.2.2
  have h12 := hI.2.2.2.2.2.2.2.2.2.2.2
  intro m
  induction m with
  | zero =>
    intro b a u17 u18 h0 he
    refine ⟨u17, u18, ?_⟩
    rw [show zsm (fun b => zB (X 1037 b ≠ 0 ∧ 0 < zsm (fun m => zB (X 1038 m = k)) (8 * b) 8)) b 0 = 0 from rfl, Int.add_zero, show b = X 434 0 by omega]
  | succ m ih =>
    intro b a u17 u18 h0 he
    have e1 : ¬8 * X 434 0 ≤ 8 * b := by omega
    have c2 := h12.2.1 b h0 (by omega)
    obtain ⟨q1, q2, q3, q4⟩ := ps.2 b h0 (by omega)
    have hs := S_196 (s := s) (q := q) (x15 := zJ a) hZ' hk (j := 8 * b) (by omega) 8 (8 * b) 0 (by decide) (Int.le_refl _) (by omega)
    rw [Int.zero_add] at hs
    have hb0 := zsm_B (f := fun m => zB (X 1038 m = k)) (fun i => zB_r _) 8 (8 * b)
    have hz : zsm (fun b => zB (X 1037 b ≠ 0 ∧ 0 < zsm (fun m => zB (X 1038 m = k)) (8 * b) 8)) b (m + 1) = zB (X 1037 b ≠ 0 ∧ 0 < zsm (fun m => zB (X 1038 m = k)) (8 * b) 8) + zsm (fun b => zB (X 1037 b ≠ 0 ∧ 0 < zsm (fun m => zB (X 1038 m = k)) (8 * b) 8)) (b + 1) m := rfl
    have hst : ∃ w17 w18 : Value, ev_ G 217 177 [.ref (wA Y 13 0), .ref (wA Y 15 603), .ref (wA Y 15 604), .ref (wA Y 15 605), .ref (wA Y 15 606), .ref (wA Y 15 607), .ref (wA Y 15 608), .ref (wA Y 15 609), .ref (wA Y 15 610), .ref (wA Y 15 611), .ref (wA Y 15 612), .ref (wA Y 15 613), .int (zJ q), .int (zJ 1), .int (zJ k), .int (zJ a), .int (zJ (8 * b)), u17, u18] [] (wd Y n s X) = ev_ G 217 177 [.ref (wA Y 13 0), .ref (wA Y 15 603), .ref (wA Y 15 604), .ref (wA Y 15 605), .ref (wA Y 15 606), .ref (wA Y 15 607), .ref (wA Y 15 608), .ref (wA Y 15 609), .ref (wA Y 15 610), .ref (wA Y 15 611), .ref (wA Y 15 612), .ref (wA Y 15 613), .int (zJ q), .int (zJ 1), .int (zJ k), .int (zJ (a + zB (X 1037 b ≠ 0 ∧ 0 < zsm (fun m => zB (X 1038 m = k)) (8 * b) 8))), .int (zJ (8 * (b + 1))), w17, w18] [] (wd Y n s X) := by
      have e0 : ev_ G 217 177 [.ref (wA Y 13 0), .ref (wA Y 15 603), .ref (wA Y 15 604), .ref (wA Y 15 605), .ref (wA Y 15 606), .ref (wA Y 15 607), .ref (wA Y 15 608), .ref (wA Y 15 609), .ref (wA Y 15 610), .ref (wA Y 15 611), .ref (wA Y 15 612), .ref (wA Y 15 613), .int (zJ q), .int (zJ 1), .int (zJ k), .int (zJ a), .int (zJ (8 * b)), u17, u18] [] (wd Y n s X) = ev_ G 217 196 [.ref (wA Y 13 0), .ref (wA Y 15 603), .ref (wA Y 15 604), .ref (wA Y 15 605), .ref (wA Y 15 606), .ref (wA Y 15 607), .ref (wA Y 15 608), .ref (wA Y 15 609), .ref (wA Y 15 610), .ref (wA Y 15 611), .ref (wA Y 15 612), .ref (wA Y 15 613), .int (zJ q), .int (zJ 1), .int (zJ k), .int (zJ a), .int (zJ (8 * b)), .int (zJ (zB (0 < (0 : Int)))), .int (zJ (8 * b))] [] (wd Y n s X) := by
        rw [q_L_isSo_177, zB_0 (show ¬0 < (0 : Int) by decide)]
        simp (disch := first | assumption | omega) only [↓reduceIte, l_0, l_1, l_2, l_3, l_4, l_5, l_6, l_7, l_8, l_9, l_10, l_12, l_16, l_24, l_31, l_32, l_48, l_96, l_99, l_100, l_150, l_180, l_200, l_240, l_255, l_260, l_384, l_400, l_999, l_5000, l_9999, l_1000000, l_1000000000, l_11, l_13, l_14, l_15, l_17, l_18, l_19, l_20, l_21, l_22, l_23, l_25, l_26, l_28, l_30, l_34, l_38, l_42, l_44, l_54, l_60, l_64, l_81, l_90, l_101, l_103, l_110, l_120, l_128, l_140, l_256, l_401, l_403, l_450, l_512, l_853, l_983, l_1000, l_1001, l_2048, l_3000000, l_2000000, l_4096, l_5001, l_5002, l_10000, l_10001, l_32767, l_32768, l_60000, l_2147483647, zJ_lt, zJ_le, zJ_eq, zJ_add, zJ_sub, zJ_mul, zJ_neg, zJ_dv, t_I, t_Ie, t_R, t_Re, t_N, t_Nn, t_V, t_Ve, t_b, t_x, t_w, e_0, e_1, e_2, e_3, ↓t_0, ↓t_1, t_00, t_11, if_true, if_false, ite_not, not_false_eq_true, not_true_eq_false, Int.reduceEq, Int.reduceLT, Int.reduceLE, Int.reduceNeg, Nat.reduceEqDiff, Bool.false_eq_true, lg_ hL, pg.2.2.2.2.1, e1]
      generalize hcz : zsm (fun m => zB (X 1038 m = k)) (8 * b) 8 = z at hs hb0
      have e8 : 8 * b + 8 = 8 * (b + 1) := by omega
      have e9 : 8 * (b + 1) ≤ 8 * (b + 1) := Int.le_refl _
      have e10 : 8 * b / 8 = b := by omega
      by_cases k1 : 0 < z
      · rw [zB_1 k1, e8] at hs
        by_cases k2 : X 1037 b = 0
        · have e11 : ¬X 1111 b / 4 = 1 := by omega
          refine ⟨.int (zJ 1), .int (zJ (8 * (b + 1))), e0.trans (hs.trans ?_)⟩
          rw [q_L_isSo_196]
          simp (disch := first | assumption | omega) only [↓reduceIte, l_0, l_1, l_2, l_3, l_4, l_5, l_6, l_7, l_8, l_9, l_10, l_12, l_16, l_24, l_31, l_32, l_48, l_96, l_99, l_100, l_150, l_180, l_200, l_240, l_255, l_260, l_384, l_400, l_999, l_5000, l_9999, l_1000000, l_1000000000, l_11, l_13, l_14, l_15, l_17, l_18, l_19, l_20, l_21, l_22, l_23, l_25, l_26, l_28, l_30, l_34, l_38, l_42, l_44, l_54, l_60, l_64, l_81, l_90, l_101, l_103, l_110, l_120, l_128, l_140, l_256, l_401, l_403, l_450, l_512, l_853, l_983, l_1000, l_1001, l_2048, l_3000000, l_2000000, l_4096, l_5001, l_5002, l_10000, l_10001, l_32767, l_32768, l_60000, l_2147483647, zJ_lt, zJ_le, zJ_eq, zJ_add, zJ_sub, zJ_mul, zJ_neg, zJ_dv, t_I, t_Ie, t_R, t_Re, t_N, t_Nn, t_V, t_Ve, t_b, t_x, t_w, e_0, e_1, e_2, e_3, ↓t_0, ↓t_1, t_00, t_11, if_true, if_false, ite_not, not_false_eq_true, not_true_eq_false, Int.reduceEq, Int.reduceLT, Int.reduceLE, Int.reduceNeg, Nat.reduceEqDiff, Bool.false_eq_true, e8, e9, e10, lq_ hL, e11]
          rw [zB_0 (fun g => g.1 k2)]
        · have e11 : X 1111 b / 4 = 1 := by omega
          refine ⟨.int (zJ 1), .int (zJ (8 * (b + 1))), e0.trans (hs.trans ?_)⟩
          rw [q_L_isSo_196]
          simp (disch := first | assumption | omega) only [↓reduceIte, l_0, l_1, l_2, l_3, l_4, l_5, l_6, l_7, l_8, l_9, l_10, l_12, l_16, l_24, l_31, l_32, l_48, l_96, l_99, l_100, l_150, l_180, l_200, l_240, l_255, l_260, l_384, l_400, l_999, l_5000, l_9999, l_1000000, l_1000000000, l_11, l_13, l_14, l_15, l_17, l_18, l_19, l_20, l_21, l_22, l_23, l_25, l_26, l_28, l_30, l_34, l_38, l_42, l_44, l_54, l_60, l_64, l_81, l_90, l_101, l_103, l_110, l_120, l_128, l_140, l_256, l_401, l_403, l_450, l_512, l_853, l_983, l_1000, l_1001, l_2048, l_3000000, l_2000000, l_4096, l_5001, l_5002, l_10000, l_10001, l_32767, l_32768, l_60000, l_2147483647, zJ_lt, zJ_le, zJ_eq, zJ_add, zJ_sub, zJ_mul, zJ_neg, zJ_dv, t_I, t_Ie, t_R, t_Re, t_N, t_Nn, t_V, t_Ve, t_b, t_x, t_w, e_0, e_1, e_2, e_3, ↓t_0, ↓t_1, t_00, t_11, if_true, if_false, ite_not, not_false_eq_true, not_true_eq_false, Int.reduceEq, Int.reduceLT, Int.reduceLE, Int.reduceNeg, Nat.reduceEqDiff, Bool.false_eq_true, e8, e9, e10, lq_ hL, e11]
          rw [zB_1 ⟨k2, k1⟩]
      · rw [zB_0 k1, e8] at hs
        refine ⟨.int (zJ 0), .int (zJ (8 * (b + 1))), e0.trans (hs.trans ?_)⟩
        rw [q_L_isSo_196]
        simp (disch := first | assumption | omega) only [↓reduceIte, l_0, l_1, l_2, l_3, l_4, l_5, l_6, l_7, l_8, l_9, l_10, l_12, l_16, l_24, l_31, l_32, l_48, l_96, l_99, l_100, l_150, l_180, l_200, l_240, l_255, l_260, l_384, l_400, l_999, l_5000, l_9999, l_1000000, l_1000000000, l_11, l_13, l_14, l_15, l_17, l_18, l_19, l_20, l_21, l_22, l_23, l_25, l_26, l_28, l_30, l_34, l_38, l_42, l_44, l_54, l_60, l_64, l_81, l_90, l_101, l_103, l_110, l_120, l_128, l_140, l_256, l_401, l_403, l_450, l_512, l_853, l_983, l_1000, l_1001, l_2048, l_3000000, l_2000000, l_4096, l_5001, l_5002, l_10000, l_10001, l_32767, l_32768, l_60000, l_2147483647, zJ_lt, zJ_le, zJ_eq, zJ_add, zJ_sub, zJ_mul, zJ_neg, zJ_dv, t_I, t_Ie, t_R, t_Re, t_N, t_Nn, t_V, t_Ve, t_b, t_x, t_w, e_0, e_1, e_2, e_3, ↓t_0, ↓t_1, t_00, t_11, if_true, if_false, ite_not, not_false_eq_true, not_true_eq_false, Int.reduceEq, Int.reduceLT, Int.reduceLE, Int.reduceNeg, Nat.reduceEqDiff, Bool.false_eq_true, e8, e9]
        rw [zB_0 (fun g => k1 g.2)]
    obtain ⟨w17, w18, e2⟩ := hst
    obtain ⟨y17, y18, e3⟩ := ih (b + 1) _ w17 w18 (by omega) (by omega)
    exact ⟨y17, y18, by rw [e2, e3, hz, Int.add_assoc]⟩
theorem S_157 (hZ : zLA G t Y n X) : ∀ (m : Nat) (k : Int) (u15 u16 u17 u18 : Value), 0 ≤ k → k + m = X 425 0 → ∃ w15 w16 w17 w18 : Value, ev_ G 217 157 [.ref (wA Y 13 0), .ref (wA Y 15 603), .ref (wA Y 15 604), .ref (wA Y 15 605), .ref (wA Y 15 606), .ref (wA Y 15 607), .ref (wA Y 15 608), .ref (wA Y 15 609), .ref (wA Y 15 610), .ref (wA Y 15 611), .ref (wA Y 15 612), .ref (wA Y 15 613), .int (zJ q), .int (zJ 1), .int (zJ k), u15, u16, u17, u18] [] (wd Y n s X) = ev_ G 217 353 [.ref (wA Y 13 0), .ref (wA Y 15 603), .ref (wA Y 15 604), .ref (wA Y 15 605), .ref (wA Y 15 606), .ref (wA Y 15 607), .ref (wA Y 15 608), .ref (wA Y 15 609), .ref (wA Y 15 610), .ref (wA Y 15 611), .ref (wA Y 15 612), .ref (wA Y 15 613), .int (zJ q), .int (zJ 1), .int (zJ 0), w15, w16, w17, w18] [] (wd Y n s X) := by
  have hZ' := hZ
  obtain ⟨hY, hG, hI, pg, pb, pc, pw, pr, ph, ps, pf⟩ := hZ
  have hL := wY_A hY
  have h13 := (wY_F hY).2.1
  have h8 := hI.2.2.2.2.2.2.2.1
  have h9 := hI.2.2.2.2.2.2.2.2.1
  unfold iM at h9
  have h12 := hI.2.2.2.2.2.2.2.2.2.2.2
  have z1 := h8.1
  have z4 := h12.1
  have hQ3 := hY.2.2.2.2.1
  have hQ4 := hY.2.2.2.2.2.1
  intro m
  induction m with
  | zero =>
    intro k u15 u16 u17 u18 h0 he
    have e1 : X 425 0 ≤ k := by omega
    refine ⟨u15, u16, u17, u18, ?_⟩
    rw [q_L_isSo_157]
    simp (disch := first | assumption | omega) only [↓reduceIte, l_0, l_1, l_2, l_3, l_4, l_5, l_6, l_7, l_8, l_9, l_10, l_12, l_16, l_24, l_31, l_32, l_48, l_96, l_99, l_100, l_150, l_180, l_200, l_240, l_255, l_260, l_384, l_400, l_999, l_5000, l_9999, l_1000000, l_1000000000, l_11, l_13, l_14, l_15, l_17, l_18, l_19, l_20, l_21, l_22, l_23, l_25, l_26, l_28, l_30, l_34, l_38, l_42, l_44, l_54, l_60, l_64, l_81, l_90, l_101, l_103, l_110, l_120, l_128, l_140, l_256, l_401, l_403, l_450, l_512, l_853, l_983, l_1000, l_1001, l_2048, l_3000000, l_2000000, l_4096, l_5001, l_5002, l_10000, l_10001, l_32767, l_32768, l_60000, l_2147483647, zJ_lt, zJ_le, zJ_eq, zJ_add, zJ_sub, zJ_mul, zJ_neg, zJ_dv, t_I, t_Ie, t_R, t_Re, t_N, t_Nn, t_V, t_Ve, t_b, t_x, t_w, e_0, e_1, e_2, e_3, ↓t_0, ↓t_1, t_00, t_11, if_true, if_false, ite_not, not_false_eq_true, not_true_eq_false, Int.reduceEq, Int.reduceLT, Int.reduceLE, Int.reduceNeg, Nat.reduceEqDiff, Bool.false_eq_true, lg_ hL, pg.2.2.2.1, e1]
  | succ m ih =>
    intro k u15 u16 u17 u18 h0 he
    have e1 : ¬X 425 0 ≤ k := by omega
    obtain ⟨a1, a2, a3, a4, a5, a6⟩ := h8.2.2 k h0 (by omega)
    have r2 := h8.2.1 k h0 (by omega)
    obtain ⟨p1, p2, p3⟩ := pr k h0 (by omega)
    have e2 : X 1105 k % 8 = X 180 k := by omega
    have c0 := qc_ofReel (G := G) (n := n) (s := s) (p := k) (q := 0) hY hI ⟨h0, by omega⟩ (by decide)
    have c1 := qc_ofReel (G := G) (n := n) (s := s) (p := k) (q := 1) hY hI ⟨h0, by omega⟩ (by decide)
    have c2 := qc_ofReel (G := G) (n := n) (s := s) (p := k) (q := 2) hY hI ⟨h0, by omega⟩ (by decide)
    rw [if_pos rfl] at c0
    rw [if_neg (by decide), if_pos rfl] at c1
    rw [if_neg (by decide), if_neg (by decide)] at c2
    have v2 := L_runs (s := s) hZ' (k := k) ⟨h0, by omega⟩
    rw [zclk_e a6 rfl a5.1, h9.1, ← a2] at v2
    have c3 := qc_recall (G := G) (n := n) (s := s) (p := k) hY hI ⟨h0, by omega⟩
    rw [← z4] at c3
    obtain ⟨w17, w18, e3⟩ := S_177 (s := s) (q := q) (k := k) (u17 := u17) (u18 := u18) hZ' ⟨h0, by omega⟩ (X 434 0).toNat 0 0 u17 u18 (by decide) (by omega)
    rw [Int.zero_add, show 8 * (0 : Int) = 0 from rfl] at e3
    have e4 : 8 * X 434 0 ≤ 8 * X 434 0 := Int.le_refl _
    have hst : ev_ G 217 157 [.ref (wA Y 13 0), .ref (wA Y 15 603), .ref (wA Y 15 604), .ref (wA Y 15 605), .ref (wA Y 15 606), .ref (wA Y 15 607), .ref (wA Y 15 608), .ref (wA Y 15 609), .ref (wA Y 15 610), .ref (wA Y 15 611), .ref (wA Y 15 612), .ref (wA Y 15 613), .int (zJ q), .int (zJ 1), .int (zJ k), u15, u16, u17, u18] [] (wd Y n s X) = ev_ G 217 177 [.ref (wA Y 13 0), .ref (wA Y 15 603), .ref (wA Y 15 604), .ref (wA Y 15 605), .ref (wA Y 15 606), .ref (wA Y 15 607), .ref (wA Y 15 608), .ref (wA Y 15 609), .ref (wA Y 15 610), .ref (wA Y 15 611), .ref (wA Y 15 612), .ref (wA Y 15 613), .int (zJ q), .int (zJ 1), .int (zJ k), .int (zJ 0), .int (zJ 0), u17, u18] [] (wd Y n s X) := by
      rw [q_L_isSo_157]
      simp (disch := first | assumption | omega) only [↓reduceIte, l_0, l_1, l_2, l_3, l_4, l_5, l_6, l_7, l_8, l_9, l_10, l_12, l_16, l_24, l_31, l_32, l_48, l_96, l_99, l_100, l_150, l_180, l_200, l_240, l_255, l_260, l_384, l_400, l_999, l_5000, l_9999, l_1000000, l_1000000000, l_11, l_13, l_14, l_15, l_17, l_18, l_19, l_20, l_21, l_22, l_23, l_25, l_26, l_28, l_30, l_34, l_38, l_42, l_44, l_54, l_60, l_64, l_81, l_90, l_101, l_103, l_110, l_120, l_128, l_140, l_256, l_401, l_403, l_450, l_512, l_853, l_983, l_1000, l_1001, l_2048, l_3000000, l_2000000, l_4096, l_5001, l_5002, l_10000, l_10001, l_32767, l_32768, l_60000, l_2147483647, zJ_lt, zJ_le, zJ_eq, zJ_add, zJ_sub, zJ_mul, zJ_neg, zJ_dv, t_I, t_Ie, t_R, t_Re, t_N, t_Nn, t_V, t_Ve, t_b, t_x, t_w, e_0, e_1, e_2, e_3, ↓t_0, ↓t_1, t_00, t_11, if_true, if_false, ite_not, not_false_eq_true, not_true_eq_false, Int.reduceEq, Int.reduceLT, Int.reduceLE, Int.reduceNeg, Nat.reduceEqDiff, Bool.false_eq_true, lg_ hL, pg.2.2.2.1, e1]
    have e8 : ¬(8 : Nat) = 0 := by decide
    have em : (zJ (X 1105 k) - zJ (X 1105 k) / 8 * 8 : Int32) = zJ (X 180 k) := by rw [l_8, zJ_dv (by omega) (by omega) (by decide) (by decide), zJ_mul, zJ_sub, zem, e2]
    have hgo : ∃ u15 u16 : Value, ev_ G 217 177 [.ref (wA Y 13 0), .ref (wA Y 15 603), .ref (wA Y 15 604), .ref (wA Y 15 605), .ref (wA Y 15 606), .ref (wA Y 15 607), .ref (wA Y 15 608), .ref (wA Y 15 609), .ref (wA Y 15 610), .ref (wA Y 15 611), .ref (wA Y 15 612), .ref (wA Y 15 613), .int (zJ q), .int (zJ 1), .int (zJ k), .int (zJ (zsm (fun b => zB (X 1037 b ≠ 0 ∧ 0 < zsm (fun m => zB (X 1038 m = k)) (8 * b) 8)) 0 (X 434 0).toNat)), .int (zJ (8 * X 434 0)), w17, w18] [] (wd Y n s X) = ev_ G 217 157 [.ref (wA Y 13 0), .ref (wA Y 15 603), .ref (wA Y 15 604), .ref (wA Y 15 605), .ref (wA Y 15 606), .ref (wA Y 15 607), .ref (wA Y 15 608), .ref (wA Y 15 609), .ref (wA Y 15 610), .ref (wA Y 15 611), .ref (wA Y 15 612), .ref (wA Y 15 613), .int (zJ q), .int (zJ 1), .int (zJ (k + 1)), u15, u16, w17, w18] [] (wd Y n s X) := by
      refine ⟨.int (zJ (zsm (fun b => zB (X 1037 b ≠ 0 ∧ 0 < zsm (fun m => zB (X 1038 m = k)) (8 * b) 8)) 0 (X 434 0).toNat)), .int (zJ (8 * X 434 0)), ?_⟩
      rw [q_L_isSo_177, l_5, lg_ hL (by decide) (by decide), t_b, pg.2.2.2.2.1, l_8, zJ_mul, if_pos (by rw [zJ_le (by omega) (by omega) (by omega) (by omega)]; exact e4), k13 h13, l_0, c0, t_I, le_ hL h0 (by omega), t_b, ← l_0, ← l_8, if_neg e8, em, if_pos rfl, k13 h13, l_1, c1, t_I, ln_ hL h0 (by omega), t_b, p2, ← a3, if_pos rfl, k13 h13, l_2, c2, t_I, v2, t_I, if_pos rfl, k13 h13, c3, t_I, if_pos rfl, zJ_add]
    obtain ⟨y15, y16, e5⟩ := hgo
    obtain ⟨x15, x16, x17, x18, e6⟩ := ih (k + 1) y15 y16 w17 w18 (by omega) (by omega)
    exact ⟨x15, x16, x17, x18, by rw [hst, e3, e5, e6]⟩
theorem S_353 (hZ : zLA G t Y n X) (hq : 0 ≤ q ∧ q < 60000) : ∀ (m : Nat) (k : Int) (u15 u16 u17 u18 : Value), 0 ≤ k → k + m = 8 * X 434 0 → ∃ w15 w16 w17 w18 : Value, ev_ G 217 353 [.ref (wA Y 13 0), .ref (wA Y 15 603), .ref (wA Y 15 604), .ref (wA Y 15 605), .ref (wA Y 15 606), .ref (wA Y 15 607), .ref (wA Y 15 608), .ref (wA Y 15 609), .ref (wA Y 15 610), .ref (wA Y 15 611), .ref (wA Y 15 612), .ref (wA Y 15 613), .int (zJ q), .int (zJ 1), .int (zJ k), u15, u16, u17, u18] [] (wd Y n s X) = ev_ G 217 546 [.ref (wA Y 13 0), .ref (wA Y 15 603), .ref (wA Y 15 604), .ref (wA Y 15 605), .ref (wA Y 15 606), .ref (wA Y 15 607), .ref (wA Y 15 608), .ref (wA Y 15 609), .ref (wA Y 15 610), .ref (wA Y 15 611), .ref (wA Y 15 612), .ref (wA Y 15 613), .int (zJ q), .int (zJ 1), .int (zJ (8 * X 434 0)), w15, w16, w17, w18] [] (wd Y n s X) := by
  have hZ' := hZ
  obtain ⟨hY, hG, hI, pg, pb, pc, pw, pr, ph, ps, pf⟩ := hZ
  have hL := wY_A hY
  have h13 := (wY_F hY).2.1
  have h12 := hI.2.2.2.2.2.2.2.2.2.2.2
  have z4 := h12.1
  have h4 := pg.2.2.2.2.2.2.2
  intro m
  induction m with
  | zero =>
    intro k u15 u16 u17 u18 h0 he
    have e1 : 8 * X 434 0 ≤ k := by omega
    refine ⟨u15, u16, u17, u18, ?_⟩
    rw [q_L_isSo_353]
    simp (disch := first | assumption | omega) only [↓reduceIte, l_0, l_1, l_2, l_3, l_4, l_5, l_6, l_7, l_8, l_9, l_10, l_12, l_16, l_24, l_31, l_32, l_48, l_96, l_99, l_100, l_150, l_180, l_200, l_240, l_255, l_260, l_384, l_400, l_999, l_5000, l_9999, l_1000000, l_1000000000, l_11, l_13, l_14, l_15, l_17, l_18, l_19, l_20, l_21, l_22, l_23, l_25, l_26, l_28, l_30, l_34, l_38, l_42, l_44, l_54, l_60, l_64, l_81, l_90, l_101, l_103, l_110, l_120, l_128, l_140, l_256, l_401, l_403, l_450, l_512, l_853, l_983, l_1000, l_1001, l_2048, l_3000000, l_2000000, l_4096, l_5001, l_5002, l_10000, l_10001, l_32767, l_32768, l_60000, l_2147483647, zJ_lt, zJ_le, zJ_eq, zJ_add, zJ_sub, zJ_mul, zJ_neg, zJ_dv, t_I, t_Ie, t_R, t_Re, t_N, t_Nn, t_V, t_Ve, t_b, t_x, t_w, e_0, e_1, e_2, e_3, ↓t_0, ↓t_1, t_00, t_11, if_true, if_false, ite_not, not_false_eq_true, not_true_eq_false, Int.reduceEq, Int.reduceLT, Int.reduceLE, Int.reduceNeg, Nat.reduceEqDiff, Bool.false_eq_true, lg_ hL, pg.2.2.2.2.1, e1]
    rw [show k = 8 * X 434 0 by omega]
  | succ m ih =>
    intro k u15 u16 u17 u18 h0 he
    have e1 : ¬8 * X 434 0 ≤ k := by omega
    obtain ⟨r1, r2, r3, r4, r5, r6, r7, r8, r9, r10, r11⟩ := pS_r hZ' (k := k) (by omega)
    obtain ⟨b1, b2, b3, b4⟩ := ps.1 k h0 (by omega)
    have ek : 8 * (k / 8) + k % 8 = k := by omega
    have c0 := qc_ofSlot (G := G) (n := n) (s := s) (p := k / 8) (q := k % 8) (r := 0) hY hI (by omega) (by omega) (by decide)
    have c1 := qc_ofSlot (G := G) (n := n) (s := s) (p := k / 8) (q := k % 8) (r := 1) hY hI (by omega) (by omega) (by decide)
    have c2 := qc_ofSlot (G := G) (n := n) (s := s) (p := k / 8) (q := k % 8) (r := 2) hY hI (by omega) (by omega) (by decide)
    have c3 := qc_ofSlot (G := G) (n := n) (s := s) (p := k / 8) (q := k % 8) (r := 3) hY hI (by omega) (by omega) (by decide)
    have c4 := qc_jointAnew (G := G) (n := n) (s := s) (p := k / 8) (q := k % 8) hY hI (by omega) (by omega)
    rw [ek] at c0 c1 c2 c3 c4
    rw [if_pos rfl] at c0
    rw [if_neg (by decide), if_pos rfl] at c1
    rw [if_neg (by decide), if_neg (by decide), if_pos rfl] at c2
    rw [if_neg (by decide), if_neg (by decide), if_neg (by decide)] at c3
    have e3 : (if X 1043 k = 0 then (0 : Int) else 1) = X 1043 k := by split <;> omega
    rw [e3] at c3
    have e7 : X 1038 k + 1 - 1 = X 1038 k := by omega
    have e8 : (X 1041 k + 4 * X 1042 k + 8 * X 1043 k) / 4 % 2 = X 1042 k := by omega
    have e9 : (X 1041 k + 4 * X 1042 k + 8 * X 1043 k) % 4 = X 1041 k := by omega
    have e10 : (X 1041 k + 4 * X 1042 k + 8 * X 1043 k) / 8 % 2 = X 1043 k := by omega
    have hst1 : ev_ G 217 353 [.ref (wA Y 13 0), .ref (wA Y 15 603), .ref (wA Y 15 604), .ref (wA Y 15 605), .ref (wA Y 15 606), .ref (wA Y 15 607), .ref (wA Y 15 608), .ref (wA Y 15 609), .ref (wA Y 15 610), .ref (wA Y 15 611), .ref (wA Y 15 612), .ref (wA Y 15 613), .int (zJ q), .int (zJ 1), .int (zJ k), u15, u16, u17, u18] [] (wd Y n s X) = ev_ G 217 467 [.ref (wA Y 13 0), .ref (wA Y 15 603), .ref (wA Y 15 604), .ref (wA Y 15 605), .ref (wA Y 15 606), .ref (wA Y 15 607), .ref (wA Y 15 608), .ref (wA Y 15 609), .ref (wA Y 15 610), .ref (wA Y 15 611), .ref (wA Y 15 612), .ref (wA Y 15 613), .int (zJ q), .int (zJ 1), .int (zJ k), .int (zJ (X 1041 k + 4 * X 1042 k + 8 * X 1043 k)), u16, u17, u18] [.int (zJ (if X 1042 k = 0 then 0 else X 1041 k)), .int (zJ (if X 1042 k = 0 then 0 else X 1041 k))] (wd Y n s X) := by
      rw [q_L_isSo_353]
      by_cases k1 : X 1042 k = 0
      · have k2 : ¬X 1042 k = 1 := by omega
        rw [if_pos k1] at c2 ⊢
        simp (disch := first | assumption | omega) only [↓reduceIte, l_0, l_1, l_2, l_3, l_4, l_5, l_6, l_7, l_8, l_9, l_10, l_12, l_16, l_24, l_31, l_32, l_48, l_96, l_99, l_100, l_150, l_180, l_200, l_240, l_255, l_260, l_384, l_400, l_999, l_5000, l_9999, l_1000000, l_1000000000, l_11, l_13, l_14, l_15, l_17, l_18, l_19, l_20, l_21, l_22, l_23, l_25, l_26, l_28, l_30, l_34, l_38, l_42, l_44, l_54, l_60, l_64, l_81, l_90, l_101, l_103, l_110, l_120, l_128, l_140, l_256, l_401, l_403, l_450, l_512, l_853, l_983, l_1000, l_1001, l_2048, l_3000000, l_2000000, l_4096, l_5001, l_5002, l_10000, l_10001, l_32767, l_32768, l_60000, l_2147483647, zJ_lt, zJ_le, zJ_eq, zJ_add, zJ_sub, zJ_mul, zJ_neg, zJ_dv, t_I, t_Ie, t_R, t_Re, t_N, t_Nn, t_V, t_Ve, t_b, t_x, t_w, e_0, e_1, e_2, e_3, ↓t_0, ↓t_1, t_00, t_11, if_true, if_false, ite_not, not_false_eq_true, not_true_eq_false, Int.reduceEq, Int.reduceLT, Int.reduceLE, Int.reduceNeg, Nat.reduceEqDiff, Bool.false_eq_true, zem, lg_ hL, pg.2.2.2.2.1, e1, ls_ hL, lp_ hL, r1, r2, k13 h13, c0, c1, c2, e7, e8, e9, b2, k2]
      · have k2 : X 1042 k = 1 := by omega
        have k3 : (X 1042 k = 1) = True := eq_true k2
        rw [if_neg k1] at c2 ⊢
        simp (disch := first | assumption | omega) only [↓reduceIte, l_0, l_1, l_2, l_3, l_4, l_5, l_6, l_7, l_8, l_9, l_10, l_12, l_16, l_24, l_31, l_32, l_48, l_96, l_99, l_100, l_150, l_180, l_200, l_240, l_255, l_260, l_384, l_400, l_999, l_5000, l_9999, l_1000000, l_1000000000, l_11, l_13, l_14, l_15, l_17, l_18, l_19, l_20, l_21, l_22, l_23, l_25, l_26, l_28, l_30, l_34, l_38, l_42, l_44, l_54, l_60, l_64, l_81, l_90, l_101, l_103, l_110, l_120, l_128, l_140, l_256, l_401, l_403, l_450, l_512, l_853, l_983, l_1000, l_1001, l_2048, l_3000000, l_2000000, l_4096, l_5001, l_5002, l_10000, l_10001, l_32767, l_32768, l_60000, l_2147483647, zJ_lt, zJ_le, zJ_eq, zJ_add, zJ_sub, zJ_mul, zJ_neg, zJ_dv, t_I, t_Ie, t_R, t_Re, t_N, t_Nn, t_V, t_Ve, t_b, t_x, t_w, e_0, e_1, e_2, e_3, ↓t_0, ↓t_1, t_00, t_11, if_true, if_false, ite_not, not_false_eq_true, not_true_eq_false, Int.reduceEq, Int.reduceLT, Int.reduceLE, Int.reduceNeg, Nat.reduceEqDiff, Bool.false_eq_true, zem, lg_ hL, pg.2.2.2.2.1, e1, ls_ hL, lp_ hL, r1, r2, k13 h13, c0, c1, c2, e7, e8, e9, b2, k3]
    have hst2 : ev_ G 217 467 [.ref (wA Y 13 0), .ref (wA Y 15 603), .ref (wA Y 15 604), .ref (wA Y 15 605), .ref (wA Y 15 606), .ref (wA Y 15 607), .ref (wA Y 15 608), .ref (wA Y 15 609), .ref (wA Y 15 610), .ref (wA Y 15 611), .ref (wA Y 15 612), .ref (wA Y 15 613), .int (zJ q), .int (zJ 1), .int (zJ k), .int (zJ (X 1041 k + 4 * X 1042 k + 8 * X 1043 k)), u16, u17, u18] [.int (zJ (if X 1042 k = 0 then 0 else X 1041 k)), .int (zJ (if X 1042 k = 0 then 0 else X 1041 k))] (wd Y n s X) = ev_ G 217 353 [.ref (wA Y 13 0), .ref (wA Y 15 603), .ref (wA Y 15 604), .ref (wA Y 15 605), .ref (wA Y 15 606), .ref (wA Y 15 607), .ref (wA Y 15 608), .ref (wA Y 15 609), .ref (wA Y 15 610), .ref (wA Y 15 611), .ref (wA Y 15 612), .ref (wA Y 15 613), .int (zJ q), .int (zJ 1), .int (zJ (k + 1)), .int (zJ (X 1041 k + 4 * X 1042 k + 8 * X 1043 k)), u16, u17, u18] [] (wd Y n s X) := by
      rw [q_L_isSo_467, if_pos rfl]
      by_cases k3 : 0 < (k + q) % 3
      · simp (disch := first | assumption | omega) only [↓reduceIte, l_0, l_1, l_2, l_3, l_4, l_5, l_6, l_7, l_8, l_9, l_10, l_12, l_16, l_24, l_31, l_32, l_48, l_96, l_99, l_100, l_150, l_180, l_200, l_240, l_255, l_260, l_384, l_400, l_999, l_5000, l_9999, l_1000000, l_1000000000, l_11, l_13, l_14, l_15, l_17, l_18, l_19, l_20, l_21, l_22, l_23, l_25, l_26, l_28, l_30, l_34, l_38, l_42, l_44, l_54, l_60, l_64, l_81, l_90, l_101, l_103, l_110, l_120, l_128, l_140, l_256, l_401, l_403, l_450, l_512, l_853, l_983, l_1000, l_1001, l_2048, l_3000000, l_2000000, l_4096, l_5001, l_5002, l_10000, l_10001, l_32767, l_32768, l_60000, l_2147483647, zJ_lt, zJ_le, zJ_eq, zJ_add, zJ_sub, zJ_mul, zJ_neg, zJ_dv, t_I, t_Ie, t_R, t_Re, t_N, t_Nn, t_V, t_Ve, t_b, t_x, t_w, e_0, e_1, e_2, e_3, ↓t_0, ↓t_1, t_00, t_11, if_true, if_false, ite_not, not_false_eq_true, not_true_eq_false, Int.reduceEq, Int.reduceLT, Int.reduceLE, Int.reduceNeg, Nat.reduceEqDiff, Bool.false_eq_true, zem, k13 h13, c3, e10, k3]
      · simp (disch := first | assumption | omega) only [↓reduceIte, l_0, l_1, l_2, l_3, l_4, l_5, l_6, l_7, l_8, l_9, l_10, l_12, l_16, l_24, l_31, l_32, l_48, l_96, l_99, l_100, l_150, l_180, l_200, l_240, l_255, l_260, l_384, l_400, l_999, l_5000, l_9999, l_1000000, l_1000000000, l_11, l_13, l_14, l_15, l_17, l_18, l_19, l_20, l_21, l_22, l_23, l_25, l_26, l_28, l_30, l_34, l_38, l_42, l_44, l_54, l_60, l_64, l_81, l_90, l_101, l_103, l_110, l_120, l_128, l_140, l_256, l_401, l_403, l_450, l_512, l_853, l_983, l_1000, l_1001, l_2048, l_3000000, l_2000000, l_4096, l_5001, l_5002, l_10000, l_10001, l_32767, l_32768, l_60000, l_2147483647, zJ_lt, zJ_le, zJ_eq, zJ_add, zJ_sub, zJ_mul, zJ_neg, zJ_dv, t_I, t_Ie, t_R, t_Re, t_N, t_Nn, t_V, t_Ve, t_b, t_x, t_w, e_0, e_1, e_2, e_3, ↓t_0, ↓t_1, t_00, t_11, if_true, if_false, ite_not, not_false_eq_true, not_true_eq_false, Int.reduceEq, Int.reduceLT, Int.reduceLE, Int.reduceNeg, Nat.reduceEqDiff, Bool.false_eq_true, zem, k13 h13, c3, c4, e10, k3, ls_ hL, r6]
    obtain ⟨x15, x16, x17, x18, e6⟩ := ih (k + 1) (.int (zJ (X 1041 k + 4 * X 1042 k + 8 * X 1043 k))) u16 u17 u18 (by omega) (by omega)
    exact ⟨x15, x16, x17, x18, by rw [hst1, hst2, e6]⟩
theorem L_isSo (hZ : zLA G t Y n X) (ht : t < 1000) (hq : 0 ≤ q ∧ q < 60000) : ev_ G 217 0 [.ref (wA Y 13 0), .ref (wA Y 15 603), .ref (wA Y 15 604), .ref (wA Y 15 605), .ref (wA Y 15 606), .ref (wA Y 15 607), .ref (wA Y 15 608), .ref (wA Y 15 609), .ref (wA Y 15 610), .ref (wA Y 15 611), .ref (wA Y 15 612), .ref (wA Y 15 613), .int (zJ q), zU, zU, zU, zU, zU, zU] [] (wd Y n s X) = some (.inl (some (.int (zJ 1))), wd Y (n + 3) (s + 18) X) := by
  have e0 := S_0 (s := s) hZ ht hq
  have hZ' := hZ
  obtain ⟨hY, hG, hI, pg, pb, pc, pw, pr, ph, ps, pf⟩ := hZ
  have hL := wY_A hY
  have z2 := hI.2.2.2.1.1
  have z3 := hI.2.2.2.2.2.2.2.1.1
  have z4 := hI.2.2.2.2.2.2.2.2.2.2.2.1
  have hQ2 := hY.2.2.2.1
  have hQ3 := hY.2.2.2.2.1
  have hQ4 := hY.2.2.2.2.2.1
  have e1 := S_97 (s := s) (q := q) hZ' (X 410 0).toNat 0 (by decide) (by omega)
  obtain ⟨a1, a2, a3, a4, e2⟩ := S_157 (s := s) (q := q) hZ' (X 425 0).toNat 0 zU zU zU zU (by decide) (by omega)
  obtain ⟨b1, b2, b3, b4, e3⟩ := S_353 (s := s) (q := q) hZ' hq (8 * X 434 0).toNat 0 a1 a2 a3 a4 (by decide) (by omega)
  rw [e0, e1, e2, e3, q_L_isSo_546, if_neg (by decide), l_2, lg_ hL (by decide) (by decide), t_b, pg.2.2.1, l_5, l_1, zJ_neg, d_ofWire_no hY (by omega) (by omega), t_I]
  have hY1 : wY Y (n + 1) := ⟨wK_n hY.1 (Nat.le_succ _), hY.2⟩
  have hY2 : wY Y (n + 1 + 1) := ⟨wK_n hY1.1 (Nat.le_succ _), hY.2⟩
  rw [if_pos (by rw [l_3000000, zJ_neg]), l_4, lg_ hL (by decide) (by decide), t_b, pg.2.2.2.1, l_10, l_0, d_ofReel_no hY1 (by omega) (by omega), t_I, if_pos (by rw [l_3000000, zJ_neg]), lg_ hL (by decide) (by decide), t_b, pg.2.2.2.2.1, l_21, d_ofSlot_no hY2 (by omega) (by omega), t_I, if_pos (by rw [l_3000000, zJ_neg])]
  rfl
end ZL
