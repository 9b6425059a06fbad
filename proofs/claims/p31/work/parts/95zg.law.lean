/-! THE LAW, 10: bundles, connectors, mates -/
section ZL
variable {Y : zLy} {n s : Nat} {X : zX} {G : Nat × Nat} {X' : zX} {t p q r k j : Int} {E : List Int}
theorem H_b1 (hZ : zLA G t Y n X) (h1 : 0 ≤ q ∧ q < 60000) (h2 : 0 ≤ r ∧ r < 60000) (hc : X 400 0 < 16) : ∃ L M : Int, (0 ≤ L ∧ L ≤ 1000) ∧ (0 ≤ M ∧ M ≤ 25) ∧ ev_ G 218 0 [.ref (wA Y 13 0), .ref (wA Y 15 600), .ref (wA Y 15 601), .ref (wA Y 15 602), .ref (wA Y 15 603), .ref (wA Y 15 604), .ref (wA Y 15 613), .int (zJ 0), .int (zJ q), .int (zJ r), zU, zU, zU, zU, zU, zU, zU, zU, zU, zU, zU, zU, zU, zU] [] (wd Y n s X) = ev_ G 218 171 [.ref (wA Y 13 0), .ref (wA Y 15 600), .ref (wA Y 15 601), .ref (wA Y 15 602), .ref (wA Y 15 603), .ref (wA Y 15 604), .ref (wA Y 15 613), .int (zJ 0), .int (zJ q), .int (zJ r), .int (zJ (q % 9)), .int (zJ (r % 9)), .int (zJ L), .int (zJ M), .int (zJ (zB (q % 9 < 8 ∧ r % 9 < 8))), .int (zJ (zB (q % 9 ≠ r % 9 ∧ (1 ≤ L ∧ L ≤ 999) ∧ (1 ≤ M ∧ M ≤ 24)))), zU, zU, zU, zU, zU, zU, zU, zU] [.int (zJ (zB ((q % 9 < 8 ∧ r % 9 < 8) ∧ (q % 9 ≠ r % 9 ∧ (1 ≤ L ∧ L ≤ 999) ∧ (1 ≤ M ∧ M ≤ 24)))))] (wd Y n s X) := by
  obtain ⟨hY, hG, hI, pg, pb, pc, pw, pr, ph, ps, pf⟩ := hZ
  have hL := wY_A hY
  have e1 : ¬16 ≤ X 400 0 := by omega
  have h400 : 0 ≤ X 400 0 := by
    have := hI.1.1
    have := hY.2.1
    omega
  obtain ⟨L, hL0, s1⟩ : ∃ L : Int, (0 ≤ L ∧ L ≤ 1000) ∧ ev_ G 218 0 [.ref (wA Y 13 0), .ref (wA Y 15 600), .ref (wA Y 15 601), .ref (wA Y 15 602), .ref (wA Y 15 603), .ref (wA Y 15 604), .ref (wA Y 15 613), .int (zJ 0), .int (zJ q), .int (zJ r), zU, zU, zU, zU, zU, zU, zU, zU, zU, zU, zU, zU, zU, zU] [] (wd Y n s X) = ev_ G 218 61 [.ref (wA Y 13 0), .ref (wA Y 15 600), .ref (wA Y 15 601), .ref (wA Y 15 602), .ref (wA Y 15 603), .ref (wA Y 15 604), .ref (wA Y 15 613), .int (zJ 0), .int (zJ q), .int (zJ r), .int (zJ (q % 9)), .int (zJ (r % 9)), zU, zU, zU, zU, zU, zU, zU, zU, zU, zU, zU, zU] [.int (zJ L)] (wd Y n s X) := by
    rw [q_L_isHarness_0]
    by_cases k1 : q / 9 % 9 = 0
    · refine ⟨q / 81 % 1001, by omega, ?_⟩
      simp (disch := first | assumption | omega) only [↓reduceIte, l_0, l_1, l_2, l_3, l_4, l_5, l_6, l_7, l_8, l_9, l_10, l_12, l_16, l_24, l_31, l_32, l_48, l_96, l_99, l_100, l_150, l_180, l_200, l_240, l_255, l_260, l_384, l_400, l_999, l_5000, l_9999, l_1000000, l_1000000000, l_11, l_13, l_14, l_15, l_17, l_18, l_19, l_20, l_21, l_22, l_23, l_25, l_26, l_28, l_30, l_34, l_38, l_42, l_44, l_54, l_60, l_64, l_81, l_90, l_101, l_103, l_110, l_120, l_128, l_140, l_256, l_401, l_403, l_450, l_512, l_853, l_983, l_1000, l_1001, l_2048, l_3000000, l_2000000, l_4096, l_5001, l_5002, l_10000, l_10001, l_32767, l_32768, l_60000, l_2147483647, zJ_lt, zJ_le, zJ_eq, zJ_add, zJ_sub, zJ_mul, zJ_neg, zJ_dv, t_I, t_Ie, t_R, t_Re, t_N, t_Nn, t_V, t_Ve, t_b, t_x, t_w, e_0, e_1, e_2, e_3, ↓t_0, ↓t_1, t_00, t_11, if_true, if_false, ite_not, not_false_eq_true, not_true_eq_false, Int.reduceEq, Int.reduceLT, Int.reduceLE, Int.reduceNeg, Nat.reduceEqDiff, Bool.false_eq_true, zem, lg_ hL, pg.1, e1, k1]
    · refine ⟨1 + q / 81 % 12, by omega, ?_⟩
      simp (disch := first | assumption | omega) only [↓reduceIte, l_0, l_1, l_2, l_3, l_4, l_5, l_6, l_7, l_8, l_9, l_10, l_12, l_16, l_24, l_31, l_32, l_48, l_96, l_99, l_100, l_150, l_180, l_200, l_240, l_255, l_260, l_384, l_400, l_999, l_5000, l_9999, l_1000000, l_1000000000, l_11, l_13, l_14, l_15, l_17, l_18, l_19, l_20, l_21, l_22, l_23, l_25, l_26, l_28, l_30, l_34, l_38, l_42, l_44, l_54, l_60, l_64, l_81, l_90, l_101, l_103, l_110, l_120, l_128, l_140, l_256, l_401, l_403, l_450, l_512, l_853, l_983, l_1000, l_1001, l_2048, l_3000000, l_2000000, l_4096, l_5001, l_5002, l_10000, l_10001, l_32767, l_32768, l_60000, l_2147483647, zJ_lt, zJ_le, zJ_eq, zJ_add, zJ_sub, zJ_mul, zJ_neg, zJ_dv, t_I, t_Ie, t_R, t_Re, t_N, t_Nn, t_V, t_Ve, t_b, t_x, t_w, e_0, e_1, e_2, e_3, ↓t_0, ↓t_1, t_00, t_11, if_true, if_false, ite_not, not_false_eq_true, not_true_eq_false, Int.reduceEq, Int.reduceLT, Int.reduceLE, Int.reduceNeg, Nat.reduceEqDiff, Bool.false_eq_true, zem, lg_ hL, pg.1, e1, k1]
  obtain ⟨M, hM0, s2⟩ : ∃ M : Int, (0 ≤ M ∧ M ≤ 25) ∧ ev_ G 218 61 [.ref (wA Y 13 0), .ref (wA Y 15 600), .ref (wA Y 15 601), .ref (wA Y 15 602), .ref (wA Y 15 603), .ref (wA Y 15 604), .ref (wA Y 15 613), .int (zJ 0), .int (zJ q), .int (zJ r), .int (zJ (q % 9)), .int (zJ (r % 9)), zU, zU, zU, zU, zU, zU, zU, zU, zU, zU, zU, zU] [.int (zJ L)] (wd Y n s X) = ev_ G 218 94 [.ref (wA Y 13 0), .ref (wA Y 15 600), .ref (wA Y 15 601), .ref (wA Y 15 602), .ref (wA Y 15 603), .ref (wA Y 15 604), .ref (wA Y 15 613), .int (zJ 0), .int (zJ q), .int (zJ r), .int (zJ (q % 9)), .int (zJ (r % 9)), .int (zJ L), zU, zU, zU, zU, zU, zU, zU, zU, zU, zU, zU] [.int (zJ M)] (wd Y n s X) := by
    rw [q_L_isHarness_61]
    by_cases k1 : r / 9 % 9 = 0
    · refine ⟨r / 81 % 26, by omega, ?_⟩
      simp (disch := first | assumption | omega) only [↓reduceIte, l_0, l_1, l_2, l_3, l_4, l_5, l_6, l_7, l_8, l_9, l_10, l_12, l_16, l_24, l_31, l_32, l_48, l_96, l_99, l_100, l_150, l_180, l_200, l_240, l_255, l_260, l_384, l_400, l_999, l_5000, l_9999, l_1000000, l_1000000000, l_11, l_13, l_14, l_15, l_17, l_18, l_19, l_20, l_21, l_22, l_23, l_25, l_26, l_28, l_30, l_34, l_38, l_42, l_44, l_54, l_60, l_64, l_81, l_90, l_101, l_103, l_110, l_120, l_128, l_140, l_256, l_401, l_403, l_450, l_512, l_853, l_983, l_1000, l_1001, l_2048, l_3000000, l_2000000, l_4096, l_5001, l_5002, l_10000, l_10001, l_32767, l_32768, l_60000, l_2147483647, zJ_lt, zJ_le, zJ_eq, zJ_add, zJ_sub, zJ_mul, zJ_neg, zJ_dv, t_I, t_Ie, t_R, t_Re, t_N, t_Nn, t_V, t_Ve, t_b, t_x, t_w, e_0, e_1, e_2, e_3, ↓t_0, ↓t_1, t_00, t_11, if_true, if_false, ite_not, not_false_eq_true, not_true_eq_false, Int.reduceEq, Int.reduceLT, Int.reduceLE, Int.reduceNeg, Nat.reduceEqDiff, Bool.false_eq_true, zem, k1]
    · refine ⟨1 + r / 81 % 3, by omega, ?_⟩
      simp (disch := first | assumption | omega) only [↓reduceIte, l_0, l_1, l_2, l_3, l_4, l_5, l_6, l_7, l_8, l_9, l_10, l_12, l_16, l_24, l_31, l_32, l_48, l_96, l_99, l_100, l_150, l_180, l_200, l_240, l_255, l_260, l_384, l_400, l_999, l_5000, l_9999, l_1000000, l_1000000000, l_11, l_13, l_14, l_15, l_17, l_18, l_19, l_20, l_21, l_22, l_23, l_25, l_26, l_28, l_30, l_34, l_38, l_42, l_44, l_54, l_60, l_64, l_81, l_90, l_101, l_103, l_110, l_120, l_128, l_140, l_256, l_401, l_403, l_450, l_512, l_853, l_983, l_1000, l_1001, l_2048, l_3000000, l_2000000, l_4096, l_5001, l_5002, l_10000, l_10001, l_32767, l_32768, l_60000, l_2147483647, zJ_lt, zJ_le, zJ_eq, zJ_add, zJ_sub, zJ_mul, zJ_neg, zJ_dv, t_I, t_Ie, t_R, t_Re, t_N, t_Nn, t_V, t_Ve, t_b, t_x, t_w, e_0, e_1, e_2, e_3, ↓t_0, ↓t_1, t_00, t_11, if_true, if_false, ite_not, not_false_eq_true, not_true_eq_false, Int.reduceEq, Int.reduceLT, Int.reduceLE, Int.reduceNeg, Nat.reduceEqDiff, Bool.false_eq_true, zem, k1]
  refine ⟨L, M, hL0, hM0, s1.trans (s2.trans ?_)⟩
  generalize hu : q % 9 = u
  generalize hw : r % 9 = w
  have hu9 : 0 ≤ u ∧ u < 9 := by omega
  have hw9 : 0 ≤ w ∧ w < 9 := by omega
  have s3 : ev_ G 218 94 [.ref (wA Y 13 0), .ref (wA Y 15 600), .ref (wA Y 15 601), .ref (wA Y 15 602), .ref (wA Y 15 603), .ref (wA Y 15 604), .ref (wA Y 15 613), .int (zJ 0), .int (zJ q), .int (zJ r), .int (zJ u), .int (zJ w), .int (zJ L), zU, zU, zU, zU, zU, zU, zU, zU, zU, zU, zU] [.int (zJ M)] (wd Y n s X) = ev_ G 218 115 [.ref (wA Y 13 0), .ref (wA Y 15 600), .ref (wA Y 15 601), .ref (wA Y 15 602), .ref (wA Y 15 603), .ref (wA Y 15 604), .ref (wA Y 15 613), .int (zJ 0), .int (zJ q), .int (zJ r), .int (zJ u), .int (zJ w), .int (zJ L), .int (zJ M), zU, zU, zU, zU, zU, zU, zU, zU, zU, zU] [.int (zJ (zB (u < 8 ∧ w < 8)))] (wd Y n s X) := by
    rw [q_L_isHarness_94]
    by_cases k1 : 8 ≤ u
    · rw [zB_0 (show ¬(u < 8 ∧ w < 8) by omega)]
      simp (disch := first | assumption | omega) only [↓reduceIte, l_0, l_1, l_2, l_3, l_4, l_5, l_6, l_7, l_8, l_9, l_10, l_12, l_16, l_24, l_31, l_32, l_48, l_96, l_99, l_100, l_150, l_180, l_200, l_240, l_255, l_260, l_384, l_400, l_999, l_5000, l_9999, l_1000000, l_1000000000, l_11, l_13, l_14, l_15, l_17, l_18, l_19, l_20, l_21, l_22, l_23, l_25, l_26, l_28, l_30, l_34, l_38, l_42, l_44, l_54, l_60, l_64, l_81, l_90, l_101, l_103, l_110, l_120, l_128, l_140, l_256, l_401, l_403, l_450, l_512, l_853, l_983, l_1000, l_1001, l_2048, l_3000000, l_2000000, l_4096, l_5001, l_5002, l_10000, l_10001, l_32767, l_32768, l_60000, l_2147483647, zJ_lt, zJ_le, zJ_eq, zJ_add, zJ_sub, zJ_mul, zJ_neg, zJ_dv, t_I, t_Ie, t_R, t_Re, t_N, t_Nn, t_V, t_Ve, t_b, t_x, t_w, e_0, e_1, e_2, e_3, ↓t_0, ↓t_1, t_00, t_11, if_true, if_false, ite_not, not_false_eq_true, not_true_eq_false, Int.reduceEq, Int.reduceLT, Int.reduceLE, Int.reduceNeg, Nat.reduceEqDiff, Bool.false_eq_true, k1]
    · by_cases k2 : 8 ≤ w
      · rw [zB_0 (show ¬(u < 8 ∧ w < 8) by omega)]
        simp (disch := first | assumption | omega) only [↓reduceIte, l_0, l_1, l_2, l_3, l_4, l_5, l_6, l_7, l_8, l_9, l_10, l_12, l_16, l_24, l_31, l_32, l_48, l_96, l_99, l_100, l_150, l_180, l_200, l_240, l_255, l_260, l_384, l_400, l_999, l_5000, l_9999, l_1000000, l_1000000000, l_11, l_13, l_14, l_15, l_17, l_18, l_19, l_20, l_21, l_22, l_23, l_25, l_26, l_28, l_30, l_34, l_38, l_42, l_44, l_54, l_60, l_64, l_81, l_90, l_101, l_103, l_110, l_120, l_128, l_140, l_256, l_401, l_403, l_450, l_512, l_853, l_983, l_1000, l_1001, l_2048, l_3000000, l_2000000, l_4096, l_5001, l_5002, l_10000, l_10001, l_32767, l_32768, l_60000, l_2147483647, zJ_lt, zJ_le, zJ_eq, zJ_add, zJ_sub, zJ_mul, zJ_neg, zJ_dv, t_I, t_Ie, t_R, t_Re, t_N, t_Nn, t_V, t_Ve, t_b, t_x, t_w, e_0, e_1, e_2, e_3, ↓t_0, ↓t_1, t_00, t_11, if_true, if_false, ite_not, not_false_eq_true, not_true_eq_false, Int.reduceEq, Int.reduceLT, Int.reduceLE, Int.reduceNeg, Nat.reduceEqDiff, Bool.false_eq_true, k1, k2]
      · rw [zB_1 (show u < 8 ∧ w < 8 by omega)]
        simp (disch := first | assumption | omega) only [↓reduceIte, l_0, l_1, l_2, l_3, l_4, l_5, l_6, l_7, l_8, l_9, l_10, l_12, l_16, l_24, l_31, l_32, l_48, l_96, l_99, l_100, l_150, l_180, l_200, l_240, l_255, l_260, l_384, l_400, l_999, l_5000, l_9999, l_1000000, l_1000000000, l_11, l_13, l_14, l_15, l_17, l_18, l_19, l_20, l_21, l_22, l_23, l_25, l_26, l_28, l_30, l_34, l_38, l_42, l_44, l_54, l_60, l_64, l_81, l_90, l_101, l_103, l_110, l_120, l_128, l_140, l_256, l_401, l_403, l_450, l_512, l_853, l_983, l_1000, l_1001, l_2048, l_3000000, l_2000000, l_4096, l_5001, l_5002, l_10000, l_10001, l_32767, l_32768, l_60000, l_2147483647, zJ_lt, zJ_le, zJ_eq, zJ_add, zJ_sub, zJ_mul, zJ_neg, zJ_dv, t_I, t_Ie, t_R, t_Re, t_N, t_Nn, t_V, t_Ve, t_b, t_x, t_w, e_0, e_1, e_2, e_3, ↓t_0, ↓t_1, t_00, t_11, if_true, if_false, ite_not, not_false_eq_true, not_true_eq_false, Int.reduceEq, Int.reduceLT, Int.reduceLE, Int.reduceNeg, Nat.reduceEqDiff, Bool.false_eq_true, k1, k2]
  have s4 : ∀ c : Int, ev_ G 218 115 [.ref (wA Y 13 0), .ref (wA Y 15 600), .ref (wA Y 15 601), .ref (wA Y 15 602), .ref (wA Y 15 603), .ref (wA Y 15 604), .ref (wA Y 15 613), .int (zJ 0), .int (zJ q), .int (zJ r), .int (zJ u), .int (zJ w), .int (zJ L), .int (zJ M), zU, zU, zU, zU, zU, zU, zU, zU, zU, zU] [.int (zJ c)] (wd Y n s X) = ev_ G 218 154 [.ref (wA Y 13 0), .ref (wA Y 15 600), .ref (wA Y 15 601), .ref (wA Y 15 602), .ref (wA Y 15 603), .ref (wA Y 15 604), .ref (wA Y 15 613), .int (zJ 0), .int (zJ q), .int (zJ r), .int (zJ u), .int (zJ w), .int (zJ L), .int (zJ M), .int (zJ c), zU, zU, zU, zU, zU, zU, zU, zU, zU] [.int (zJ (zB (u ≠ w ∧ (1 ≤ L ∧ L ≤ 999) ∧ (1 ≤ M ∧ M ≤ 24))))] (wd Y n s X) := by
    intro c
    rw [q_L_isHarness_115]
    by_cases k1 : u = w
    · rw [zB_0 (fun g => g.1 k1)]
      simp (disch := first | assumption | omega) only [↓reduceIte, l_0, l_1, l_2, l_3, l_4, l_5, l_6, l_7, l_8, l_9, l_10, l_12, l_16, l_24, l_31, l_32, l_48, l_96, l_99, l_100, l_150, l_180, l_200, l_240, l_255, l_260, l_384, l_400, l_999, l_5000, l_9999, l_1000000, l_1000000000, l_11, l_13, l_14, l_15, l_17, l_18, l_19, l_20, l_21, l_22, l_23, l_25, l_26, l_28, l_30, l_34, l_38, l_42, l_44, l_54, l_60, l_64, l_81, l_90, l_101, l_103, l_110, l_120, l_128, l_140, l_256, l_401, l_403, l_450, l_512, l_853, l_983, l_1000, l_1001, l_2048, l_3000000, l_2000000, l_4096, l_5001, l_5002, l_10000, l_10001, l_32767, l_32768, l_60000, l_2147483647, zJ_lt, zJ_le, zJ_eq, zJ_add, zJ_sub, zJ_mul, zJ_neg, zJ_dv, t_I, t_Ie, t_R, t_Re, t_N, t_Nn, t_V, t_Ve, t_b, t_x, t_w, e_0, e_1, e_2, e_3, ↓t_0, ↓t_1, t_00, t_11, if_true, if_false, ite_not, not_false_eq_true, not_true_eq_false, Int.reduceEq, Int.reduceLT, Int.reduceLE, Int.reduceNeg, Nat.reduceEqDiff, Bool.false_eq_true, k1]
    · by_cases k2 : L ≤ 0
      · rw [zB_0 (by omega)]
        simp (disch := first | assumption | omega) only [↓reduceIte, l_0, l_1, l_2, l_3, l_4, l_5, l_6, l_7, l_8, l_9, l_10, l_12, l_16, l_24, l_31, l_32, l_48, l_96, l_99, l_100, l_150, l_180, l_200, l_240, l_255, l_260, l_384, l_400, l_999, l_5000, l_9999, l_1000000, l_1000000000, l_11, l_13, l_14, l_15, l_17, l_18, l_19, l_20, l_21, l_22, l_23, l_25, l_26, l_28, l_30, l_34, l_38, l_42, l_44, l_54, l_60, l_64, l_81, l_90, l_101, l_103, l_110, l_120, l_128, l_140, l_256, l_401, l_403, l_450, l_512, l_853, l_983, l_1000, l_1001, l_2048, l_3000000, l_2000000, l_4096, l_5001, l_5002, l_10000, l_10001, l_32767, l_32768, l_60000, l_2147483647, zJ_lt, zJ_le, zJ_eq, zJ_add, zJ_sub, zJ_mul, zJ_neg, zJ_dv, t_I, t_Ie, t_R, t_Re, t_N, t_Nn, t_V, t_Ve, t_b, t_x, t_w, e_0, e_1, e_2, e_3, ↓t_0, ↓t_1, t_00, t_11, if_true, if_false, ite_not, not_false_eq_true, not_true_eq_false, Int.reduceEq, Int.reduceLT, Int.reduceLE, Int.reduceNeg, Nat.reduceEqDiff, Bool.false_eq_true, k1, k2]
      · by_cases k3 : 1000 ≤ L
        · rw [zB_0 (by omega)]
          simp (disch := first | assumption | omega) only [↓reduceIte, l_0, l_1, l_2, l_3, l_4, l_5, l_6, l_7, l_8, l_9, l_10, l_12, l_16, l_24, l_31, l_32, l_48, l_96, l_99, l_100, l_150, l_180, l_200, l_240, l_255, l_260, l_384, l_400, l_999, l_5000, l_9999, l_1000000, l_1000000000, l_11, l_13, l_14, l_15, l_17, l_18, l_19, l_20, l_21, l_22, l_23, l_25, l_26, l_28, l_30, l_34, l_38, l_42, l_44, l_54, l_60, l_64, l_81, l_90, l_101, l_103, l_110, l_120, l_128, l_140, l_256, l_401, l_403, l_450, l_512, l_853, l_983, l_1000, l_1001, l_2048, l_3000000, l_2000000, l_4096, l_5001, l_5002, l_10000, l_10001, l_32767, l_32768, l_60000, l_2147483647, zJ_lt, zJ_le, zJ_eq, zJ_add, zJ_sub, zJ_mul, zJ_neg, zJ_dv, t_I, t_Ie, t_R, t_Re, t_N, t_Nn, t_V, t_Ve, t_b, t_x, t_w, e_0, e_1, e_2, e_3, ↓t_0, ↓t_1, t_00, t_11, if_true, if_false, ite_not, not_false_eq_true, not_true_eq_false, Int.reduceEq, Int.reduceLT, Int.reduceLE, Int.reduceNeg, Nat.reduceEqDiff, Bool.false_eq_true, k1, k2, k3]
        · by_cases k4 : M ≤ 0
          · rw [zB_0 (by omega)]
            simp (disch := first | assumption | omega) only [↓reduceIte, l_0, l_1, l_2, l_3, l_4, l_5, l_6, l_7, l_8, l_9, l_10, l_12, l_16, l_24, l_31, l_32, l_48, l_96, l_99, l_100, l_150, l_180, l_200, l_240, l_255, l_260, l_384, l_400, l_999, l_5000, l_9999, l_1000000, l_1000000000, l_11, l_13, l_14, l_15, l_17, l_18, l_19, l_20, l_21, l_22, l_23, l_25, l_26, l_28, l_30, l_34, l_38, l_42, l_44, l_54, l_60, l_64, l_81, l_90, l_101, l_103, l_110, l_120, l_128, l_140, l_256, l_401, l_403, l_450, l_512, l_853, l_983, l_1000, l_1001, l_2048, l_3000000, l_2000000, l_4096, l_5001, l_5002, l_10000, l_10001, l_32767, l_32768, l_60000, l_2147483647, zJ_lt, zJ_le, zJ_eq, zJ_add, zJ_sub, zJ_mul, zJ_neg, zJ_dv, t_I, t_Ie, t_R, t_Re, t_N, t_Nn, t_V, t_Ve, t_b, t_x, t_w, e_0, e_1, e_2, e_3, ↓t_0, ↓t_1, t_00, t_11, if_true, if_false, ite_not, not_false_eq_true, not_true_eq_false, Int.reduceEq, Int.reduceLT, Int.reduceLE, Int.reduceNeg, Nat.reduceEqDiff, Bool.false_eq_true, k1, k2, k3, k4]
          · by_cases k5 : 25 ≤ M
            · rw [zB_0 (by omega)]
              simp (disch := first | assumption | omega) only [↓reduceIte, l_0, l_1, l_2, l_3, l_4, l_5, l_6, l_7, l_8, l_9, l_10, l_12, l_16, l_24, l_31, l_32, l_48, l_96, l_99, l_100, l_150, l_180, l_200, l_240, l_255, l_260, l_384, l_400, l_999, l_5000, l_9999, l_1000000, l_1000000000, l_11, l_13, l_14, l_15, l_17, l_18, l_19, l_20, l_21, l_22, l_23, l_25, l_26, l_28, l_30, l_34, l_38, l_42, l_44, l_54, l_60, l_64, l_81, l_90, l_101, l_103, l_110, l_120, l_128, l_140, l_256, l_401, l_403, l_450, l_512, l_853, l_983, l_1000, l_1001, l_2048, l_3000000, l_2000000, l_4096, l_5001, l_5002, l_10000, l_10001, l_32767, l_32768, l_60000, l_2147483647, zJ_lt, zJ_le, zJ_eq, zJ_add, zJ_sub, zJ_mul, zJ_neg, zJ_dv, t_I, t_Ie, t_R, t_Re, t_N, t_Nn, t_V, t_Ve, t_b, t_x, t_w, e_0, e_1, e_2, e_3, ↓t_0, ↓t_1, t_00, t_11, if_true, if_false, ite_not, not_false_eq_true, not_true_eq_false, Int.reduceEq, Int.reduceLT, Int.reduceLE, Int.reduceNeg, Nat.reduceEqDiff, Bool.false_eq_true, k1, k2, k3, k4, k5]
            · rw [zB_1 ⟨k1, by omega, by omega⟩]
              simp (disch := first | assumption | omega) only [↓reduceIte, l_0, l_1, l_2, l_3, l_4, l_5, l_6, l_7, l_8, l_9, l_10, l_12, l_16, l_24, l_31, l_32, l_48, l_96, l_99, l_100, l_150, l_180, l_200, l_240, l_255, l_260, l_384, l_400, l_999, l_5000, l_9999, l_1000000, l_1000000000, l_11, l_13, l_14, l_15, l_17, l_18, l_19, l_20, l_21, l_22, l_23, l_25, l_26, l_28, l_30, l_34, l_38, l_42, l_44, l_54, l_60, l_64, l_81, l_90, l_101, l_103, l_110, l_120, l_128, l_140, l_256, l_401, l_403, l_450, l_512, l_853, l_983, l_1000, l_1001, l_2048, l_3000000, l_2000000, l_4096, l_5001, l_5002, l_10000, l_10001, l_32767, l_32768, l_60000, l_2147483647, zJ_lt, zJ_le, zJ_eq, zJ_add, zJ_sub, zJ_mul, zJ_neg, zJ_dv, t_I, t_Ie, t_R, t_Re, t_N, t_Nn, t_V, t_Ve, t_b, t_x, t_w, e_0, e_1, e_2, e_3, ↓t_0, ↓t_1, t_00, t_11, if_true, if_false, ite_not, not_false_eq_true, not_true_eq_false, Int.reduceEq, Int.reduceLT, Int.reduceLE, Int.reduceNeg, Nat.reduceEqDiff, Bool.false_eq_true, k1, k2, k3, k4, k5]
  rw [s3, s4, q_L_isHarness_154]
  by_cases k1 : u < 8 ∧ w < 8
  · by_cases k2 : u ≠ w ∧ (1 ≤ L ∧ L ≤ 999) ∧ (1 ≤ M ∧ M ≤ 24)
    · rw [zB_1 k1, zB_1 k2, zB_1 ⟨k1, k2⟩]
      simp (disch := first | assumption | omega) only [↓reduceIte, l_0, l_1, l_2, l_3, l_4, l_5, l_6, l_7, l_8, l_9, l_10, l_12, l_16, l_24, l_31, l_32, l_48, l_96, l_99, l_100, l_150, l_180, l_200, l_240, l_255, l_260, l_384, l_400, l_999, l_5000, l_9999, l_1000000, l_1000000000, l_11, l_13, l_14, l_15, l_17, l_18, l_19, l_20, l_21, l_22, l_23, l_25, l_26, l_28, l_30, l_34, l_38, l_42, l_44, l_54, l_60, l_64, l_81, l_90, l_101, l_103, l_110, l_120, l_128, l_140, l_256, l_401, l_403, l_450, l_512, l_853, l_983, l_1000, l_1001, l_2048, l_3000000, l_2000000, l_4096, l_5001, l_5002, l_10000, l_10001, l_32767, l_32768, l_60000, l_2147483647, zJ_lt, zJ_le, zJ_eq, zJ_add, zJ_sub, zJ_mul, zJ_neg, zJ_dv, t_I, t_Ie, t_R, t_Re, t_N, t_Nn, t_V, t_Ve, t_b, t_x, t_w, e_0, e_1, e_2, e_3, ↓t_0, ↓t_1, t_00, t_11, if_true, if_false, ite_not, not_false_eq_true, not_true_eq_false, Int.reduceEq, Int.reduceLT, Int.reduceLE, Int.reduceNeg, Nat.reduceEqDiff, Bool.false_eq_true]
    · rw [zB_1 k1, zB_0 k2, zB_0 (p := (u < 8 ∧ w < 8) ∧ (u ≠ w ∧ (1 ≤ L ∧ L ≤ 999) ∧ (1 ≤ M ∧ M ≤ 24))) (fun g => k2 g.2)]
      simp (disch := first | assumption | omega) only [↓reduceIte, l_0, l_1, l_2, l_3, l_4, l_5, l_6, l_7, l_8, l_9, l_10, l_12, l_16, l_24, l_31, l_32, l_48, l_96, l_99, l_100, l_150, l_180, l_200, l_240, l_255, l_260, l_384, l_400, l_999, l_5000, l_9999, l_1000000, l_1000000000, l_11, l_13, l_14, l_15, l_17, l_18, l_19, l_20, l_21, l_22, l_23, l_25, l_26, l_28, l_30, l_34, l_38, l_42, l_44, l_54, l_60, l_64, l_81, l_90, l_101, l_103, l_110, l_120, l_128, l_140, l_256, l_401, l_403, l_450, l_512, l_853, l_983, l_1000, l_1001, l_2048, l_3000000, l_2000000, l_4096, l_5001, l_5002, l_10000, l_10001, l_32767, l_32768, l_60000, l_2147483647, zJ_lt, zJ_le, zJ_eq, zJ_add, zJ_sub, zJ_mul, zJ_neg, zJ_dv, t_I, t_Ie, t_R, t_Re, t_N, t_Nn, t_V, t_Ve, t_b, t_x, t_w, e_0, e_1, e_2, e_3, ↓t_0, ↓t_1, t_00, t_11, if_true, if_false, ite_not, not_false_eq_true, not_true_eq_false, Int.reduceEq, Int.reduceLT, Int.reduceLE, Int.reduceNeg, Nat.reduceEqDiff, Bool.false_eq_true]
  · rw [zB_0 k1, zB_0 (p := (u < 8 ∧ w < 8) ∧ (u ≠ w ∧ (1 ≤ L ∧ L ≤ 999) ∧ (1 ≤ M ∧ M ≤ 24))) (fun g => k1 g.1)]
    simp (disch := first | assumption | omega) only [↓reduceIte, l_0, l_1, l_2, l_3, l_4, l_5, l_6, l_7, l_8, l_9, l_10, l_12, l_16, l_24, l_31, l_32, l_48, l_96, l_99, l_100, l_150, l_180, l_200, l_240, l_255, l_260, l_384, l_400, l_999, l_5000, l_9999, l_1000000, l_1000000000, l_11, l_13, l_14, l_15, l_17, l_18, l_19, l_20, l_21, l_22, l_23, l_25, l_26, l_28, l_30, l_34, l_38, l_42, l_44, l_54, l_60, l_64, l_81, l_90, l_101, l_103, l_110, l_120, l_128, l_140, l_256, l_401, l_403, l_450, l_512, l_853, l_983, l_1000, l_1001, l_2048, l_3000000, l_2000000, l_4096, l_5001, l_5002, l_10000, l_10001, l_32767, l_32768, l_60000, l_2147483647, zJ_lt, zJ_le, zJ_eq, zJ_add, zJ_sub, zJ_mul, zJ_neg, zJ_dv, t_I, t_Ie, t_R, t_Re, t_N, t_Nn, t_V, t_Ve, t_b, t_x, t_w, e_0, e_1, e_2, e_3, ↓t_0, ↓t_1, t_00, t_11, if_true, if_false, ite_not, not_false_eq_true, not_true_eq_false, Int.reduceEq, Int.reduceLT, Int.reduceLE, Int.reduceNeg, Nat.reduceEqDiff, Bool.false_eq_true]
theorem H_bundle (hZ : zLA G t Y n X) (h1 : 0 ≤ q ∧ q < 60000) (h2 : 0 ≤ r ∧ r < 60000) (hc : X 400 0 < 16) : zgL G t Y n s (ev_ G 218 0 [.ref (wA Y 13 0), .ref (wA Y 15 600), .ref (wA Y 15 601), .ref (wA Y 15 602), .ref (wA Y 15 603), .ref (wA Y 15 604), .ref (wA Y 15 613), .int (zJ 0), .int (zJ q), .int (zJ r), zU, zU, zU, zU, zU, zU, zU, zU, zU, zU, zU, zU, zU, zU] [] (wd Y n s X)) := by
  obtain ⟨L, M, hL0, hM0, s1⟩ := H_b1 (s := s) hZ h1 h2 hc
  rw [s1]
  generalize hu : q % 9 = u
  generalize hw : r % 9 = w
  have hu9 : 0 ≤ u ∧ u < 9 := by omega
  have hw9 : 0 ≤ w ∧ w < 9 := by omega
  have hZ' := hZ
  obtain ⟨hY, hG, hI, hK⟩ := hZ
  obtain ⟨pg, pb, pc, pw, pr, ph, ps, pf⟩ := id hK
  have hL := wY_A hY
  have h400 : 0 ≤ X 400 0 := by
    have := hI.1.1
    have := hY.2.1
    omega
  by_cases kA : u < 8 ∧ w < 8
  · by_cases kB : u ≠ w ∧ (1 ≤ L ∧ L ≤ 999) ∧ (1 ≤ M ∧ M ≤ 24)
    · rw [zB_1 kA, zB_1 kB, zB_1 ⟨kA, kB⟩, q_L_isHarness_171]
      simp (disch := first | assumption | omega) only [↓reduceIte, l_0, l_1, l_2, l_3, l_4, l_5, l_6, l_7, l_8, l_9, l_10, l_12, l_16, l_24, l_31, l_32, l_48, l_96, l_99, l_100, l_150, l_180, l_200, l_240, l_255, l_260, l_384, l_400, l_999, l_5000, l_9999, l_1000000, l_1000000000, l_11, l_13, l_14, l_15, l_17, l_18, l_19, l_20, l_21, l_22, l_23, l_25, l_26, l_28, l_30, l_34, l_38, l_42, l_44, l_54, l_60, l_64, l_81, l_90, l_101, l_103, l_110, l_120, l_128, l_140, l_256, l_401, l_403, l_450, l_512, l_853, l_983, l_1000, l_1001, l_2048, l_3000000, l_2000000, l_4096, l_5001, l_5002, l_10000, l_10001, l_32767, l_32768, l_60000, l_2147483647, zJ_lt, zJ_le, zJ_eq, zJ_add, zJ_sub, zJ_mul, zJ_neg, zJ_dv, t_I, t_Ie, t_R, t_Re, t_N, t_Nn, t_V, t_Ve, t_b, t_x, t_w, e_0, e_1, e_2, e_3, ↓t_0, ↓t_1, t_00, t_11, if_true, if_false, ite_not, not_false_eq_true, not_true_eq_false, Int.reduceEq, Int.reduceLT, Int.reduceLE, Int.reduceNeg, Nat.reduceEqDiff, Bool.false_eq_true, lg_ hL, pg.1, sb_ hL, su_ hL, sg_ hL, wu_ne]
      generalize hX' : wu (wu (wu X 1100 (X 400 0) (u + 8 * w + 64 * L)) 1101 (X 400 0) M) 1113 0 (X 400 0 + 1) = X'
      have sX : zsame [1100, 1101, 1113] X X' := by
        rw [← hX']
        exact same_u (by decide) (same_u (by decide) (same_u (by decide) same_r))
      have gl : ∀ f, f < 1100 → X' f = X f := fun f hf => sX f (by simp; omega)
      have hI' := iAll_l gl hY.2.2.2.1.2 hY.2.2.2.2.2.1.2 hI
      rw [q_L_isHarness_214]
      refine zgL_d hG (by rw [l_0]; exact d_bundle hY hG hI' (by omega) (by omega) (by omega) (by omega)) (fun Y2 n2 m2 X2 code ans v hD h0 hE hl hY2 hG2 hI2 hle => ?_)
      unfold dBundle at hD
      rw [gl 400 (by decide)] at hD
      obtain ⟨ev, e1, e2, e3, e4, e5, e6, e7⟩ := (zd3_v hD h0 hE).2.2.2 ⟨⟨by omega, by omega⟩, by omega, by omega⟩ kB hc
      rw [gl 1001 (by decide)] at e3
      rw [gl 1002 (by decide)] at e4
      rw [gl 1003 (by decide)] at e5
      rw [gl 1004 (by decide)] at e6
      have s2 := same_t (same_m (F := [1100, 1101, 1113, 60, 61, 62, 63, 64, 20, 444, 1001, 1002, 1003, 1004, 400]) sX (by decide)) (same_m e7 (by decide))
      have g13 : ∀ j, X2 1113 j = if j = 0 then X 400 0 + 1 else X 1113 j := fun j => by
        rw [hl 1113 (by decide), ← hX', wu_v, wu_ne (by decide), wu_ne (by decide)]
      have g00 : ∀ j, X2 1100 j = if j = X 400 0 then u + 8 * w + 64 * L else X 1100 j := fun j => by
        rw [hl 1100 (by decide), ← hX', wu_ne (by decide), wu_ne (by decide), wu_v]
      have g01 : ∀ j, X2 1101 j = if j = X 400 0 then M else X 1101 j := fun j => by
        rw [hl 1101 (by decide), ← hX', wu_ne (by decide), wu_v, wu_ne (by decide)]
      have z := fun f (hf : f ∉ _) => congrFun (s2 f hf) 0
      refine ⟨⟨?_, ?_, pC_c pc (same_g s2 (by decide)), pW_c pw (same_g s2 (by decide)), pR_c pr (same_g s2 (by decide)), pH_c ph (same_g s2 (by decide)), pS_c ps (same_g s2 (by decide)), pF_c pf (same_g s2 (by decide))⟩, fun _ => ?_⟩
      · refine pG_v pg ?_ ?_ ?_ ?_ ?_ ?_ ?_ ?_
        · rw [g13, if_pos rfl, e2]
        · rw [g13, if_neg (by decide), z 405 (by decide), pg.2.1]
        · rw [g13, if_neg (by decide), z 410 (by decide), pg.2.2.1]
        · rw [g13, if_neg (by decide), z 425 (by decide), pg.2.2.2.1]
        · rw [g13, if_neg (by decide), z 434 (by decide), pg.2.2.2.2.1]
        · rw [g13, if_neg (by decide), z 421 (by decide), pg.2.2.2.2.2.1]
        · rw [g13, if_neg (by decide), z 422 (by decide), pg.2.2.2.2.2.2.1]
        · rw [z 434 (by decide)]
          exact pg.2.2.2.2.2.2.2
      · intro k k0 k1
        rw [e2] at k1
        rw [g00, g01, e3, e4, e5, e6]
        by_cases hk : k = X 400 0
        · simp only [if_pos hk, and_self]
        · simp only [if_neg hk]
          exact pb k k0 (by omega)
      · have hLv := wY_A hY2
        rw [wA_l hle hL (j := 613) (by decide) (by decide)]
        simp (disch := first | assumption | omega) only [↓reduceIte, l_0, l_1, l_2, l_3, l_4, l_5, l_6, l_7, l_8, l_9, l_10, l_12, l_16, l_24, l_31, l_32, l_48, l_96, l_99, l_100, l_150, l_180, l_200, l_240, l_255, l_260, l_384, l_400, l_999, l_5000, l_9999, l_1000000, l_1000000000, l_11, l_13, l_14, l_15, l_17, l_18, l_19, l_20, l_21, l_22, l_23, l_25, l_26, l_28, l_30, l_34, l_38, l_42, l_44, l_54, l_60, l_64, l_81, l_90, l_101, l_103, l_110, l_120, l_128, l_140, l_256, l_401, l_403, l_450, l_512, l_853, l_983, l_1000, l_1001, l_2048, l_3000000, l_2000000, l_4096, l_5001, l_5002, l_10000, l_10001, l_32767, l_32768, l_60000, l_2147483647, zJ_lt, zJ_le, zJ_eq, zJ_add, zJ_sub, zJ_mul, zJ_neg, zJ_dv, t_I, t_Ie, t_R, t_Re, t_N, t_Nn, t_V, t_Ve, t_b, t_x, t_w, e_0, e_1, e_2, e_3, ↓t_0, ↓t_1, t_00, t_11, if_true, if_false, ite_not, not_false_eq_true, not_true_eq_false, Int.reduceEq, Int.reduceLT, Int.reduceLE, Int.reduceNeg, Nat.reduceEqDiff, Bool.false_eq_true, ev, e1, lg_ hLv, g13, Int.add_sub_cancel]
    · rw [zB_1 kA, zB_0 kB, zB_0 (p := (u < 8 ∧ w < 8) ∧ (u ≠ w ∧ (1 ≤ L ∧ L ≤ 999) ∧ (1 ≤ M ∧ M ≤ 24))) (fun g => kB g.2), q_L_isHarness_171]
      simp (disch := first | assumption | omega) only [↓reduceIte, l_0, l_1, l_2, l_3, l_4, l_5, l_6, l_7, l_8, l_9, l_10, l_12, l_16, l_24, l_31, l_32, l_48, l_96, l_99, l_100, l_150, l_180, l_200, l_240, l_255, l_260, l_384, l_400, l_999, l_5000, l_9999, l_1000000, l_1000000000, l_11, l_13, l_14, l_15, l_17, l_18, l_19, l_20, l_21, l_22, l_23, l_25, l_26, l_28, l_30, l_34, l_38, l_42, l_44, l_54, l_60, l_64, l_81, l_90, l_101, l_103, l_110, l_120, l_128, l_140, l_256, l_401, l_403, l_450, l_512, l_853, l_983, l_1000, l_1001, l_2048, l_3000000, l_2000000, l_4096, l_5001, l_5002, l_10000, l_10001, l_32767, l_32768, l_60000, l_2147483647, zJ_lt, zJ_le, zJ_eq, zJ_add, zJ_sub, zJ_mul, zJ_neg, zJ_dv, t_I, t_Ie, t_R, t_Re, t_N, t_Nn, t_V, t_Ve, t_b, t_x, t_w, e_0, e_1, e_2, e_3, ↓t_0, ↓t_1, t_00, t_11, if_true, if_false, ite_not, not_false_eq_true, not_true_eq_false, Int.reduceEq, Int.reduceLT, Int.reduceLE, Int.reduceNeg, Nat.reduceEqDiff, Bool.false_eq_true]
      rw [q_L_isHarness_214]
      refine zgL_d hG (by rw [l_0]; exact d_bundle hY hG hI (by omega) (by omega) (by omega) (by omega)) (fun Y2 n2 m2 X2 code ans v hD h0 hE hl hY2 hG2 hI2 hle => ?_)
      unfold dBundle at hD
      obtain ⟨ev, e1⟩ := (zd3_v hD h0 hE).2.1 ⟨⟨by omega, by omega⟩, by omega, by omega⟩ kB
      refine ⟨pK_s e1 (by decide) hK, fun _ => ?_⟩
      simp (disch := first | assumption | omega) only [↓reduceIte, l_0, l_1, l_2, l_3, l_4, l_5, l_6, l_7, l_8, l_9, l_10, l_12, l_16, l_24, l_31, l_32, l_48, l_96, l_99, l_100, l_150, l_180, l_200, l_240, l_255, l_260, l_384, l_400, l_999, l_5000, l_9999, l_1000000, l_1000000000, l_11, l_13, l_14, l_15, l_17, l_18, l_19, l_20, l_21, l_22, l_23, l_25, l_26, l_28, l_30, l_34, l_38, l_42, l_44, l_54, l_60, l_64, l_81, l_90, l_101, l_103, l_110, l_120, l_128, l_140, l_256, l_401, l_403, l_450, l_512, l_853, l_983, l_1000, l_1001, l_2048, l_3000000, l_2000000, l_4096, l_5001, l_5002, l_10000, l_10001, l_32767, l_32768, l_60000, l_2147483647, zJ_lt, zJ_le, zJ_eq, zJ_add, zJ_sub, zJ_mul, zJ_neg, zJ_dv, t_I, t_Ie, t_R, t_Re, t_N, t_Nn, t_V, t_Ve, t_b, t_x, t_w, e_0, e_1, e_2, e_3, ↓t_0, ↓t_1, t_00, t_11, if_true, if_false, ite_not, not_false_eq_true, not_true_eq_false, Int.reduceEq, Int.reduceLT, Int.reduceLE, Int.reduceNeg, Nat.reduceEqDiff, Bool.false_eq_true, ev, zrv_1]
  · rw [zB_0 kA, zB_0 (p := (u < 8 ∧ w < 8) ∧ (u ≠ w ∧ (1 ≤ L ∧ L ≤ 999) ∧ (1 ≤ M ∧ M ≤ 24))) (fun g => kA g.1), q_L_isHarness_171]
    simp (disch := first | assumption | omega) only [↓reduceIte, l_0, l_1, l_2, l_3, l_4, l_5, l_6, l_7, l_8, l_9, l_10, l_12, l_16, l_24, l_31, l_32, l_48, l_96, l_99, l_100, l_150, l_180, l_200, l_240, l_255, l_260, l_384, l_400, l_999, l_5000, l_9999, l_1000000, l_1000000000, l_11, l_13, l_14, l_15, l_17, l_18, l_19, l_20, l_21, l_22, l_23, l_25, l_26, l_28, l_30, l_34, l_38, l_42, l_44, l_54, l_60, l_64, l_81, l_90, l_101, l_103, l_110, l_120, l_128, l_140, l_256, l_401, l_403, l_450, l_512, l_853, l_983, l_1000, l_1001, l_2048, l_3000000, l_2000000, l_4096, l_5001, l_5002, l_10000, l_10001, l_32767, l_32768, l_60000, l_2147483647, zJ_lt, zJ_le, zJ_eq, zJ_add, zJ_sub, zJ_mul, zJ_neg, zJ_dv, t_I, t_Ie, t_R, t_Re, t_N, t_Nn, t_V, t_Ve, t_b, t_x, t_w, e_0, e_1, e_2, e_3, ↓t_0, ↓t_1, t_00, t_11, if_true, if_false, ite_not, not_false_eq_true, not_true_eq_false, Int.reduceEq, Int.reduceLT, Int.reduceLE, Int.reduceNeg, Nat.reduceEqDiff, Bool.false_eq_true]
    rw [q_L_isHarness_214]
    refine zgL_d hG (by rw [l_0]; exact d_bundle hY hG hI (by omega) (by omega) (by omega) (by omega)) (fun Y2 n2 m2 X2 code ans v hD h0 hE hl hY2 hG2 hI2 hle => ?_)
    unfold dBundle at hD
    obtain ⟨ev, e1⟩ := (zd3_v hD h0 hE).1 (by omega)
    refine ⟨pK_s e1 (by decide) hK, fun _ => ?_⟩
    simp (disch := first | assumption | omega) only [↓reduceIte, l_0, l_1, l_2, l_3, l_4, l_5, l_6, l_7, l_8, l_9, l_10, l_12, l_16, l_24, l_31, l_32, l_48, l_96, l_99, l_100, l_150, l_180, l_200, l_240, l_255, l_260, l_384, l_400, l_999, l_5000, l_9999, l_1000000, l_1000000000, l_11, l_13, l_14, l_15, l_17, l_18, l_19, l_20, l_21, l_22, l_23, l_25, l_26, l_28, l_30, l_34, l_38, l_42, l_44, l_54, l_60, l_64, l_81, l_90, l_101, l_103, l_110, l_120, l_128, l_140, l_256, l_401, l_403, l_450, l_512, l_853, l_983, l_1000, l_1001, l_2048, l_3000000, l_2000000, l_4096, l_5001, l_5002, l_10000, l_10001, l_32767, l_32768, l_60000, l_2147483647, zJ_lt, zJ_le, zJ_eq, zJ_add, zJ_sub, zJ_mul, zJ_neg, zJ_dv, t_I, t_Ie, t_R, t_Re, t_N, t_Nn, t_V, t_Ve, t_b, t_x, t_w, e_0, e_1, e_2, e_3, ↓t_0, ↓t_1, t_00, t_11, if_true, if_false, ite_not, not_false_eq_true, not_true_eq_false, Int.reduceEq, Int.reduceLT, Int.reduceLE, Int.reduceNeg, Nat.reduceEqDiff, Bool.false_eq_true, ev, zrv_0]
theorem H_c1 (hZ : zLA G t Y n X) (hk : 0 ≤ k ∧ k ≤ 1) (h1 : 0 ≤ q ∧ q < 60000) (h2 : 0 ≤ r ∧ r < 60000) (hc : X 405 0 < 8) : ∃ C K : Int, (0 ≤ C ∧ C ≤ 9) ∧ (0 ≤ K ∧ K ≤ 10) ∧ ev_ G 218 263 [.ref (wA Y 13 0), .ref (wA Y 15 600), .ref (wA Y 15 601), .ref (wA Y 15 602), .ref (wA Y 15 603), .ref (wA Y 15 604), .ref (wA Y 15 613), .int (zJ k), .int (zJ q), .int (zJ r), zU, zU, zU, zU, zU, zU, zU, zU, zU, zU, zU, zU, zU, zU] [] (wd Y n s X) = ev_ G 218 386 [.ref (wA Y 13 0), .ref (wA Y 15 600), .ref (wA Y 15 601), .ref (wA Y 15 602), .ref (wA Y 15 603), .ref (wA Y 15 604), .ref (wA Y 15 613), .int (zJ k), .int (zJ q), .int (zJ r), .int (zJ (q % 9)), .int (zJ C), .int (zJ K), .int (zJ (zB ((1 ≤ C ∧ C ≤ 8) ∧ (0 ≤ K ∧ K ≤ 9)))), zU, zU, zU, zU, zU, zU, zU, zU, zU, zU] [.int (zJ (zB (q % 9 < 8 ∧ ((1 ≤ C ∧ C ≤ 8) ∧ (0 ≤ K ∧ K ≤ 9)))))] (wd Y n s X) := by
  obtain ⟨hY, hG, hI, pg, pb, pc, pw, pr, ph, ps, pf⟩ := hZ
  have hL := wY_A hY
  have e1 : ¬8 ≤ X 405 0 := by omega
  have e2 : ¬2 ≤ k := by omega
  have h400 : 0 ≤ X 405 0 := by
    have := hI.2.1.1
    have := hY.2.2.1
    omega
  obtain ⟨C, hC, s1⟩ : ∃ C : Int, (0 ≤ C ∧ C ≤ 9) ∧ ev_ G 218 263 [.ref (wA Y 13 0), .ref (wA Y 15 600), .ref (wA Y 15 601), .ref (wA Y 15 602), .ref (wA Y 15 603), .ref (wA Y 15 604), .ref (wA Y 15 613), .int (zJ k), .int (zJ q), .int (zJ r), zU, zU, zU, zU, zU, zU, zU, zU, zU, zU, zU, zU, zU, zU] [] (wd Y n s X) = ev_ G 218 316 [.ref (wA Y 13 0), .ref (wA Y 15 600), .ref (wA Y 15 601), .ref (wA Y 15 602), .ref (wA Y 15 603), .ref (wA Y 15 604), .ref (wA Y 15 613), .int (zJ k), .int (zJ q), .int (zJ r), .int (zJ (q % 9)), zU, zU, zU, zU, zU, zU, zU, zU, zU, zU, zU, zU, zU] [.int (zJ C)] (wd Y n s X) := by
    rw [q_L_isHarness_263]
    by_cases k1 : q / 9 % 9 = 0
    · refine ⟨q / 81 % 10, by omega, ?_⟩
      simp (disch := first | assumption | omega) only [↓reduceIte, l_0, l_1, l_2, l_3, l_4, l_5, l_6, l_7, l_8, l_9, l_10, l_12, l_16, l_24, l_31, l_32, l_48, l_96, l_99, l_100, l_150, l_180, l_200, l_240, l_255, l_260, l_384, l_400, l_999, l_5000, l_9999, l_1000000, l_1000000000, l_11, l_13, l_14, l_15, l_17, l_18, l_19, l_20, l_21, l_22, l_23, l_25, l_26, l_28, l_30, l_34, l_38, l_42, l_44, l_54, l_60, l_64, l_81, l_90, l_101, l_103, l_110, l_120, l_128, l_140, l_256, l_401, l_403, l_450, l_512, l_853, l_983, l_1000, l_1001, l_2048, l_3000000, l_2000000, l_4096, l_5001, l_5002, l_10000, l_10001, l_32767, l_32768, l_60000, l_2147483647, zJ_lt, zJ_le, zJ_eq, zJ_add, zJ_sub, zJ_mul, zJ_neg, zJ_dv, t_I, t_Ie, t_R, t_Re, t_N, t_Nn, t_V, t_Ve, t_b, t_x, t_w, e_0, e_1, e_2, e_3, ↓t_0, ↓t_1, t_00, t_11, if_true, if_false, ite_not, not_false_eq_true, not_true_eq_false, Int.reduceEq, Int.reduceLT, Int.reduceLE, Int.reduceNeg, Nat.reduceEqDiff, Bool.false_eq_true, zem, lg_ hL, pg.2.1, e1, e2, k1]
    · refine ⟨4 + q / 9 % 2, by omega, ?_⟩
      simp (disch := first | assumption | omega) only [↓reduceIte, l_0, l_1, l_2, l_3, l_4, l_5, l_6, l_7, l_8, l_9, l_10, l_12, l_16, l_24, l_31, l_32, l_48, l_96, l_99, l_100, l_150, l_180, l_200, l_240, l_255, l_260, l_384, l_400, l_999, l_5000, l_9999, l_1000000, l_1000000000, l_11, l_13, l_14, l_15, l_17, l_18, l_19, l_20, l_21, l_22, l_23, l_25, l_26, l_28, l_30, l_34, l_38, l_42, l_44, l_54, l_60, l_64, l_81, l_90, l_101, l_103, l_110, l_120, l_128, l_140, l_256, l_401, l_403, l_450, l_512, l_853, l_983, l_1000, l_1001, l_2048, l_3000000, l_2000000, l_4096, l_5001, l_5002, l_10000, l_10001, l_32767, l_32768, l_60000, l_2147483647, zJ_lt, zJ_le, zJ_eq, zJ_add, zJ_sub, zJ_mul, zJ_neg, zJ_dv, t_I, t_Ie, t_R, t_Re, t_N, t_Nn, t_V, t_Ve, t_b, t_x, t_w, e_0, e_1, e_2, e_3, ↓t_0, ↓t_1, t_00, t_11, if_true, if_false, ite_not, not_false_eq_true, not_true_eq_false, Int.reduceEq, Int.reduceLT, Int.reduceLE, Int.reduceNeg, Nat.reduceEqDiff, Bool.false_eq_true, zem, lg_ hL, pg.2.1, e1, e2, k1]
  obtain ⟨K, hK, s2⟩ : ∃ K : Int, (0 ≤ K ∧ K ≤ 10) ∧ ev_ G 218 316 [.ref (wA Y 13 0), .ref (wA Y 15 600), .ref (wA Y 15 601), .ref (wA Y 15 602), .ref (wA Y 15 603), .ref (wA Y 15 604), .ref (wA Y 15 613), .int (zJ k), .int (zJ q), .int (zJ r), .int (zJ (q % 9)), zU, zU, zU, zU, zU, zU, zU, zU, zU, zU, zU, zU, zU] [.int (zJ C)] (wd Y n s X) = ev_ G 218 341 [.ref (wA Y 13 0), .ref (wA Y 15 600), .ref (wA Y 15 601), .ref (wA Y 15 602), .ref (wA Y 15 603), .ref (wA Y 15 604), .ref (wA Y 15 613), .int (zJ k), .int (zJ q), .int (zJ r), .int (zJ (q % 9)), .int (zJ C), zU, zU, zU, zU, zU, zU, zU, zU, zU, zU, zU, zU] [.int (zJ K)] (wd Y n s X) := by
    rw [q_L_isHarness_316]
    by_cases k1 : r % 9 = 0
    · refine ⟨r / 9 % 11, by omega, ?_⟩
      simp (disch := first | assumption | omega) only [↓reduceIte, l_0, l_1, l_2, l_3, l_4, l_5, l_6, l_7, l_8, l_9, l_10, l_12, l_16, l_24, l_31, l_32, l_48, l_96, l_99, l_100, l_150, l_180, l_200, l_240, l_255, l_260, l_384, l_400, l_999, l_5000, l_9999, l_1000000, l_1000000000, l_11, l_13, l_14, l_15, l_17, l_18, l_19, l_20, l_21, l_22, l_23, l_25, l_26, l_28, l_30, l_34, l_38, l_42, l_44, l_54, l_60, l_64, l_81, l_90, l_101, l_103, l_110, l_120, l_128, l_140, l_256, l_401, l_403, l_450, l_512, l_853, l_983, l_1000, l_1001, l_2048, l_3000000, l_2000000, l_4096, l_5001, l_5002, l_10000, l_10001, l_32767, l_32768, l_60000, l_2147483647, zJ_lt, zJ_le, zJ_eq, zJ_add, zJ_sub, zJ_mul, zJ_neg, zJ_dv, t_I, t_Ie, t_R, t_Re, t_N, t_Nn, t_V, t_Ve, t_b, t_x, t_w, e_0, e_1, e_2, e_3, ↓t_0, ↓t_1, t_00, t_11, if_true, if_false, ite_not, not_false_eq_true, not_true_eq_false, Int.reduceEq, Int.reduceLT, Int.reduceLE, Int.reduceNeg, Nat.reduceEqDiff, Bool.false_eq_true, zem, k1]
    · refine ⟨r % 2, by omega, ?_⟩
      simp (disch := first | assumption | omega) only [↓reduceIte, l_0, l_1, l_2, l_3, l_4, l_5, l_6, l_7, l_8, l_9, l_10, l_12, l_16, l_24, l_31, l_32, l_48, l_96, l_99, l_100, l_150, l_180, l_200, l_240, l_255, l_260, l_384, l_400, l_999, l_5000, l_9999, l_1000000, l_1000000000, l_11, l_13, l_14, l_15, l_17, l_18, l_19, l_20, l_21, l_22, l_23, l_25, l_26, l_28, l_30, l_34, l_38, l_42, l_44, l_54, l_60, l_64, l_81, l_90, l_101, l_103, l_110, l_120, l_128, l_140, l_256, l_401, l_403, l_450, l_512, l_853, l_983, l_1000, l_1001, l_2048, l_3000000, l_2000000, l_4096, l_5001, l_5002, l_10000, l_10001, l_32767, l_32768, l_60000, l_2147483647, zJ_lt, zJ_le, zJ_eq, zJ_add, zJ_sub, zJ_mul, zJ_neg, zJ_dv, t_I, t_Ie, t_R, t_Re, t_N, t_Nn, t_V, t_Ve, t_b, t_x, t_w, e_0, e_1, e_2, e_3, ↓t_0, ↓t_1, t_00, t_11, if_true, if_false, ite_not, not_false_eq_true, not_true_eq_false, Int.reduceEq, Int.reduceLT, Int.reduceLE, Int.reduceNeg, Nat.reduceEqDiff, Bool.false_eq_true, zem, k1]
  refine ⟨C, K, hC, hK, s1.trans (s2.trans ?_)⟩
  generalize hu : q % 9 = u
  have hu9 : 0 ≤ u ∧ u < 9 := by omega
  have s3 : ev_ G 218 341 [.ref (wA Y 13 0), .ref (wA Y 15 600), .ref (wA Y 15 601), .ref (wA Y 15 602), .ref (wA Y 15 603), .ref (wA Y 15 604), .ref (wA Y 15 613), .int (zJ k), .int (zJ q), .int (zJ r), .int (zJ u), .int (zJ C), zU, zU, zU, zU, zU, zU, zU, zU, zU, zU, zU, zU] [.int (zJ K)] (wd Y n s X) = ev_ G 218 367 [.ref (wA Y 13 0), .ref (wA Y 15 600), .ref (wA Y 15 601), .ref (wA Y 15 602), .ref (wA Y 15 603), .ref (wA Y 15 604), .ref (wA Y 15 613), .int (zJ k), .int (zJ q), .int (zJ r), .int (zJ u), .int (zJ C), .int (zJ K), zU, zU, zU, zU, zU, zU, zU, zU, zU, zU, zU] [.int (zJ (zB ((1 ≤ C ∧ C ≤ 8) ∧ (0 ≤ K ∧ K ≤ 9))))] (wd Y n s X) := by
    rw [q_L_isHarness_341]
    by_cases k1 : C ≤ 0
    · rw [zB_0 (by omega)]
      simp (disch := first | assumption | omega) only [↓reduceIte, l_0, l_1, l_2, l_3, l_4, l_5, l_6, l_7, l_8, l_9, l_10, l_12, l_16, l_24, l_31, l_32, l_48, l_96, l_99, l_100, l_150, l_180, l_200, l_240, l_255, l_260, l_384, l_400, l_999, l_5000, l_9999, l_1000000, l_1000000000, l_11, l_13, l_14, l_15, l_17, l_18, l_19, l_20, l_21, l_22, l_23, l_25, l_26, l_28, l_30, l_34, l_38, l_42, l_44, l_54, l_60, l_64, l_81, l_90, l_101, l_103, l_110, l_120, l_128, l_140, l_256, l_401, l_403, l_450, l_512, l_853, l_983, l_1000, l_1001, l_2048, l_3000000, l_2000000, l_4096, l_5001, l_5002, l_10000, l_10001, l_32767, l_32768, l_60000, l_2147483647, zJ_lt, zJ_le, zJ_eq, zJ_add, zJ_sub, zJ_mul, zJ_neg, zJ_dv, t_I, t_Ie, t_R, t_Re, t_N, t_Nn, t_V, t_Ve, t_b, t_x, t_w, e_0, e_1, e_2, e_3, ↓t_0, ↓t_1, t_00, t_11, if_true, if_false, ite_not, not_false_eq_true, not_true_eq_false, Int.reduceEq, Int.reduceLT, Int.reduceLE, Int.reduceNeg, Nat.reduceEqDiff, Bool.false_eq_true, k1]
    · by_cases k2 : 9 ≤ C
      · rw [zB_0 (by omega)]
        simp (disch := first | assumption | omega) only [↓reduceIte, l_0, l_1, l_2, l_3, l_4, l_5, l_6, l_7, l_8, l_9, l_10, l_12, l_16, l_24, l_31, l_32, l_48, l_96, l_99, l_100, l_150, l_180, l_200, l_240, l_255, l_260, l_384, l_400, l_999, l_5000, l_9999, l_1000000, l_1000000000, l_11, l_13, l_14, l_15, l_17, l_18, l_19, l_20, l_21, l_22, l_23, l_25, l_26, l_28, l_30, l_34, l_38, l_42, l_44, l_54, l_60, l_64, l_81, l_90, l_101, l_103, l_110, l_120, l_128, l_140, l_256, l_401, l_403, l_450, l_512, l_853, l_983, l_1000, l_1001, l_2048, l_3000000, l_2000000, l_4096, l_5001, l_5002, l_10000, l_10001, l_32767, l_32768, l_60000, l_2147483647, zJ_lt, zJ_le, zJ_eq, zJ_add, zJ_sub, zJ_mul, zJ_neg, zJ_dv, t_I, t_Ie, t_R, t_Re, t_N, t_Nn, t_V, t_Ve, t_b, t_x, t_w, e_0, e_1, e_2, e_3, ↓t_0, ↓t_1, t_00, t_11, if_true, if_false, ite_not, not_false_eq_true, not_true_eq_false, Int.reduceEq, Int.reduceLT, Int.reduceLE, Int.reduceNeg, Nat.reduceEqDiff, Bool.false_eq_true, k1, k2]
      · by_cases k3 : 10 ≤ K
        · rw [zB_0 (by omega)]
          simp (disch := first | assumption | omega) only [↓reduceIte, l_0, l_1, l_2, l_3, l_4, l_5, l_6, l_7, l_8, l_9, l_10, l_12, l_16, l_24, l_31, l_32, l_48, l_96, l_99, l_100, l_150, l_180, l_200, l_240, l_255, l_260, l_384, l_400, l_999, l_5000, l_9999, l_1000000, l_1000000000, l_11, l_13, l_14, l_15, l_17, l_18, l_19, l_20, l_21, l_22, l_23, l_25, l_26, l_28, l_30, l_34, l_38, l_42, l_44, l_54, l_60, l_64, l_81, l_90, l_101, l_103, l_110, l_120, l_128, l_140, l_256, l_401, l_403, l_450, l_512, l_853, l_983, l_1000, l_1001, l_2048, l_3000000, l_2000000, l_4096, l_5001, l_5002, l_10000, l_10001, l_32767, l_32768, l_60000, l_2147483647, zJ_lt, zJ_le, zJ_eq, zJ_add, zJ_sub, zJ_mul, zJ_neg, zJ_dv, t_I, t_Ie, t_R, t_Re, t_N, t_Nn, t_V, t_Ve, t_b, t_x, t_w, e_0, e_1, e_2, e_3, ↓t_0, ↓t_1, t_00, t_11, if_true, if_false, ite_not, not_false_eq_true, not_true_eq_false, Int.reduceEq, Int.reduceLT, Int.reduceLE, Int.reduceNeg, Nat.reduceEqDiff, Bool.false_eq_true, k1, k2, k3]
        · rw [zB_1 ⟨by omega, by omega⟩]
          simp (disch := first | assumption | omega) only [↓reduceIte, l_0, l_1, l_2, l_3, l_4, l_5, l_6, l_7, l_8, l_9, l_10, l_12, l_16, l_24, l_31, l_32, l_48, l_96, l_99, l_100, l_150, l_180, l_200, l_240, l_255, l_260, l_384, l_400, l_999, l_5000, l_9999, l_1000000, l_1000000000, l_11, l_13, l_14, l_15, l_17, l_18, l_19, l_20, l_21, l_22, l_23, l_25, l_26, l_28, l_30, l_34, l_38, l_42, l_44, l_54, l_60, l_64, l_81, l_90, l_101, l_103, l_110, l_120, l_128, l_140, l_256, l_401, l_403, l_450, l_512, l_853, l_983, l_1000, l_1001, l_2048, l_3000000, l_2000000, l_4096, l_5001, l_5002, l_10000, l_10001, l_32767, l_32768, l_60000, l_2147483647, zJ_lt, zJ_le, zJ_eq, zJ_add, zJ_sub, zJ_mul, zJ_neg, zJ_dv, t_I, t_Ie, t_R, t_Re, t_N, t_Nn, t_V, t_Ve, t_b, t_x, t_w, e_0, e_1, e_2, e_3, ↓t_0, ↓t_1, t_00, t_11, if_true, if_false, ite_not, not_false_eq_true, not_true_eq_false, Int.reduceEq, Int.reduceLT, Int.reduceLE, Int.reduceNeg, Nat.reduceEqDiff, Bool.false_eq_true, k1, k2, k3]
  rw [s3, q_L_isHarness_367]
  by_cases k1 : u < 8
  · have k3 : ¬8 ≤ u := by omega
    by_cases k2 : (1 ≤ C ∧ C ≤ 8) ∧ (0 ≤ K ∧ K ≤ 9)
    · rw [zB_1 k2, zB_1 ⟨k1, k2⟩]
      simp (disch := first | assumption | omega) only [↓reduceIte, l_0, l_1, l_2, l_3, l_4, l_5, l_6, l_7, l_8, l_9, l_10, l_12, l_16, l_24, l_31, l_32, l_48, l_96, l_99, l_100, l_150, l_180, l_200, l_240, l_255, l_260, l_384, l_400, l_999, l_5000, l_9999, l_1000000, l_1000000000, l_11, l_13, l_14, l_15, l_17, l_18, l_19, l_20, l_21, l_22, l_23, l_25, l_26, l_28, l_30, l_34, l_38, l_42, l_44, l_54, l_60, l_64, l_81, l_90, l_101, l_103, l_110, l_120, l_128, l_140, l_256, l_401, l_403, l_450, l_512, l_853, l_983, l_1000, l_1001, l_2048, l_3000000, l_2000000, l_4096, l_5001, l_5002, l_10000, l_10001, l_32767, l_32768, l_60000, l_2147483647, zJ_lt, zJ_le, zJ_eq, zJ_add, zJ_sub, zJ_mul, zJ_neg, zJ_dv, t_I, t_Ie, t_R, t_Re, t_N, t_Nn, t_V, t_Ve, t_b, t_x, t_w, e_0, e_1, e_2, e_3, ↓t_0, ↓t_1, t_00, t_11, if_true, if_false, ite_not, not_false_eq_true, not_true_eq_false, Int.reduceEq, Int.reduceLT, Int.reduceLE, Int.reduceNeg, Nat.reduceEqDiff, Bool.false_eq_true, k3]
    · rw [zB_0 k2, zB_0 (p := u < 8 ∧ ((1 ≤ C ∧ C ≤ 8) ∧ (0 ≤ K ∧ K ≤ 9))) (fun g => k2 g.2)]
      simp (disch := first | assumption | omega) only [↓reduceIte, l_0, l_1, l_2, l_3, l_4, l_5, l_6, l_7, l_8, l_9, l_10, l_12, l_16, l_24, l_31, l_32, l_48, l_96, l_99, l_100, l_150, l_180, l_200, l_240, l_255, l_260, l_384, l_400, l_999, l_5000, l_9999, l_1000000, l_1000000000, l_11, l_13, l_14, l_15, l_17, l_18, l_19, l_20, l_21, l_22, l_23, l_25, l_26, l_28, l_30, l_34, l_38, l_42, l_44, l_54, l_60, l_64, l_81, l_90, l_101, l_103, l_110, l_120, l_128, l_140, l_256, l_401, l_403, l_450, l_512, l_853, l_983, l_1000, l_1001, l_2048, l_3000000, l_2000000, l_4096, l_5001, l_5002, l_10000, l_10001, l_32767, l_32768, l_60000, l_2147483647, zJ_lt, zJ_le, zJ_eq, zJ_add, zJ_sub, zJ_mul, zJ_neg, zJ_dv, t_I, t_Ie, t_R, t_Re, t_N, t_Nn, t_V, t_Ve, t_b, t_x, t_w, e_0, e_1, e_2, e_3, ↓t_0, ↓t_1, t_00, t_11, if_true, if_false, ite_not, not_false_eq_true, not_true_eq_false, Int.reduceEq, Int.reduceLT, Int.reduceLE, Int.reduceNeg, Nat.reduceEqDiff, Bool.false_eq_true, k3]
  · have k3 : 8 ≤ u := by omega
    rw [zB_0 (p := u < 8 ∧ ((1 ≤ C ∧ C ≤ 8) ∧ (0 ≤ K ∧ K ≤ 9))) (fun g => k1 g.1)]
    simp (disch := first | assumption | omega) only [↓reduceIte, l_0, l_1, l_2, l_3, l_4, l_5, l_6, l_7, l_8, l_9, l_10, l_12, l_16, l_24, l_31, l_32, l_48, l_96, l_99, l_100, l_150, l_180, l_200, l_240, l_255, l_260, l_384, l_400, l_999, l_5000, l_9999, l_1000000, l_1000000000, l_11, l_13, l_14, l_15, l_17, l_18, l_19, l_20, l_21, l_22, l_23, l_25, l_26, l_28, l_30, l_34, l_38, l_42, l_44, l_54, l_60, l_64, l_81, l_90, l_101, l_103, l_110, l_120, l_128, l_140, l_256, l_401, l_403, l_450, l_512, l_853, l_983, l_1000, l_1001, l_2048, l_3000000, l_2000000, l_4096, l_5001, l_5002, l_10000, l_10001, l_32767, l_32768, l_60000, l_2147483647, zJ_lt, zJ_le, zJ_eq, zJ_add, zJ_sub, zJ_mul, zJ_neg, zJ_dv, t_I, t_Ie, t_R, t_Re, t_N, t_Nn, t_V, t_Ve, t_b, t_x, t_w, e_0, e_1, e_2, e_3, ↓t_0, ↓t_1, t_00, t_11, if_true, if_false, ite_not, not_false_eq_true, not_true_eq_false, Int.reduceEq, Int.reduceLT, Int.reduceLE, Int.reduceNeg, Nat.reduceEqDiff, Bool.false_eq_true, k3]
theorem H_connector (hZ : zLA G t Y n X) (hk : 0 ≤ k ∧ k ≤ 1) (h1 : 0 ≤ q ∧ q < 60000) (h2 : 0 ≤ r ∧ r < 60000) (hc : X 405 0 < 8) : zgL G t Y n s (ev_ G 218 263 [.ref (wA Y 13 0), .ref (wA Y 15 600), .ref (wA Y 15 601), .ref (wA Y 15 602), .ref (wA Y 15 603), .ref (wA Y 15 604), .ref (wA Y 15 613), .int (zJ k), .int (zJ q), .int (zJ r), zU, zU, zU, zU, zU, zU, zU, zU, zU, zU, zU, zU, zU, zU] [] (wd Y n s X)) := by
  obtain ⟨C, K, hC, hKr, s1⟩ := H_c1 (s := s) hZ hk h1 h2 hc
  rw [s1]
  generalize hu : q % 9 = u
  have hu9 : 0 ≤ u ∧ u < 9 := by omega
  have hZ' := hZ
  obtain ⟨hY, hG, hI, hK⟩ := hZ
  obtain ⟨pg, pb, pc, pw, pr, ph, ps, pf⟩ := id hK
  have hL := wY_A hY
  have hz := hI.2.1.1
  have hnew := hI.2.1.2.2.2.1
  have h400 : 0 ≤ X 405 0 := by
    have := hY.2.2.1
    omega
  by_cases kA : u < 8
  · have k8 : ¬u = 8 := by omega
    by_cases kB : (1 ≤ C ∧ C ≤ 8) ∧ (0 ≤ K ∧ K ≤ 9)
    · rw [zB_1 kB, zB_1 ⟨kA, kB⟩, q_L_isHarness_386]
      simp (disch := first | assumption | omega) only [↓reduceIte, l_0, l_1, l_2, l_3, l_4, l_5, l_6, l_7, l_8, l_9, l_10, l_12, l_16, l_24, l_31, l_32, l_48, l_96, l_99, l_100, l_150, l_180, l_200, l_240, l_255, l_260, l_384, l_400, l_999, l_5000, l_9999, l_1000000, l_1000000000, l_11, l_13, l_14, l_15, l_17, l_18, l_19, l_20, l_21, l_22, l_23, l_25, l_26, l_28, l_30, l_34, l_38, l_42, l_44, l_54, l_60, l_64, l_81, l_90, l_101, l_103, l_110, l_120, l_128, l_140, l_256, l_401, l_403, l_450, l_512, l_853, l_983, l_1000, l_1001, l_2048, l_3000000, l_2000000, l_4096, l_5001, l_5002, l_10000, l_10001, l_32767, l_32768, l_60000, l_2147483647, zJ_lt, zJ_le, zJ_eq, zJ_add, zJ_sub, zJ_mul, zJ_neg, zJ_dv, t_I, t_Ie, t_R, t_Re, t_N, t_Nn, t_V, t_Ve, t_b, t_x, t_w, e_0, e_1, e_2, e_3, ↓t_0, ↓t_1, t_00, t_11, if_true, if_false, ite_not, not_false_eq_true, not_true_eq_false, Int.reduceEq, Int.reduceLT, Int.reduceLE, Int.reduceNeg, Nat.reduceEqDiff, Bool.false_eq_true, lg_ hL, pg.2.1, sc_ hL, sg_ hL, wu_ne]
      generalize hX' : wu (wu X 1102 (X 405 0) (u + 8 * C + 128 * K)) 1113 1 (X 405 0 + 1) = X'
      have sX : zsame [1102, 1113] X X' := by
        rw [← hX']
        exact same_u (by decide) (same_u (by decide) same_r)
      have gl : ∀ f, f < 1100 → X' f = X f := fun f hf => sX f (by simp; omega)
      have hI' := iAll_l gl hY.2.2.2.1.2 hY.2.2.2.2.2.1.2 hI
      rw [q_L_isHarness_422]
      refine zgL_d hG (by rw [l_0, l_1]; exact d_connector hY hG hI' (by omega) (by omega) (by omega)) (fun Y2 n2 m2 X2 code ans v hD h0 hE hl hY2 hG2 hI2 hle => ?_)
      unfold dConnector at hD
      rw [gl 405 (by decide)] at hD
      obtain ⟨ev, e1, e2, e3, e4, e5, e7⟩ := (zd3_v hD h0 hE).2.2.2 ⟨by omega, by omega⟩ kB hc
      rw [gl 1006 (by decide)] at e3
      rw [gl 1007 (by decide)] at e4
      rw [gl 1008 (by decide)] at e5
      have s2 := same_t (same_m (F := [1102, 1113, 80, 81, 82, 83, 84, 20, 444, 1006, 1007, 1008, 405]) sX (by decide)) (same_m e7 (by decide))
      have g13 : ∀ j, X2 1113 j = if j = 1 then X 405 0 + 1 else X 1113 j := fun j => by
        rw [hl 1113 (by decide), ← hX', wu_v, wu_ne (by decide)]
      have g02 : ∀ j, X2 1102 j = if j = X 405 0 then u + 8 * C + 128 * K else X 1102 j := fun j => by
        rw [hl 1102 (by decide), ← hX', wu_ne (by decide), wu_v]
      have z := fun f (hf : f ∉ _) => congrFun (s2 f hf) 0
      refine ⟨⟨?_, pB_c pb (same_g s2 (by decide)), ?_, pW_c pw (same_g s2 (by decide)), pR_c pr (same_g s2 (by decide)), pH_c ph (same_g s2 (by decide)), pS_c ps (same_g s2 (by decide)), pF_c pf (same_g s2 (by decide))⟩, fun _ => ?_⟩
      ·
        refine pG_v pg ?_ ?_ ?_ ?_ ?_ ?_ ?_ ?_
        · rw [g13, if_neg (by decide), z 400 (by decide), pg.1]
        · rw [g13, if_pos rfl, e2]
        · rw [g13, if_neg (by decide), z 410 (by decide), pg.2.2.1]
        · rw [g13, if_neg (by decide), z 425 (by decide), pg.2.2.2.1]
        · rw [g13, if_neg (by decide), z 434 (by decide), pg.2.2.2.2.1]
        · rw [g13, if_neg (by decide), z 421 (by decide), pg.2.2.2.2.2.1]
        · rw [g13, if_neg (by decide), z 422 (by decide), pg.2.2.2.2.2.2.1]
        · rw [z 434 (by decide)]
          exact pg.2.2.2.2.2.2.2
      · intro k k0 k1
        rw [e2] at k1
        rw [g02, e3, e4, e5, s2 1009 (by decide)]
        by_cases hk : k = X 405 0
        · simp only [if_pos hk]
          rw [hnew k (by omega) (by omega)]
          omega
        · simp only [if_neg hk]
          exact pc k k0 (by omega)
      · have hLv := wY_A hY2
        rw [wA_l hle hL (j := 613) (by decide) (by decide)]
        simp (disch := first | assumption | omega) only [↓reduceIte, l_0, l_1, l_2, l_3, l_4, l_5, l_6, l_7, l_8, l_9, l_10, l_12, l_16, l_24, l_31, l_32, l_48, l_96, l_99, l_100, l_150, l_180, l_200, l_240, l_255, l_260, l_384, l_400, l_999, l_5000, l_9999, l_1000000, l_1000000000, l_11, l_13, l_14, l_15, l_17, l_18, l_19, l_20, l_21, l_22, l_23, l_25, l_26, l_28, l_30, l_34, l_38, l_42, l_44, l_54, l_60, l_64, l_81, l_90, l_101, l_103, l_110, l_120, l_128, l_140, l_256, l_401, l_403, l_450, l_512, l_853, l_983, l_1000, l_1001, l_2048, l_3000000, l_2000000, l_4096, l_5001, l_5002, l_10000, l_10001, l_32767, l_32768, l_60000, l_2147483647, zJ_lt, zJ_le, zJ_eq, zJ_add, zJ_sub, zJ_mul, zJ_neg, zJ_dv, t_I, t_Ie, t_R, t_Re, t_N, t_Nn, t_V, t_Ve, t_b, t_x, t_w, e_0, e_1, e_2, e_3, ↓t_0, ↓t_1, t_00, t_11, if_true, if_false, ite_not, not_false_eq_true, not_true_eq_false, Int.reduceEq, Int.reduceLT, Int.reduceLE, Int.reduceNeg, Nat.reduceEqDiff, Bool.false_eq_true, k8, ev, e1, lg_ hLv, g13, Int.add_sub_cancel]
    · rw [zB_0 kB, zB_0 (p := u < 8 ∧ ((1 ≤ C ∧ C ≤ 8) ∧ (0 ≤ K ∧ K ≤ 9))) (fun g => kB g.2), q_L_isHarness_386]
      simp (disch := first | assumption | omega) only [↓reduceIte, l_0, l_1, l_2, l_3, l_4, l_5, l_6, l_7, l_8, l_9, l_10, l_12, l_16, l_24, l_31, l_32, l_48, l_96, l_99, l_100, l_150, l_180, l_200, l_240, l_255, l_260, l_384, l_400, l_999, l_5000, l_9999, l_1000000, l_1000000000, l_11, l_13, l_14, l_15, l_17, l_18, l_19, l_20, l_21, l_22, l_23, l_25, l_26, l_28, l_30, l_34, l_38, l_42, l_44, l_54, l_60, l_64, l_81, l_90, l_101, l_103, l_110, l_120, l_128, l_140, l_256, l_401, l_403, l_450, l_512, l_853, l_983, l_1000, l_1001, l_2048, l_3000000, l_2000000, l_4096, l_5001, l_5002, l_10000, l_10001, l_32767, l_32768, l_60000, l_2147483647, zJ_lt, zJ_le, zJ_eq, zJ_add, zJ_sub, zJ_mul, zJ_neg, zJ_dv, t_I, t_Ie, t_R, t_Re, t_N, t_Nn, t_V, t_Ve, t_b, t_x, t_w, e_0, e_1, e_2, e_3, ↓t_0, ↓t_1, t_00, t_11, if_true, if_false, ite_not, not_false_eq_true, not_true_eq_false, Int.reduceEq, Int.reduceLT, Int.reduceLE, Int.reduceNeg, Nat.reduceEqDiff, Bool.false_eq_true]
      rw [q_L_isHarness_422]
      refine zgL_d hG (by rw [l_0, l_1]; exact d_connector hY hG hI (by omega) (by omega) (by omega)) (fun Y2 n2 m2 X2 code ans v hD h0 hE hl hY2 hG2 hI2 hle => ?_)
      unfold dConnector at hD
      obtain ⟨ev, e1⟩ := (zd3_v hD h0 hE).2.1 ⟨by omega, by omega⟩ kB
      refine ⟨pK_s e1 (by decide) hK, fun _ => ?_⟩
      simp (disch := first | assumption | omega) only [↓reduceIte, l_0, l_1, l_2, l_3, l_4, l_5, l_6, l_7, l_8, l_9, l_10, l_12, l_16, l_24, l_31, l_32, l_48, l_96, l_99, l_100, l_150, l_180, l_200, l_240, l_255, l_260, l_384, l_400, l_999, l_5000, l_9999, l_1000000, l_1000000000, l_11, l_13, l_14, l_15, l_17, l_18, l_19, l_20, l_21, l_22, l_23, l_25, l_26, l_28, l_30, l_34, l_38, l_42, l_44, l_54, l_60, l_64, l_81, l_90, l_101, l_103, l_110, l_120, l_128, l_140, l_256, l_401, l_403, l_450, l_512, l_853, l_983, l_1000, l_1001, l_2048, l_3000000, l_2000000, l_4096, l_5001, l_5002, l_10000, l_10001, l_32767, l_32768, l_60000, l_2147483647, zJ_lt, zJ_le, zJ_eq, zJ_add, zJ_sub, zJ_mul, zJ_neg, zJ_dv, t_I, t_Ie, t_R, t_Re, t_N, t_Nn, t_V, t_Ve, t_b, t_x, t_w, e_0, e_1, e_2, e_3, ↓t_0, ↓t_1, t_00, t_11, if_true, if_false, ite_not, not_false_eq_true, not_true_eq_false, Int.reduceEq, Int.reduceLT, Int.reduceLE, Int.reduceNeg, Nat.reduceEqDiff, Bool.false_eq_true, k8, ev, zrv_1]
  · rw [zB_0 (p := u < 8 ∧ ((1 ≤ C ∧ C ≤ 8) ∧ (0 ≤ K ∧ K ≤ 9))) (fun g => kA g.1), q_L_isHarness_386]
    have k8 : u = 8 := by omega
    simp (disch := first | assumption | omega) only [↓reduceIte, l_0, l_1, l_2, l_3, l_4, l_5, l_6, l_7, l_8, l_9, l_10, l_12, l_16, l_24, l_31, l_32, l_48, l_96, l_99, l_100, l_150, l_180, l_200, l_240, l_255, l_260, l_384, l_400, l_999, l_5000, l_9999, l_1000000, l_1000000000, l_11, l_13, l_14, l_15, l_17, l_18, l_19, l_20, l_21, l_22, l_23, l_25, l_26, l_28, l_30, l_34, l_38, l_42, l_44, l_54, l_60, l_64, l_81, l_90, l_101, l_103, l_110, l_120, l_128, l_140, l_256, l_401, l_403, l_450, l_512, l_853, l_983, l_1000, l_1001, l_2048, l_3000000, l_2000000, l_4096, l_5001, l_5002, l_10000, l_10001, l_32767, l_32768, l_60000, l_2147483647, zJ_lt, zJ_le, zJ_eq, zJ_add, zJ_sub, zJ_mul, zJ_neg, zJ_dv, t_I, t_Ie, t_R, t_Re, t_N, t_Nn, t_V, t_Ve, t_b, t_x, t_w, e_0, e_1, e_2, e_3, ↓t_0, ↓t_1, t_00, t_11, if_true, if_false, ite_not, not_false_eq_true, not_true_eq_false, Int.reduceEq, Int.reduceLT, Int.reduceLE, Int.reduceNeg, Nat.reduceEqDiff, Bool.false_eq_true]
    rw [q_L_isHarness_422]
    refine zgL_d hG (by rw [l_0, l_1]; exact d_connector hY hG hI (by omega) (by omega) (by omega)) (fun Y2 n2 m2 X2 code ans v hD h0 hE hl hY2 hG2 hI2 hle => ?_)
    unfold dConnector at hD
    obtain ⟨ev, e1⟩ := (zd3_v hD h0 hE).1 (by omega)
    refine ⟨pK_s e1 (by decide) hK, fun _ => ?_⟩
    simp (disch := first | assumption | omega) only [↓reduceIte, l_0, l_1, l_2, l_3, l_4, l_5, l_6, l_7, l_8, l_9, l_10, l_12, l_16, l_24, l_31, l_32, l_48, l_96, l_99, l_100, l_150, l_180, l_200, l_240, l_255, l_260, l_384, l_400, l_999, l_5000, l_9999, l_1000000, l_1000000000, l_11, l_13, l_14, l_15, l_17, l_18, l_19, l_20, l_21, l_22, l_23, l_25, l_26, l_28, l_30, l_34, l_38, l_42, l_44, l_54, l_60, l_64, l_81, l_90, l_101, l_103, l_110, l_120, l_128, l_140, l_256, l_401, l_403, l_450, l_512, l_853, l_983, l_1000, l_1001, l_2048, l_3000000, l_2000000, l_4096, l_5001, l_5002, l_10000, l_10001, l_32767, l_32768, l_60000, l_2147483647, zJ_lt, zJ_le, zJ_eq, zJ_add, zJ_sub, zJ_mul, zJ_neg, zJ_dv, t_I, t_Ie, t_R, t_Re, t_N, t_Nn, t_V, t_Ve, t_b, t_x, t_w, e_0, e_1, e_2, e_3, ↓t_0, ↓t_1, t_00, t_11, if_true, if_false, ite_not, not_false_eq_true, not_true_eq_false, Int.reduceEq, Int.reduceLT, Int.reduceLE, Int.reduceNeg, Nat.reduceEqDiff, Bool.false_eq_true, k8, ev, zrv_0]
theorem H_472 (hZ : zLA G t Y n X) (h1 : 0 ≤ q ∧ q < 60000) (h2 : 0 ≤ r ∧ r < 60000) : ev_ G 218 472 [.ref (wA Y 13 0), .ref (wA Y 15 600), .ref (wA Y 15 601), .ref (wA Y 15 602), .ref (wA Y 15 603), .ref (wA Y 15 604), .ref (wA Y 15 613), .int (zJ k), .int (zJ q), .int (zJ r), zU, zU, zU, zU, zU, zU, zU, zU, zU, zU, zU, zU, zU, zU] [] (wd Y n s X) = ev_ G 218 517 [.ref (wA Y 13 0), .ref (wA Y 15 600), .ref (wA Y 15 601), .ref (wA Y 15 602), .ref (wA Y 15 603), .ref (wA Y 15 604), .ref (wA Y 15 613), .int (zJ k), .int (zJ q), .int (zJ r), .int (zJ (q % (X 405 0 + 1))), .int (zJ (r % (X 405 0 + 1))), zU, zU, zU, zU, zU, zU, zU, zU, zU, zU, zU, zU] [.int (zJ (zB (q % (X 405 0 + 1) < X 405 0 ∧ r % (X 405 0 + 1) < X 405 0)))] (wd Y n s X) := by
  obtain ⟨hY, hG, hI, pg, pb, pc, pw, pr, ph, ps, pf⟩ := hZ
  have hL := wY_A hY
  have h400 : 0 ≤ X 405 0 ∧ X 405 0 ≤ 8 := by
    have := hI.2.1.1
    have := hY.2.2.1
    omega
  have e0 : ¬X 405 0 + 1 = 0 := by omega
  have b1 : 0 ≤ q % (X 405 0 + 1) ∧ q % (X 405 0 + 1) < X 405 0 + 1 := ⟨Int.emod_nonneg _ e0, Int.emod_lt_of_pos _ (by omega)⟩
  have b2 : 0 ≤ r % (X 405 0 + 1) ∧ r % (X 405 0 + 1) < X 405 0 + 1 := ⟨Int.emod_nonneg _ e0, Int.emod_lt_of_pos _ (by omega)⟩
  rw [q_L_isHarness_472]
  by_cases k1 : X 405 0 ≤ q % (X 405 0 + 1)
  · rw [zB_0 (by omega)]
    simp (disch := first | assumption | omega) only [↓reduceIte, l_0, l_1, l_2, l_3, l_4, l_5, l_6, l_7, l_8, l_9, l_10, l_12, l_16, l_24, l_31, l_32, l_48, l_96, l_99, l_100, l_150, l_180, l_200, l_240, l_255, l_260, l_384, l_400, l_999, l_5000, l_9999, l_1000000, l_1000000000, l_11, l_13, l_14, l_15, l_17, l_18, l_19, l_20, l_21, l_22, l_23, l_25, l_26, l_28, l_30, l_34, l_38, l_42, l_44, l_54, l_60, l_64, l_81, l_90, l_101, l_103, l_110, l_120, l_128, l_140, l_256, l_401, l_403, l_450, l_512, l_853, l_983, l_1000, l_1001, l_2048, l_3000000, l_2000000, l_4096, l_5001, l_5002, l_10000, l_10001, l_32767, l_32768, l_60000, l_2147483647, zJ_lt, zJ_le, zJ_eq, zJ_add, zJ_sub, zJ_mul, zJ_neg, zJ_dv, t_I, t_Ie, t_R, t_Re, t_N, t_Nn, t_V, t_Ve, t_b, t_x, t_w, e_0, e_1, e_2, e_3, ↓t_0, ↓t_1, t_00, t_11, if_true, if_false, ite_not, not_false_eq_true, not_true_eq_false, Int.reduceEq, Int.reduceLT, Int.reduceLE, Int.reduceNeg, Nat.reduceEqDiff, Bool.false_eq_true, zem, lg_ hL, pg.2.1, e0, k1]
  · by_cases k2 : X 405 0 ≤ r % (X 405 0 + 1)
    · rw [zB_0 (by omega)]
      simp (disch := first | assumption | omega) only [↓reduceIte, l_0, l_1, l_2, l_3, l_4, l_5, l_6, l_7, l_8, l_9, l_10, l_12, l_16, l_24, l_31, l_32, l_48, l_96, l_99, l_100, l_150, l_180, l_200, l_240, l_255, l_260, l_384, l_400, l_999, l_5000, l_9999, l_1000000, l_1000000000, l_11, l_13, l_14, l_15, l_17, l_18, l_19, l_20, l_21, l_22, l_23, l_25, l_26, l_28, l_30, l_34, l_38, l_42, l_44, l_54, l_60, l_64, l_81, l_90, l_101, l_103, l_110, l_120, l_128, l_140, l_256, l_401, l_403, l_450, l_512, l_853, l_983, l_1000, l_1001, l_2048, l_3000000, l_2000000, l_4096, l_5001, l_5002, l_10000, l_10001, l_32767, l_32768, l_60000, l_2147483647, zJ_lt, zJ_le, zJ_eq, zJ_add, zJ_sub, zJ_mul, zJ_neg, zJ_dv, t_I, t_Ie, t_R, t_Re, t_N, t_Nn, t_V, t_Ve, t_b, t_x, t_w, e_0, e_1, e_2, e_3, ↓t_0, ↓t_1, t_00, t_11, if_true, if_false, ite_not, not_false_eq_true, not_true_eq_false, Int.reduceEq, Int.reduceLT, Int.reduceLE, Int.reduceNeg, Nat.reduceEqDiff, Bool.false_eq_true, zem, lg_ hL, pg.2.1, e0, k1, k2]
    · rw [zB_1 (by omega)]
      simp (disch := first | assumption | omega) only [↓reduceIte, l_0, l_1, l_2, l_3, l_4, l_5, l_6, l_7, l_8, l_9, l_10, l_12, l_16, l_24, l_31, l_32, l_48, l_96, l_99, l_100, l_150, l_180, l_200, l_240, l_255, l_260, l_384, l_400, l_999, l_5000, l_9999, l_1000000, l_1000000000, l_11, l_13, l_14, l_15, l_17, l_18, l_19, l_20, l_21, l_22, l_23, l_25, l_26, l_28, l_30, l_34, l_38, l_42, l_44, l_54, l_60, l_64, l_81, l_90, l_101, l_103, l_110, l_120, l_128, l_140, l_256, l_401, l_403, l_450, l_512, l_853, l_983, l_1000, l_1001, l_2048, l_3000000, l_2000000, l_4096, l_5001, l_5002, l_10000, l_10001, l_32767, l_32768, l_60000, l_2147483647, zJ_lt, zJ_le, zJ_eq, zJ_add, zJ_sub, zJ_mul, zJ_neg, zJ_dv, t_I, t_Ie, t_R, t_Re, t_N, t_Nn, t_V, t_Ve, t_b, t_x, t_w, e_0, e_1, e_2, e_3, ↓t_0, ↓t_1, t_00, t_11, if_true, if_false, ite_not, not_false_eq_true, not_true_eq_false, Int.reduceEq, Int.reduceLT, Int.reduceLE, Int.reduceNeg, Nat.reduceEqDiff, Bool.false_eq_true, zem, lg_ hL, pg.2.1, e0, k1, k2]
theorem H_mates (hZ : zLA G t Y n X) (hk : 0 ≤ k ∧ k ≤ 2) (h1 : 0 ≤ q ∧ q < 60000) (h2 : 0 ≤ r ∧ r < 60000) : zgL G t Y n s (ev_ G 218 472 [.ref (wA Y 13 0), .ref (wA Y 15 600), .ref (wA Y 15 601), .ref (wA Y 15 602), .ref (wA Y 15 603), .ref (wA Y 15 604), .ref (wA Y 15 613), .int (zJ k), .int (zJ q), .int (zJ r), zU, zU, zU, zU, zU, zU, zU, zU, zU, zU, zU, zU, zU, zU] [] (wd Y n s X)) := by
  rw [H_472 hZ h1 h2]
  have hZ' := hZ
  obtain ⟨hY, hG, hI, hK⟩ := hZ
  obtain ⟨pg, pb, pc, pw, pr, ph, ps, pf⟩ := id hK
  have hL := wY_A hY
  have hz := hI.2.1.1
  have h400 : 0 ≤ X 405 0 ∧ X 405 0 ≤ 8 := by
    have := hY.2.2.1
    omega
  have e0 : ¬X 405 0 + 1 = 0 := by omega
  have b1 : 0 ≤ q % (X 405 0 + 1) ∧ q % (X 405 0 + 1) < X 405 0 + 1 := ⟨Int.emod_nonneg _ e0, Int.emod_lt_of_pos _ (by omega)⟩
  have b2 : 0 ≤ r % (X 405 0 + 1) ∧ r % (X 405 0 + 1) < X 405 0 + 1 := ⟨Int.emod_nonneg _ e0, Int.emod_lt_of_pos _ (by omega)⟩
  generalize q % (X 405 0 + 1) = f at b1
  generalize r % (X 405 0 + 1) = o at b2
  have e3 : ¬3 ≤ k := by omega
  by_cases kA : f < X 405 0 ∧ o < X 405 0
  · obtain ⟨-, f1, f2, f3, f4, f5, f6, f7, f8, f9, f10, f11⟩ := pC_r hZ' (k := f) ⟨b1.1, kA.1⟩
    obtain ⟨-, o1, o2, o3, o4, o5, o6, o7, o8, o9, o10, o11⟩ := pC_r hZ' (k := o) ⟨b2.1, kA.2⟩
    have kA' : (0 ≤ f ∧ f < X 405 0) ∧ (0 ≤ o ∧ o < X 405 0) := by omega
    by_cases kB : f = o
    · rw [zB_1 kA, q_L_isHarness_517]
      simp (disch := first | assumption | omega) only [↓reduceIte, l_0, l_1, l_2, l_3, l_4, l_5, l_6, l_7, l_8, l_9, l_10, l_12, l_16, l_24, l_31, l_32, l_48, l_96, l_99, l_100, l_150, l_180, l_200, l_240, l_255, l_260, l_384, l_400, l_999, l_5000, l_9999, l_1000000, l_1000000000, l_11, l_13, l_14, l_15, l_17, l_18, l_19, l_20, l_21, l_22, l_23, l_25, l_26, l_28, l_30, l_34, l_38, l_42, l_44, l_54, l_60, l_64, l_81, l_90, l_101, l_103, l_110, l_120, l_128, l_140, l_256, l_401, l_403, l_450, l_512, l_853, l_983, l_1000, l_1001, l_2048, l_3000000, l_2000000, l_4096, l_5001, l_5002, l_10000, l_10001, l_32767, l_32768, l_60000, l_2147483647, zJ_lt, zJ_le, zJ_eq, zJ_add, zJ_sub, zJ_mul, zJ_neg, zJ_dv, t_I, t_Ie, t_R, t_Re, t_N, t_Nn, t_V, t_Ve, t_b, t_x, t_w, e_0, e_1, e_2, e_3, ↓t_0, ↓t_1, t_00, t_11, if_true, if_false, ite_not, not_false_eq_true, not_true_eq_false, Int.reduceEq, Int.reduceLT, Int.reduceLE, Int.reduceNeg, Nat.reduceEqDiff, Bool.false_eq_true, e3, kB]
      rw [q_L_isHarness_569]
      simp (disch := first | assumption | omega) only [↓reduceIte, l_0, l_1, l_2, l_3, l_4, l_5, l_6, l_7, l_8, l_9, l_10, l_12, l_16, l_24, l_31, l_32, l_48, l_96, l_99, l_100, l_150, l_180, l_200, l_240, l_255, l_260, l_384, l_400, l_999, l_5000, l_9999, l_1000000, l_1000000000, l_11, l_13, l_14, l_15, l_17, l_18, l_19, l_20, l_21, l_22, l_23, l_25, l_26, l_28, l_30, l_34, l_38, l_42, l_44, l_54, l_60, l_64, l_81, l_90, l_101, l_103, l_110, l_120, l_128, l_140, l_256, l_401, l_403, l_450, l_512, l_853, l_983, l_1000, l_1001, l_2048, l_3000000, l_2000000, l_4096, l_5001, l_5002, l_10000, l_10001, l_32767, l_32768, l_60000, l_2147483647, zJ_lt, zJ_le, zJ_eq, zJ_add, zJ_sub, zJ_mul, zJ_neg, zJ_dv, t_I, t_Ie, t_R, t_Re, t_N, t_Nn, t_V, t_Ve, t_b, t_x, t_w, e_0, e_1, e_2, e_3, ↓t_0, ↓t_1, t_00, t_11, if_true, if_false, ite_not, not_false_eq_true, not_true_eq_false, Int.reduceEq, Int.reduceLT, Int.reduceLE, Int.reduceNeg, Nat.reduceEqDiff, Bool.false_eq_true]
      rw [q_L_isHarness_606]
      refine zgL_d hG (by rw [l_0, l_2]; exact d_mates hY hG hI (by omega) (by omega)) (fun Y2 n2 m2 X2 code ans v hD h0 hE hl hY2 hG2 hI2 hle => ?_)
      unfold dMates at hD
      obtain ⟨ev, e1⟩ := (zd3_v hD h0 hE).2.1 (by omega) (fun g => g rfl)
      refine ⟨pK_s e1 (by decide) hK, fun _ => ?_⟩
      simp (disch := first | assumption | omega) only [↓reduceIte, l_0, l_1, l_2, l_3, l_4, l_5, l_6, l_7, l_8, l_9, l_10, l_12, l_16, l_24, l_31, l_32, l_48, l_96, l_99, l_100, l_150, l_180, l_200, l_240, l_255, l_260, l_384, l_400, l_999, l_5000, l_9999, l_1000000, l_1000000000, l_11, l_13, l_14, l_15, l_17, l_18, l_19, l_20, l_21, l_22, l_23, l_25, l_26, l_28, l_30, l_34, l_38, l_42, l_44, l_54, l_60, l_64, l_81, l_90, l_101, l_103, l_110, l_120, l_128, l_140, l_256, l_401, l_403, l_450, l_512, l_853, l_983, l_1000, l_1001, l_2048, l_3000000, l_2000000, l_4096, l_5001, l_5002, l_10000, l_10001, l_32767, l_32768, l_60000, l_2147483647, zJ_lt, zJ_le, zJ_eq, zJ_add, zJ_sub, zJ_mul, zJ_neg, zJ_dv, t_I, t_Ie, t_R, t_Re, t_N, t_Nn, t_V, t_Ve, t_b, t_x, t_w, e_0, e_1, e_2, e_3, ↓t_0, ↓t_1, t_00, t_11, if_true, if_false, ite_not, not_false_eq_true, not_true_eq_false, Int.reduceEq, Int.reduceLT, Int.reduceLE, Int.reduceNeg, Nat.reduceEqDiff, Bool.false_eq_true, ev, zrv_1]
    · by_cases kC : (X 1007 f = X 1007 o ∧ X 1008 f = X 1008 o) ∧ X 1009 f = -1 ∧ X 1009 o = -1
      · have c1 : X 1102 f / 8 = X 1102 o / 8 := by omega
        have c2 : ¬2048 ≤ X 1102 f := by omega
        rw [zB_1 kA, q_L_isHarness_517]
        simp (disch := first | assumption | omega) only [↓reduceIte, l_0, l_1, l_2, l_3, l_4, l_5, l_6, l_7, l_8, l_9, l_10, l_12, l_16, l_24, l_31, l_32, l_48, l_96, l_99, l_100, l_150, l_180, l_200, l_240, l_255, l_260, l_384, l_400, l_999, l_5000, l_9999, l_1000000, l_1000000000, l_11, l_13, l_14, l_15, l_17, l_18, l_19, l_20, l_21, l_22, l_23, l_25, l_26, l_28, l_30, l_34, l_38, l_42, l_44, l_54, l_60, l_64, l_81, l_90, l_101, l_103, l_110, l_120, l_128, l_140, l_256, l_401, l_403, l_450, l_512, l_853, l_983, l_1000, l_1001, l_2048, l_3000000, l_2000000, l_4096, l_5001, l_5002, l_10000, l_10001, l_32767, l_32768, l_60000, l_2147483647, zJ_lt, zJ_le, zJ_eq, zJ_add, zJ_sub, zJ_mul, zJ_neg, zJ_dv, t_I, t_Ie, t_R, t_Re, t_N, t_Nn, t_V, t_Ve, t_b, t_x, t_w, e_0, e_1, e_2, e_3, ↓t_0, ↓t_1, t_00, t_11, if_true, if_false, ite_not, not_false_eq_true, not_true_eq_false, Int.reduceEq, Int.reduceLT, Int.reduceLE, Int.reduceNeg, Nat.reduceEqDiff, Bool.false_eq_true, e3, kB, lc_ hL, c1, c2]
        rw [q_L_isHarness_569]
        have hof : o ≠ f := fun g => kB g.symm
        simp (disch := first | assumption | omega) only [↓reduceIte, l_0, l_1, l_2, l_3, l_4, l_5, l_6, l_7, l_8, l_9, l_10, l_12, l_16, l_24, l_31, l_32, l_48, l_96, l_99, l_100, l_150, l_180, l_200, l_240, l_255, l_260, l_384, l_400, l_999, l_5000, l_9999, l_1000000, l_1000000000, l_11, l_13, l_14, l_15, l_17, l_18, l_19, l_20, l_21, l_22, l_23, l_25, l_26, l_28, l_30, l_34, l_38, l_42, l_44, l_54, l_60, l_64, l_81, l_90, l_101, l_103, l_110, l_120, l_128, l_140, l_256, l_401, l_403, l_450, l_512, l_853, l_983, l_1000, l_1001, l_2048, l_3000000, l_2000000, l_4096, l_5001, l_5002, l_10000, l_10001, l_32767, l_32768, l_60000, l_2147483647, zJ_lt, zJ_le, zJ_eq, zJ_add, zJ_sub, zJ_mul, zJ_neg, zJ_dv, t_I, t_Ie, t_R, t_Re, t_N, t_Nn, t_V, t_Ve, t_b, t_x, t_w, e_0, e_1, e_2, e_3, ↓t_0, ↓t_1, t_00, t_11, if_true, if_false, ite_not, not_false_eq_true, not_true_eq_false, Int.reduceEq, Int.reduceLT, Int.reduceLE, Int.reduceNeg, Nat.reduceEqDiff, Bool.false_eq_true, lc_ hL, sc_ hL, wu_ni hof]
        generalize hX' : wu (wu X 1102 f (X 1102 f + 2048 * (o + 1))) 1102 o (X 1102 o + 2048 * (f + 1)) = X'
        have sX : zsame [1102] X X' := by
          rw [← hX']
          exact same_u (by decide) (same_u (by decide) same_r)
        have gl : ∀ f, f < 1100 → X' f = X f := fun f hf => sX f (by simp; omega)
        have hI' := iAll_l gl hY.2.2.2.1.2 hY.2.2.2.2.2.1.2 hI
        rw [q_L_isHarness_606]
        refine zgL_d hG (by rw [l_0, l_2]; exact d_mates hY hG hI' (by omega) (by omega)) (fun Y2 n2 m2 X2 code ans v hD h0 hE hl hY2 hG2 hI2 hle => ?_)
        unfold dMates at hD
        rw [gl 405 (by decide), gl 1007 (by decide), gl 1008 (by decide), gl 1009 (by decide)] at hD
        obtain ⟨ev, e1, e2, e7⟩ := (zd3_v hD h0 hE).2.2.2 kA' kB kC
        have s2 := same_t (same_m (F := [1102, 83, 444, 1009]) sX (by decide)) (same_m e7 (by decide))
        have g02 : ∀ j, X2 1102 j = if j = o then X 1102 o + 2048 * (f + 1) else if j = f then X 1102 f + 2048 * (o + 1) else X 1102 j := fun j => by
          rw [hl 1102 (by decide), ← hX', wu_v, wu_v]
        refine ⟨⟨pG_c pg (same_g s2 (by decide)), pB_c pb (same_g s2 (by decide)), ?_, pW_c pw (same_g s2 (by decide)), pR_c pr (same_g s2 (by decide)), pH_c ph (same_g s2 (by decide)), pS_c ps (same_g s2 (by decide)), pF_c pf (same_g s2 (by decide))⟩, fun hK2 => ?_⟩
        · intro k k0 k1
          rw [s2 405 (by decide)] at k1
          rw [g02, s2 1006 (by decide), s2 1007 (by decide), s2 1008 (by decide), e2]
          have := pc k k0 k1
          by_cases ho : k = o
          · simp only [if_pos ho]
            rw [ho] at this
            rw [ho]
            omega
          · simp only [if_neg ho]
            by_cases hf : k = f
            · simp only [if_pos hf]
              rw [hf] at this
              rw [hf]
              omega
            · simp only [if_neg hf]
              exact this
        · have hZ2 : zLA G (t + 1) Y2 n2 X2 := ⟨hY2, hG2, hI2, hK2⟩
          have hw := L_wrong (s := m2) hZ2
          have e8 : zmt X' X2 (X 405 0) = zmt X2 X2 (X2 405 0) := by
            unfold zmt
            rw [s2 405 (by decide), ← e7 1007 (by decide), ← e7 1008 (by decide)]
          rw [wA_l hle hL (j := 613) (by decide) (by decide), wA_l hle hL (j := 602) (by decide) (by decide)]
          simp (disch := first | assumption | omega) only [↓reduceIte, l_0, l_1, l_2, l_3, l_4, l_5, l_6, l_7, l_8, l_9, l_10, l_12, l_16, l_24, l_31, l_32, l_48, l_96, l_99, l_100, l_150, l_180, l_200, l_240, l_255, l_260, l_384, l_400, l_999, l_5000, l_9999, l_1000000, l_1000000000, l_11, l_13, l_14, l_15, l_17, l_18, l_19, l_20, l_21, l_22, l_23, l_25, l_26, l_28, l_30, l_34, l_38, l_42, l_44, l_54, l_60, l_64, l_81, l_90, l_101, l_103, l_110, l_120, l_128, l_140, l_256, l_401, l_403, l_450, l_512, l_853, l_983, l_1000, l_1001, l_2048, l_3000000, l_2000000, l_4096, l_5001, l_5002, l_10000, l_10001, l_32767, l_32768, l_60000, l_2147483647, zJ_lt, zJ_le, zJ_eq, zJ_add, zJ_sub, zJ_mul, zJ_neg, zJ_dv, t_I, t_Ie, t_R, t_Re, t_N, t_Nn, t_V, t_Ve, t_b, t_x, t_w, e_0, e_1, e_2, e_3, ↓t_0, ↓t_1, t_00, t_11, if_true, if_false, ite_not, not_false_eq_true, not_true_eq_false, Int.reduceEq, Int.reduceLT, Int.reduceLE, Int.reduceNeg, Nat.reduceEqDiff, Bool.false_eq_true, kB, ev, e1, hw, e8]
      · have hcn : zB (X 1102 f / 8 = X 1102 o / 8 ∧ ¬2048 ≤ X 1102 f) = 0 := zB_0 (by omega)
        have hst : ev_ G 218 517 [.ref (wA Y 13 0), .ref (wA Y 15 600), .ref (wA Y 15 601), .ref (wA Y 15 602), .ref (wA Y 15 603), .ref (wA Y 15 604), .ref (wA Y 15 613), .int (zJ k), .int (zJ q), .int (zJ r), .int (zJ f), .int (zJ o), zU, zU, zU, zU, zU, zU, zU, zU, zU, zU, zU, zU] [.int (zJ 1)] (wd Y n s X) = ev_ G 218 569 [.ref (wA Y 13 0), .ref (wA Y 15 600), .ref (wA Y 15 601), .ref (wA Y 15 602), .ref (wA Y 15 603), .ref (wA Y 15 604), .ref (wA Y 15 613), .int (zJ k), .int (zJ q), .int (zJ r), .int (zJ f), .int (zJ o), .int (zJ 1), zU, zU, zU, zU, zU, zU, zU, zU, zU, zU, zU] [.int (zJ 0)] (wd Y n s X) := by
          rw [q_L_isHarness_517]
          by_cases c1 : X 1102 f / 8 = X 1102 o / 8
          · have c2 : 2048 ≤ X 1102 f := by omega
            simp (disch := first | assumption | omega) only [↓reduceIte, l_0, l_1, l_2, l_3, l_4, l_5, l_6, l_7, l_8, l_9, l_10, l_12, l_16, l_24, l_31, l_32, l_48, l_96, l_99, l_100, l_150, l_180, l_200, l_240, l_255, l_260, l_384, l_400, l_999, l_5000, l_9999, l_1000000, l_1000000000, l_11, l_13, l_14, l_15, l_17, l_18, l_19, l_20, l_21, l_22, l_23, l_25, l_26, l_28, l_30, l_34, l_38, l_42, l_44, l_54, l_60, l_64, l_81, l_90, l_101, l_103, l_110, l_120, l_128, l_140, l_256, l_401, l_403, l_450, l_512, l_853, l_983, l_1000, l_1001, l_2048, l_3000000, l_2000000, l_4096, l_5001, l_5002, l_10000, l_10001, l_32767, l_32768, l_60000, l_2147483647, zJ_lt, zJ_le, zJ_eq, zJ_add, zJ_sub, zJ_mul, zJ_neg, zJ_dv, t_I, t_Ie, t_R, t_Re, t_N, t_Nn, t_V, t_Ve, t_b, t_x, t_w, e_0, e_1, e_2, e_3, ↓t_0, ↓t_1, t_00, t_11, if_true, if_false, ite_not, not_false_eq_true, not_true_eq_false, Int.reduceEq, Int.reduceLT, Int.reduceLE, Int.reduceNeg, Nat.reduceEqDiff, Bool.false_eq_true, e3, kB, lc_ hL, c1, c2]
          · simp (disch := first | assumption | omega) only [↓reduceIte, l_0, l_1, l_2, l_3, l_4, l_5, l_6, l_7, l_8, l_9, l_10, l_12, l_16, l_24, l_31, l_32, l_48, l_96, l_99, l_100, l_150, l_180, l_200, l_240, l_255, l_260, l_384, l_400, l_999, l_5000, l_9999, l_1000000, l_1000000000, l_11, l_13, l_14, l_15, l_17, l_18, l_19, l_20, l_21, l_22, l_23, l_25, l_26, l_28, l_30, l_34, l_38, l_42, l_44, l_54, l_60, l_64, l_81, l_90, l_101, l_103, l_110, l_120, l_128, l_140, l_256, l_401, l_403, l_450, l_512, l_853, l_983, l_1000, l_1001, l_2048, l_3000000, l_2000000, l_4096, l_5001, l_5002, l_10000, l_10001, l_32767, l_32768, l_60000, l_2147483647, zJ_lt, zJ_le, zJ_eq, zJ_add, zJ_sub, zJ_mul, zJ_neg, zJ_dv, t_I, t_Ie, t_R, t_Re, t_N, t_Nn, t_V, t_Ve, t_b, t_x, t_w, e_0, e_1, e_2, e_3, ↓t_0, ↓t_1, t_00, t_11, if_true, if_false, ite_not, not_false_eq_true, not_true_eq_false, Int.reduceEq, Int.reduceLT, Int.reduceLE, Int.reduceNeg, Nat.reduceEqDiff, Bool.false_eq_true, e3, kB, lc_ hL, c1]
        rw [zB_1 kA, hst, q_L_isHarness_569]
        simp (disch := first | assumption | omega) only [↓reduceIte, l_0, l_1, l_2, l_3, l_4, l_5, l_6, l_7, l_8, l_9, l_10, l_12, l_16, l_24, l_31, l_32, l_48, l_96, l_99, l_100, l_150, l_180, l_200, l_240, l_255, l_260, l_384, l_400, l_999, l_5000, l_9999, l_1000000, l_1000000000, l_11, l_13, l_14, l_15, l_17, l_18, l_19, l_20, l_21, l_22, l_23, l_25, l_26, l_28, l_30, l_34, l_38, l_42, l_44, l_54, l_60, l_64, l_81, l_90, l_101, l_103, l_110, l_120, l_128, l_140, l_256, l_401, l_403, l_450, l_512, l_853, l_983, l_1000, l_1001, l_2048, l_3000000, l_2000000, l_4096, l_5001, l_5002, l_10000, l_10001, l_32767, l_32768, l_60000, l_2147483647, zJ_lt, zJ_le, zJ_eq, zJ_add, zJ_sub, zJ_mul, zJ_neg, zJ_dv, t_I, t_Ie, t_R, t_Re, t_N, t_Nn, t_V, t_Ve, t_b, t_x, t_w, e_0, e_1, e_2, e_3, ↓t_0, ↓t_1, t_00, t_11, if_true, if_false, ite_not, not_false_eq_true, not_true_eq_false, Int.reduceEq, Int.reduceLT, Int.reduceLE, Int.reduceNeg, Nat.reduceEqDiff, Bool.false_eq_true]
        rw [q_L_isHarness_606]
        refine zgL_d hG (by rw [l_0, l_2]; exact d_mates hY hG hI (by omega) (by omega)) (fun Y2 n2 m2 X2 code ans v hD h0 hE hl hY2 hG2 hI2 hle => ?_)
        unfold dMates at hD
        obtain ⟨ev, e1⟩ := (zd3_v hD h0 hE).2.2.1 kA' kB kC
        refine ⟨pK_s e1 (by decide) hK, fun _ => ?_⟩
        simp (disch := first | assumption | omega) only [↓reduceIte, l_0, l_1, l_2, l_3, l_4, l_5, l_6, l_7, l_8, l_9, l_10, l_12, l_16, l_24, l_31, l_32, l_48, l_96, l_99, l_100, l_150, l_180, l_200, l_240, l_255, l_260, l_384, l_400, l_999, l_5000, l_9999, l_1000000, l_1000000000, l_11, l_13, l_14, l_15, l_17, l_18, l_19, l_20, l_21, l_22, l_23, l_25, l_26, l_28, l_30, l_34, l_38, l_42, l_44, l_54, l_60, l_64, l_81, l_90, l_101, l_103, l_110, l_120, l_128, l_140, l_256, l_401, l_403, l_450, l_512, l_853, l_983, l_1000, l_1001, l_2048, l_3000000, l_2000000, l_4096, l_5001, l_5002, l_10000, l_10001, l_32767, l_32768, l_60000, l_2147483647, zJ_lt, zJ_le, zJ_eq, zJ_add, zJ_sub, zJ_mul, zJ_neg, zJ_dv, t_I, t_Ie, t_R, t_Re, t_N, t_Nn, t_V, t_Ve, t_b, t_x, t_w, e_0, e_1, e_2, e_3, ↓t_0, ↓t_1, t_00, t_11, if_true, if_false, ite_not, not_false_eq_true, not_true_eq_false, Int.reduceEq, Int.reduceLT, Int.reduceLE, Int.reduceNeg, Nat.reduceEqDiff, Bool.false_eq_true, kB, ev, zrv_2]
  · rw [zB_0 kA, q_L_isHarness_517]
    simp (disch := first | assumption | omega) only [↓reduceIte, l_0, l_1, l_2, l_3, l_4, l_5, l_6, l_7, l_8, l_9, l_10, l_12, l_16, l_24, l_31, l_32, l_48, l_96, l_99, l_100, l_150, l_180, l_200, l_240, l_255, l_260, l_384, l_400, l_999, l_5000, l_9999, l_1000000, l_1000000000, l_11, l_13, l_14, l_15, l_17, l_18, l_19, l_20, l_21, l_22, l_23, l_25, l_26, l_28, l_30, l_34, l_38, l_42, l_44, l_54, l_60, l_64, l_81, l_90, l_101, l_103, l_110, l_120, l_128, l_140, l_256, l_401, l_403, l_450, l_512, l_853, l_983, l_1000, l_1001, l_2048, l_3000000, l_2000000, l_4096, l_5001, l_5002, l_10000, l_10001, l_32767, l_32768, l_60000, l_2147483647, zJ_lt, zJ_le, zJ_eq, zJ_add, zJ_sub, zJ_mul, zJ_neg, zJ_dv, t_I, t_Ie, t_R, t_Re, t_N, t_Nn, t_V, t_Ve, t_b, t_x, t_w, e_0, e_1, e_2, e_3, ↓t_0, ↓t_1, t_00, t_11, if_true, if_false, ite_not, not_false_eq_true, not_true_eq_false, Int.reduceEq, Int.reduceLT, Int.reduceLE, Int.reduceNeg, Nat.reduceEqDiff, Bool.false_eq_true, e3]
    rw [q_L_isHarness_569]
    simp (disch := first | assumption | omega) only [↓reduceIte, l_0, l_1, l_2, l_3, l_4, l_5, l_6, l_7, l_8, l_9, l_10, l_12, l_16, l_24, l_31, l_32, l_48, l_96, l_99, l_100, l_150, l_180, l_200, l_240, l_255, l_260, l_384, l_400, l_999, l_5000, l_9999, l_1000000, l_1000000000, l_11, l_13, l_14, l_15, l_17, l_18, l_19, l_20, l_21, l_22, l_23, l_25, l_26, l_28, l_30, l_34, l_38, l_42, l_44, l_54, l_60, l_64, l_81, l_90, l_101, l_103, l_110, l_120, l_128, l_140, l_256, l_401, l_403, l_450, l_512, l_853, l_983, l_1000, l_1001, l_2048, l_3000000, l_2000000, l_4096, l_5001, l_5002, l_10000, l_10001, l_32767, l_32768, l_60000, l_2147483647, zJ_lt, zJ_le, zJ_eq, zJ_add, zJ_sub, zJ_mul, zJ_neg, zJ_dv, t_I, t_Ie, t_R, t_Re, t_N, t_Nn, t_V, t_Ve, t_b, t_x, t_w, e_0, e_1, e_2, e_3, ↓t_0, ↓t_1, t_00, t_11, if_true, if_false, ite_not, not_false_eq_true, not_true_eq_false, Int.reduceEq, Int.reduceLT, Int.reduceLE, Int.reduceNeg, Nat.reduceEqDiff, Bool.false_eq_true]
    rw [q_L_isHarness_606]
    refine zgL_d hG (by rw [l_0, l_2]; exact d_mates hY hG hI (by omega) (by omega)) (fun Y2 n2 m2 X2 code ans v hD h0 hE hl hY2 hG2 hI2 hle => ?_)
    unfold dMates at hD
    obtain ⟨ev, e1⟩ := (zd3_v hD h0 hE).1 (by omega)
    refine ⟨pK_s e1 (by decide) hK, fun _ => ?_⟩
    simp (disch := first | assumption | omega) only [↓reduceIte, l_0, l_1, l_2, l_3, l_4, l_5, l_6, l_7, l_8, l_9, l_10, l_12, l_16, l_24, l_31, l_32, l_48, l_96, l_99, l_100, l_150, l_180, l_200, l_240, l_255, l_260, l_384, l_400, l_999, l_5000, l_9999, l_1000000, l_1000000000, l_11, l_13, l_14, l_15, l_17, l_18, l_19, l_20, l_21, l_22, l_23, l_25, l_26, l_28, l_30, l_34, l_38, l_42, l_44, l_54, l_60, l_64, l_81, l_90, l_101, l_103, l_110, l_120, l_128, l_140, l_256, l_401, l_403, l_450, l_512, l_853, l_983, l_1000, l_1001, l_2048, l_3000000, l_2000000, l_4096, l_5001, l_5002, l_10000, l_10001, l_32767, l_32768, l_60000, l_2147483647, zJ_lt, zJ_le, zJ_eq, zJ_add, zJ_sub, zJ_mul, zJ_neg, zJ_dv, t_I, t_Ie, t_R, t_Re, t_N, t_Nn, t_V, t_Ve, t_b, t_x, t_w, e_0, e_1, e_2, e_3, ↓t_0, ↓t_1, t_00, t_11, if_true, if_false, ite_not, not_false_eq_true, not_true_eq_false, Int.reduceEq, Int.reduceLT, Int.reduceLE, Int.reduceNeg, Nat.reduceEqDiff, Bool.false_eq_true, ev, zrv_0]
end ZL
