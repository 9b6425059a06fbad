/-! THE LAW, 12: reels and crimps -/
section ZL
variable {Y : zLy} {n s : Nat} {X : zX} {G : Nat × Nat} {X' : zX} {t p q r k j : Int} {E : List Int}
theorem wu_self {f i : Int} : wu X f i (X f i) = X := by
  funext g j
  show (if g = f ∧ j = i then X f i else X g j) = X g j
  by_cases h : g = f ∧ j = i
  · rw [if_pos h, h.1, h.2]
  · rw [if_neg h]
theorem R_r1 (hZ : zLA G t Y n X) (h1 : 0 ≤ q ∧ q < 60000) (h2 : 0 ≤ r ∧ r < 60000) (hc : X 425 0 < 12) : ∃ P M L : Int, (0 ≤ P ∧ P ≤ 6) ∧ (0 ≤ M ∧ M ≤ 100) ∧ (0 ≤ L ∧ L ≤ 5001) ∧ ev_ G 219 0 [.ref (wA Y 13 0), .ref (wA Y 15 605), .ref (wA Y 15 606), .ref (wA Y 15 607), .ref (wA Y 15 608), .ref (wA Y 15 612), .ref (wA Y 15 613), .int (zJ 0), .int (zJ q), .int (zJ r), zU, zU, zU, zU, zU] [] (wd Y n s X) = ev_ G 219 152 [.ref (wA Y 13 0), .ref (wA Y 15 605), .ref (wA Y 15 606), .ref (wA Y 15 607), .ref (wA Y 15 608), .ref (wA Y 15 612), .ref (wA Y 15 613), .int (zJ 0), .int (zJ q), .int (zJ r), .int (zJ P), .int (zJ M), .int (zJ L), .int (zJ (zB ((1 ≤ M ∧ M ≤ 99) ∧ (1 ≤ L ∧ L ≤ 5000)))), zU] [.int (zJ (zB (P < 6 ∧ ((1 ≤ M ∧ M ≤ 99) ∧ (1 ≤ L ∧ L ≤ 5000)))))] (wd Y n s X) := by
  obtain ⟨hY, hG, hI, pg, pb, pc, pw, pr, ph, ps, pf⟩ := hZ
  have hL := wY_A hY
  have e1 : ¬12 ≤ X 425 0 := by omega
  have h400 : 0 ≤ X 425 0 := by
    have := hI.2.2.2.2.2.2.2.1.1
    have := hY.2.2.2.2.1
    omega
  obtain ⟨P, hP, s1⟩ : ∃ P : Int, (0 ≤ P ∧ P ≤ 6) ∧ ev_ G 219 0 [.ref (wA Y 13 0), .ref (wA Y 15 605), .ref (wA Y 15 606), .ref (wA Y 15 607), .ref (wA Y 15 608), .ref (wA Y 15 612), .ref (wA Y 15 613), .int (zJ 0), .int (zJ q), .int (zJ r), zU, zU, zU, zU, zU] [] (wd Y n s X) = ev_ G 219 33 [.ref (wA Y 13 0), .ref (wA Y 15 605), .ref (wA Y 15 606), .ref (wA Y 15 607), .ref (wA Y 15 608), .ref (wA Y 15 612), .ref (wA Y 15 613), .int (zJ 0), .int (zJ q), .int (zJ r), zU, zU, zU, zU, zU] [.int (zJ P)] (wd Y n s X) := by
    rw [q_L_isReel_0]
    by_cases k1 : q % 9 = 8
    · refine ⟨6, by omega, ?_⟩
      simp (disch := first | assumption | omega) only [↓reduceIte, l_0, l_1, l_2, l_3, l_4, l_5, l_6, l_7, l_8, l_9, l_10, l_12, l_16, l_24, l_31, l_32, l_48, l_96, l_99, l_100, l_150, l_180, l_200, l_240, l_255, l_260, l_384, l_400, l_999, l_5000, l_9999, l_1000000, l_1000000000, l_11, l_13, l_14, l_15, l_17, l_18, l_19, l_20, l_21, l_22, l_23, l_25, l_26, l_28, l_30, l_42, l_54, l_60, l_64, l_81, l_90, l_101, l_103, l_110, l_120, l_128, l_140, l_256, l_401, l_403, l_450, l_512, l_853, l_983, l_1000, l_1001, l_2048, l_3000000, l_2000000, l_4096, l_5001, l_5002, l_10000, l_10001, l_32768, l_60000, l_2147483647, zJ_lt, zJ_le, zJ_eq, zJ_add, zJ_sub, zJ_mul, zJ_neg, zJ_dv, t_I, t_Ie, t_R, t_Re, t_N, t_Nn, t_V, t_Ve, t_b, t_x, t_w, e_0, e_1, e_2, e_3, ↓t_0, ↓t_1, t_00, t_11, if_true, if_false, ite_not, not_false_eq_true, not_true_eq_false, Int.reduceEq, Int.reduceLT, Int.reduceLE, Int.reduceNeg, Nat.reduceEqDiff, Bool.false_eq_true, zem, lg_ hL, pg.2.2.2.1, e1, k1]
    · refine ⟨q % 3, by omega, ?_⟩
      simp (disch := first | assumption | omega) only [↓reduceIte, l_0, l_1, l_2, l_3, l_4, l_5, l_6, l_7, l_8, l_9, l_10, l_12, l_16, l_24, l_31, l_32, l_48, l_96, l_99, l_100, l_150, l_180, l_200, l_240, l_255, l_260, l_384, l_400, l_999, l_5000, l_9999, l_1000000, l_1000000000, l_11, l_13, l_14, l_15, l_17, l_18, l_19, l_20, l_21, l_22, l_23, l_25, l_26, l_28, l_30, l_42, l_54, l_60, l_64, l_81, l_90, l_101, l_103, l_110, l_120, l_128, l_140, l_256, l_401, l_403, l_450, l_512, l_853, l_983, l_1000, l_1001, l_2048, l_3000000, l_2000000, l_4096, l_5001, l_5002, l_10000, l_10001, l_32768, l_60000, l_2147483647, zJ_lt, zJ_le, zJ_eq, zJ_add, zJ_sub, zJ_mul, zJ_neg, zJ_dv, t_I, t_Ie, t_R, t_Re, t_N, t_Nn, t_V, t_Ve, t_b, t_x, t_w, e_0, e_1, e_2, e_3, ↓t_0, ↓t_1, t_00, t_11, if_true, if_false, ite_not, not_false_eq_true, not_true_eq_false, Int.reduceEq, Int.reduceLT, Int.reduceLE, Int.reduceNeg, Nat.reduceEqDiff, Bool.false_eq_true, zem, lg_ hL, pg.2.2.2.1, e1, k1]
  obtain ⟨M, hM, s2⟩ : ∃ M : Int, (0 ≤ M ∧ M ≤ 100) ∧ ev_ G 219 33 [.ref (wA Y 13 0), .ref (wA Y 15 605), .ref (wA Y 15 606), .ref (wA Y 15 607), .ref (wA Y 15 608), .ref (wA Y 15 612), .ref (wA Y 15 613), .int (zJ 0), .int (zJ q), .int (zJ r), zU, zU, zU, zU, zU] [.int (zJ P)] (wd Y n s X) = ev_ G 219 67 [.ref (wA Y 13 0), .ref (wA Y 15 605), .ref (wA Y 15 606), .ref (wA Y 15 607), .ref (wA Y 15 608), .ref (wA Y 15 612), .ref (wA Y 15 613), .int (zJ 0), .int (zJ q), .int (zJ r), .int (zJ P), zU, zU, zU, zU] [.int (zJ M)] (wd Y n s X) := by
    rw [q_L_isReel_33]
    by_cases k1 : q / 9 % 9 = 0
    · refine ⟨q / 81 % 101, by omega, ?_⟩
      simp (disch := first | assumption | omega) only [↓reduceIte, l_0, l_1, l_2, l_3, l_4, l_5, l_6, l_7, l_8, l_9, l_10, l_12, l_16, l_24, l_31, l_32, l_48, l_96, l_99, l_100, l_150, l_180, l_200, l_240, l_255, l_260, l_384, l_400, l_999, l_5000, l_9999, l_1000000, l_1000000000, l_11, l_13, l_14, l_15, l_17, l_18, l_19, l_20, l_21, l_22, l_23, l_25, l_26, l_28, l_30, l_42, l_54, l_60, l_64, l_81, l_90, l_101, l_103, l_110, l_120, l_128, l_140, l_256, l_401, l_403, l_450, l_512, l_853, l_983, l_1000, l_1001, l_2048, l_3000000, l_2000000, l_4096, l_5001, l_5002, l_10000, l_10001, l_32768, l_60000, l_2147483647, zJ_lt, zJ_le, zJ_eq, zJ_add, zJ_sub, zJ_mul, zJ_neg, zJ_dv, t_I, t_Ie, t_R, t_Re, t_N, t_Nn, t_V, t_Ve, t_b, t_x, t_w, e_0, e_1, e_2, e_3, ↓t_0, ↓t_1, t_00, t_11, if_true, if_false, ite_not, not_false_eq_true, not_true_eq_false, Int.reduceEq, Int.reduceLT, Int.reduceLE, Int.reduceNeg, Nat.reduceEqDiff, Bool.false_eq_true, zem, k1]
    · refine ⟨1 + q / 81 % 9, by omega, ?_⟩
      simp (disch := first | assumption | omega) only [↓reduceIte, l_0, l_1, l_2, l_3, l_4, l_5, l_6, l_7, l_8, l_9, l_10, l_12, l_16, l_24, l_31, l_32, l_48, l_96, l_99, l_100, l_150, l_180, l_200, l_240, l_255, l_260, l_384, l_400, l_999, l_5000, l_9999, l_1000000, l_1000000000, l_11, l_13, l_14, l_15, l_17, l_18, l_19, l_20, l_21, l_22, l_23, l_25, l_26, l_28, l_30, l_42, l_54, l_60, l_64, l_81, l_90, l_101, l_103, l_110, l_120, l_128, l_140, l_256, l_401, l_403, l_450, l_512, l_853, l_983, l_1000, l_1001, l_2048, l_3000000, l_2000000, l_4096, l_5001, l_5002, l_10000, l_10001, l_32768, l_60000, l_2147483647, zJ_lt, zJ_le, zJ_eq, zJ_add, zJ_sub, zJ_mul, zJ_neg, zJ_dv, t_I, t_Ie, t_R, t_Re, t_N, t_Nn, t_V, t_Ve, t_b, t_x, t_w, e_0, e_1, e_2, e_3, ↓t_0, ↓t_1, t_00, t_11, if_true, if_false, ite_not, not_false_eq_true, not_true_eq_false, Int.reduceEq, Int.reduceLT, Int.reduceLE, Int.reduceNeg, Nat.reduceEqDiff, Bool.false_eq_true, zem, k1]
  obtain ⟨L, hL0, s3⟩ : ∃ L : Int, (0 ≤ L ∧ L ≤ 5001) ∧ ev_ G 219 67 [.ref (wA Y 13 0), .ref (wA Y 15 605), .ref (wA Y 15 606), .ref (wA Y 15 607), .ref (wA Y 15 608), .ref (wA Y 15 612), .ref (wA Y 15 613), .int (zJ 0), .int (zJ q), .int (zJ r), .int (zJ P), zU, zU, zU, zU] [.int (zJ M)] (wd Y n s X) = ev_ G 219 101 [.ref (wA Y 13 0), .ref (wA Y 15 605), .ref (wA Y 15 606), .ref (wA Y 15 607), .ref (wA Y 15 608), .ref (wA Y 15 612), .ref (wA Y 15 613), .int (zJ 0), .int (zJ q), .int (zJ r), .int (zJ P), .int (zJ M), zU, zU, zU] [.int (zJ L)] (wd Y n s X) := by
    rw [q_L_isReel_67]
    by_cases k1 : r % 9 = 0
    · refine ⟨r / 9 % 5002, by omega, ?_⟩
      simp (disch := first | assumption | omega) only [↓reduceIte, l_0, l_1, l_2, l_3, l_4, l_5, l_6, l_7, l_8, l_9, l_10, l_12, l_16, l_24, l_31, l_32, l_48, l_96, l_99, l_100, l_150, l_180, l_200, l_240, l_255, l_260, l_384, l_400, l_999, l_5000, l_9999, l_1000000, l_1000000000, l_11, l_13, l_14, l_15, l_17, l_18, l_19, l_20, l_21, l_22, l_23, l_25, l_26, l_28, l_30, l_42, l_54, l_60, l_64, l_81, l_90, l_101, l_103, l_110, l_120, l_128, l_140, l_256, l_401, l_403, l_450, l_512, l_853, l_983, l_1000, l_1001, l_2048, l_3000000, l_2000000, l_4096, l_5001, l_5002, l_10000, l_10001, l_32768, l_60000, l_2147483647, zJ_lt, zJ_le, zJ_eq, zJ_add, zJ_sub, zJ_mul, zJ_neg, zJ_dv, t_I, t_Ie, t_R, t_Re, t_N, t_Nn, t_V, t_Ve, t_b, t_x, t_w, e_0, e_1, e_2, e_3, ↓t_0, ↓t_1, t_00, t_11, if_true, if_false, ite_not, not_false_eq_true, not_true_eq_false, Int.reduceEq, Int.reduceLT, Int.reduceLE, Int.reduceNeg, Nat.reduceEqDiff, Bool.false_eq_true, zem, k1]
    · refine ⟨20 + r / 9 % 400, by omega, ?_⟩
      simp (disch := first | assumption | omega) only [↓reduceIte, l_0, l_1, l_2, l_3, l_4, l_5, l_6, l_7, l_8, l_9, l_10, l_12, l_16, l_24, l_31, l_32, l_48, l_96, l_99, l_100, l_150, l_180, l_200, l_240, l_255, l_260, l_384, l_400, l_999, l_5000, l_9999, l_1000000, l_1000000000, l_11, l_13, l_14, l_15, l_17, l_18, l_19, l_20, l_21, l_22, l_23, l_25, l_26, l_28, l_30, l_42, l_54, l_60, l_64, l_81, l_90, l_101, l_103, l_110, l_120, l_128, l_140, l_256, l_401, l_403, l_450, l_512, l_853, l_983, l_1000, l_1001, l_2048, l_3000000, l_2000000, l_4096, l_5001, l_5002, l_10000, l_10001, l_32768, l_60000, l_2147483647, zJ_lt, zJ_le, zJ_eq, zJ_add, zJ_sub, zJ_mul, zJ_neg, zJ_dv, t_I, t_Ie, t_R, t_Re, t_N, t_Nn, t_V, t_Ve, t_b, t_x, t_w, e_0, e_1, e_2, e_3, ↓t_0, ↓t_1, t_00, t_11, if_true, if_false, ite_not, not_false_eq_true, not_true_eq_false, Int.reduceEq, Int.reduceLT, Int.reduceLE, Int.reduceNeg, Nat.reduceEqDiff, Bool.false_eq_true, zem, k1]
  refine ⟨P, M, L, hP, hM, hL0, s1.trans (s2.trans (s3.trans ?_))⟩
  have s4 : ev_ G 219 101 [.ref (wA Y 13 0), .ref (wA Y 15 605), .ref (wA Y 15 606), .ref (wA Y 15 607), .ref (wA Y 15 608), .ref (wA Y 15 612), .ref (wA Y 15 613), .int (zJ 0), .int (zJ q), .int (zJ r), .int (zJ P), .int (zJ M), zU, zU, zU] [.int (zJ L)] (wd Y n s X) = ev_ G 219 133 [.ref (wA Y 13 0), .ref (wA Y 15 605), .ref (wA Y 15 606), .ref (wA Y 15 607), .ref (wA Y 15 608), .ref (wA Y 15 612), .ref (wA Y 15 613), .int (zJ 0), .int (zJ q), .int (zJ r), .int (zJ P), .int (zJ M), .int (zJ L), zU, zU] [.int (zJ (zB ((1 ≤ M ∧ M ≤ 99) ∧ (1 ≤ L ∧ L ≤ 5000))))] (wd Y n s X) := by
    rw [q_L_isReel_101]
    by_cases k1 : M ≤ 0
    · rw [zB_0 (by omega)]
      simp (disch := first | assumption | omega) only [↓reduceIte, l_0, l_1, l_2, l_3, l_4, l_5, l_6, l_7, l_8, l_9, l_10, l_12, l_16, l_24, l_31, l_32, l_48, l_96, l_99, l_100, l_150, l_180, l_200, l_240, l_255, l_260, l_384, l_400, l_999, l_5000, l_9999, l_1000000, l_1000000000, l_11, l_13, l_14, l_15, l_17, l_18, l_19, l_20, l_21, l_22, l_23, l_25, l_26, l_28, l_30, l_42, l_54, l_60, l_64, l_81, l_90, l_101, l_103, l_110, l_120, l_128, l_140, l_256, l_401, l_403, l_450, l_512, l_853, l_983, l_1000, l_1001, l_2048, l_3000000, l_2000000, l_4096, l_5001, l_5002, l_10000, l_10001, l_32768, l_60000, l_2147483647, zJ_lt, zJ_le, zJ_eq, zJ_add, zJ_sub, zJ_mul, zJ_neg, zJ_dv, t_I, t_Ie, t_R, t_Re, t_N, t_Nn, t_V, t_Ve, t_b, t_x, t_w, e_0, e_1, e_2, e_3, ↓t_0, ↓t_1, t_00, t_11, if_true, if_false, ite_not, not_false_eq_true, not_true_eq_false, Int.reduceEq, Int.reduceLT, Int.reduceLE, Int.reduceNeg, Nat.reduceEqDiff, Bool.false_eq_true, k1]
    · by_cases k2 : 100 ≤ M
      · rw [zB_0 (by omega)]
        simp (disch := first | assumption | omega) only [↓reduceIte, l_0, l_1, l_2, l_3, l_4, l_5, l_6, l_7, l_8, l_9, l_10, l_12, l_16, l_24, l_31, l_32, l_48, l_96, l_99, l_100, l_150, l_180, l_200, l_240, l_255, l_260, l_384, l_400, l_999, l_5000, l_9999, l_1000000, l_1000000000, l_11, l_13, l_14, l_15, l_17, l_18, l_19, l_20, l_21, l_22, l_23, l_25, l_26, l_28, l_30, l_42, l_54, l_60, l_64, l_81, l_90, l_101, l_103, l_110, l_120, l_128, l_140, l_256, l_401, l_403, l_450, l_512, l_853, l_983, l_1000, l_1001, l_2048, l_3000000, l_2000000, l_4096, l_5001, l_5002, l_10000, l_10001, l_32768, l_60000, l_2147483647, zJ_lt, zJ_le, zJ_eq, zJ_add, zJ_sub, zJ_mul, zJ_neg, zJ_dv, t_I, t_Ie, t_R, t_Re, t_N, t_Nn, t_V, t_Ve, t_b, t_x, t_w, e_0, e_1, e_2, e_3, ↓t_0, ↓t_1, t_00, t_11, if_true, if_false, ite_not, not_false_eq_true, not_true_eq_false, Int.reduceEq, Int.reduceLT, Int.reduceLE, Int.reduceNeg, Nat.reduceEqDiff, Bool.false_eq_true, k1, k2]
      · by_cases k3 : L ≤ 0
        · rw [zB_0 (by omega)]
          simp (disch := first | assumption | omega) only [↓reduceIte, l_0, l_1, l_2, l_3, l_4, l_5, l_6, l_7, l_8, l_9, l_10, l_12, l_16, l_24, l_31, l_32, l_48, l_96, l_99, l_100, l_150, l_180, l_200, l_240, l_255, l_260, l_384, l_400, l_999, l_5000, l_9999, l_1000000, l_1000000000, l_11, l_13, l_14, l_15, l_17, l_18, l_19, l_20, l_21, l_22, l_23, l_25, l_26, l_28, l_30, l_42, l_54, l_60, l_64, l_81, l_90, l_101, l_103, l_110, l_120, l_128, l_140, l_256, l_401, l_403, l_450, l_512, l_853, l_983, l_1000, l_1001, l_2048, l_3000000, l_2000000, l_4096, l_5001, l_5002, l_10000, l_10001, l_32768, l_60000, l_2147483647, zJ_lt, zJ_le, zJ_eq, zJ_add, zJ_sub, zJ_mul, zJ_neg, zJ_dv, t_I, t_Ie, t_R, t_Re, t_N, t_Nn, t_V, t_Ve, t_b, t_x, t_w, e_0, e_1, e_2, e_3, ↓t_0, ↓t_1, t_00, t_11, if_true, if_false, ite_not, not_false_eq_true, not_true_eq_false, Int.reduceEq, Int.reduceLT, Int.reduceLE, Int.reduceNeg, Nat.reduceEqDiff, Bool.false_eq_true, k1, k2, k3]
        · by_cases k4 : 5001 ≤ L
          · rw [zB_0 (by omega)]
            simp (disch := first | assumption | omega) only [↓reduceIte, l_0, l_1, l_2, l_3, l_4, l_5, l_6, l_7, l_8, l_9, l_10, l_12, l_16, l_24, l_31, l_32, l_48, l_96, l_99, l_100, l_150, l_180, l_200, l_240, l_255, l_260, l_384, l_400, l_999, l_5000, l_9999, l_1000000, l_1000000000, l_11, l_13, l_14, l_15, l_17, l_18, l_19, l_20, l_21, l_22, l_23, l_25, l_26, l_28, l_30, l_42, l_54, l_60, l_64, l_81, l_90, l_101, l_103, l_110, l_120, l_128, l_140, l_256, l_401, l_403, l_450, l_512, l_853, l_983, l_1000, l_1001, l_2048, l_3000000, l_2000000, l_4096, l_5001, l_5002, l_10000, l_10001, l_32768, l_60000, l_2147483647, zJ_lt, zJ_le, zJ_eq, zJ_add, zJ_sub, zJ_mul, zJ_neg, zJ_dv, t_I, t_Ie, t_R, t_Re, t_N, t_Nn, t_V, t_Ve, t_b, t_x, t_w, e_0, e_1, e_2, e_3, ↓t_0, ↓t_1, t_00, t_11, if_true, if_false, ite_not, not_false_eq_true, not_true_eq_false, Int.reduceEq, Int.reduceLT, Int.reduceLE, Int.reduceNeg, Nat.reduceEqDiff, Bool.false_eq_true, k1, k2, k3, k4]
          · rw [zB_1 ⟨by omega, by omega⟩]
            simp (disch := first | assumption | omega) only [↓reduceIte, l_0, l_1, l_2, l_3, l_4, l_5, l_6, l_7, l_8, l_9, l_10, l_12, l_16, l_24, l_31, l_32, l_48, l_96, l_99, l_100, l_150, l_180, l_200, l_240, l_255, l_260, l_384, l_400, l_999, l_5000, l_9999, l_1000000, l_1000000000, l_11, l_13, l_14, l_15, l_17, l_18, l_19, l_20, l_21, l_22, l_23, l_25, l_26, l_28, l_30, l_42, l_54, l_60, l_64, l_81, l_90, l_101, l_103, l_110, l_120, l_128, l_140, l_256, l_401, l_403, l_450, l_512, l_853, l_983, l_1000, l_1001, l_2048, l_3000000, l_2000000, l_4096, l_5001, l_5002, l_10000, l_10001, l_32768, l_60000, l_2147483647, zJ_lt, zJ_le, zJ_eq, zJ_add, zJ_sub, zJ_mul, zJ_neg, zJ_dv, t_I, t_Ie, t_R, t_Re, t_N, t_Nn, t_V, t_Ve, t_b, t_x, t_w, e_0, e_1, e_2, e_3, ↓t_0, ↓t_1, t_00, t_11, if_true, if_false, ite_not, not_false_eq_true, not_true_eq_false, Int.reduceEq, Int.reduceLT, Int.reduceLE, Int.reduceNeg, Nat.reduceEqDiff, Bool.false_eq_true, k1, k2, k3, k4]
  rw [s4, q_L_isReel_133]
  by_cases k1 : P < 6
  · have k3 : ¬6 ≤ P := by omega
    by_cases k2 : (1 ≤ M ∧ M ≤ 99) ∧ (1 ≤ L ∧ L ≤ 5000)
    · rw [zB_1 k2, zB_1 ⟨k1, k2⟩]
      simp (disch := first | assumption | omega) only [↓reduceIte, l_0, l_1, l_2, l_3, l_4, l_5, l_6, l_7, l_8, l_9, l_10, l_12, l_16, l_24, l_31, l_32, l_48, l_96, l_99, l_100, l_150, l_180, l_200, l_240, l_255, l_260, l_384, l_400, l_999, l_5000, l_9999, l_1000000, l_1000000000, l_11, l_13, l_14, l_15, l_17, l_18, l_19, l_20, l_21, l_22, l_23, l_25, l_26, l_28, l_30, l_42, l_54, l_60, l_64, l_81, l_90, l_101, l_103, l_110, l_120, l_128, l_140, l_256, l_401, l_403, l_450, l_512, l_853, l_983, l_1000, l_1001, l_2048, l_3000000, l_2000000, l_4096, l_5001, l_5002, l_10000, l_10001, l_32768, l_60000, l_2147483647, zJ_lt, zJ_le, zJ_eq, zJ_add, zJ_sub, zJ_mul, zJ_neg, zJ_dv, t_I, t_Ie, t_R, t_Re, t_N, t_Nn, t_V, t_Ve, t_b, t_x, t_w, e_0, e_1, e_2, e_3, ↓t_0, ↓t_1, t_00, t_11, if_true, if_false, ite_not, not_false_eq_true, not_true_eq_false, Int.reduceEq, Int.reduceLT, Int.reduceLE, Int.reduceNeg, Nat.reduceEqDiff, Bool.false_eq_true, k3]
    · rw [zB_0 k2, zB_0 (p := P < 6 ∧ ((1 ≤ M ∧ M ≤ 99) ∧ (1 ≤ L ∧ L ≤ 5000))) (fun g => k2 g.2)]
      simp (disch := first | assumption | omega) only [↓reduceIte, l_0, l_1, l_2, l_3, l_4, l_5, l_6, l_7, l_8, l_9, l_10, l_12, l_16, l_24, l_31, l_32, l_48, l_96, l_99, l_100, l_150, l_180, l_200, l_240, l_255, l_260, l_384, l_400, l_999, l_5000, l_9999, l_1000000, l_1000000000, l_11, l_13, l_14, l_15, l_17, l_18, l_19, l_20, l_21, l_22, l_23, l_25, l_26, l_28, l_30, l_42, l_54, l_60, l_64, l_81, l_90, l_101, l_103, l_110, l_120, l_128, l_140, l_256, l_401, l_403, l_450, l_512, l_853, l_983, l_1000, l_1001, l_2048, l_3000000, l_2000000, l_4096, l_5001, l_5002, l_10000, l_10001, l_32768, l_60000, l_2147483647, zJ_lt, zJ_le, zJ_eq, zJ_add, zJ_sub, zJ_mul, zJ_neg, zJ_dv, t_I, t_Ie, t_R, t_Re, t_N, t_Nn, t_V, t_Ve, t_b, t_x, t_w, e_0, e_1, e_2, e_3, ↓t_0, ↓t_1, t_00, t_11, if_true, if_false, ite_not, not_false_eq_true, not_true_eq_false, Int.reduceEq, Int.reduceLT, Int.reduceLE, Int.reduceNeg, Nat.reduceEqDiff, Bool.false_eq_true, k3]
  · have k3 : 6 ≤ P := by omega
    rw [zB_0 (p := P < 6 ∧ ((1 ≤ M ∧ M ≤ 99) ∧ (1 ≤ L ∧ L ≤ 5000))) (fun g => k1 g.1)]
    simp (disch := first | assumption | omega) only [↓reduceIte, l_0, l_1, l_2, l_3, l_4, l_5, l_6, l_7, l_8, l_9, l_10, l_12, l_16, l_24, l_31, l_32, l_48, l_96, l_99, l_100, l_150, l_180, l_200, l_240, l_255, l_260, l_384, l_400, l_999, l_5000, l_9999, l_1000000, l_1000000000, l_11, l_13, l_14, l_15, l_17, l_18, l_19, l_20, l_21, l_22, l_23, l_25, l_26, l_28, l_30, l_42, l_54, l_60, l_64, l_81, l_90, l_101, l_103, l_110, l_120, l_128, l_140, l_256, l_401, l_403, l_450, l_512, l_853, l_983, l_1000, l_1001, l_2048, l_3000000, l_2000000, l_4096, l_5001, l_5002, l_10000, l_10001, l_32768, l_60000, l_2147483647, zJ_lt, zJ_le, zJ_eq, zJ_add, zJ_sub, zJ_mul, zJ_neg, zJ_dv, t_I, t_Ie, t_R, t_Re, t_N, t_Nn, t_V, t_Ve, t_b, t_x, t_w, e_0, e_1, e_2, e_3, ↓t_0, ↓t_1, t_00, t_11, if_true, if_false, ite_not, not_false_eq_true, not_true_eq_false, Int.reduceEq, Int.reduceLT, Int.reduceLE, Int.reduceNeg, Nat.reduceEqDiff, Bool.false_eq_true, k3]
theorem R_reel (hZ : zLA G t Y n X) (h1 : 0 ≤ q ∧ q < 60000) (h2 : 0 ≤ r ∧ r < 60000) (hc : X 425 0 < 12) : zgL G t Y n s (ev_ G 219 0 [.ref (wA Y 13 0), .ref (wA Y 15 605), .ref (wA Y 15 606), .ref (wA Y 15 607), .ref (wA Y 15 608), .ref (wA Y 15 612), .ref (wA Y 15 613), .int (zJ 0), .int (zJ q), .int (zJ r), zU, zU, zU, zU, zU] [] (wd Y n s X)) := by
  obtain ⟨P, M, L, hP, hM, hL0, s1⟩ := R_r1 (s := s) hZ h1 h2 hc
  rw [s1]
  have hZ' := hZ
  obtain ⟨hY, hG, hI, hK⟩ := hZ
  obtain ⟨pg, pb, pc, pw, pr, ph, ps, pf⟩ := id hK
  have hL := wY_A hY
  have h400 : 0 ≤ X 425 0 := by
    have := hI.2.2.2.2.2.2.2.1.1
    have := hY.2.2.2.2.1
    omega
  by_cases kA : P < 6
  · have k8 : ¬P = 6 := by omega
    by_cases kB : (1 ≤ M ∧ M ≤ 99) ∧ (1 ≤ L ∧ L ≤ 5000)
    · rw [zB_1 kB, zB_1 ⟨kA, kB⟩, q_L_isReel_152]
      simp (disch := first | assumption | omega) only [↓reduceIte, l_0, l_1, l_2, l_3, l_4, l_5, l_6, l_7, l_8, l_9, l_10, l_12, l_16, l_24, l_31, l_32, l_48, l_96, l_99, l_100, l_150, l_180, l_200, l_240, l_255, l_260, l_384, l_400, l_999, l_5000, l_9999, l_1000000, l_1000000000, l_11, l_13, l_14, l_15, l_17, l_18, l_19, l_20, l_21, l_22, l_23, l_25, l_26, l_28, l_30, l_42, l_54, l_60, l_64, l_81, l_90, l_101, l_103, l_110, l_120, l_128, l_140, l_256, l_401, l_403, l_450, l_512, l_853, l_983, l_1000, l_1001, l_2048, l_3000000, l_2000000, l_4096, l_5001, l_5002, l_10000, l_10001, l_32768, l_60000, l_2147483647, zJ_lt, zJ_le, zJ_eq, zJ_add, zJ_sub, zJ_mul, zJ_neg, zJ_dv, t_I, t_Ie, t_R, t_Re, t_N, t_Nn, t_V, t_Ve, t_b, t_x, t_w, e_0, e_1, e_2, e_3, ↓t_0, ↓t_1, t_00, t_11, if_true, if_false, ite_not, not_false_eq_true, not_true_eq_false, Int.reduceEq, Int.reduceLT, Int.reduceLE, Int.reduceNeg, Nat.reduceEqDiff, Bool.false_eq_true, lg_ hL, pg.2.2.2.1, se_ hL, sn_ hL, so_ hL, sg_ hL, wu_ne]
      generalize hX' : wu (wu (wu (wu X 1105 (X 425 0) (P + 8 * L)) 1106 (X 425 0) M) 1107 (X 425 0) (-1)) 1113 4 (X 425 0 + 1) = X'
      have sX : zsame [1105, 1106, 1107, 1113] X X' := by
        rw [← hX']
        exact same_u (by decide) (same_u (by decide) (same_u (by decide) (same_u (by decide) same_r)))
      have gl : ∀ f, f < 1100 → X' f = X f := fun f hf => sX f (by simp; omega)
      have hI' := iAll_l gl hY.2.2.2.1.2 hY.2.2.2.2.2.1.2 hI
      rw [q_L_isReel_196]
      refine zgL_d hG (by rw [l_0, l_8]; exact d_reel hY hG hI' (by omega) (by omega) (by omega)) (fun Y2 n2 m2 X2 code ans v hD h0 hE hl hY2 hG2 hI2 hle => ?_)
      unfold dReel at hD
      rw [gl 425 (by decide)] at hD
      obtain ⟨ev, e1, e2, e3, e4, e5, e6, e7⟩ := (zd3_v hD h0 hE).2.2.2 ⟨by omega, by omega⟩ kB hc
      rw [gl 1026 (by decide)] at e3
      rw [gl 1027 (by decide)] at e4
      rw [gl 1028 (by decide)] at e5
      rw [gl 1029 (by decide)] at e6
      have s2 := same_t (same_m (F := [1105, 1106, 1107, 1113, 180, 181, 182, 183, 184, 20, 444, 1026, 1027, 1028, 1029, 425]) sX (by decide)) (same_m e7 (by decide))
      have g13 : ∀ j, X2 1113 j = if j = 4 then X 425 0 + 1 else X 1113 j := fun j => by
        rw [hl 1113 (by decide), ← hX', wu_v, wu_ne (by decide), wu_ne (by decide), wu_ne (by decide)]
      have g05 : ∀ j, X2 1105 j = if j = X 425 0 then P + 8 * L else X 1105 j := fun j => by
        rw [hl 1105 (by decide), ← hX', wu_ne (by decide), wu_ne (by decide), wu_ne (by decide), wu_v]
      have g06 : ∀ j, X2 1106 j = if j = X 425 0 then M else X 1106 j := fun j => by
        rw [hl 1106 (by decide), ← hX', wu_ne (by decide), wu_ne (by decide), wu_v, wu_ne (by decide)]
      have g07 : ∀ j, X2 1107 j = if j = X 425 0 then -1 else X 1107 j := fun j => by
        rw [hl 1107 (by decide), ← hX', wu_ne (by decide), wu_v, wu_ne (by decide), wu_ne (by decide)]
      have z := fun f (hf : f ∉ _) => congrFun (s2 f hf) 0
      refine ⟨⟨?_, pB_c pb (same_g s2 (by decide)), pC_c pc (same_g s2 (by decide)), pW_c pw (same_g s2 (by decide)), ?_, pH_c ph (same_g s2 (by decide)), pS_c ps (same_g s2 (by decide)), pF_c pf (same_g s2 (by decide))⟩, fun _ => ?_⟩
      ·
        refine pG_v pg ?_ ?_ ?_ ?_ ?_ ?_ ?_ ?_
        · rw [g13, if_neg (by decide), z 400 (by decide), pg.1]
        · rw [g13, if_neg (by decide), z 405 (by decide), pg.2.1]
        · rw [g13, if_neg (by decide), z 410 (by decide), pg.2.2.1]
        · rw [g13, if_pos rfl, e2]
        · rw [g13, if_neg (by decide), z 434 (by decide), pg.2.2.2.2.1]
        · rw [g13, if_neg (by decide), z 421 (by decide), pg.2.2.2.2.2.1]
        · rw [g13, if_neg (by decide), z 422 (by decide), pg.2.2.2.2.2.2.1]
        · rw [z 434 (by decide)]
          exact pg.2.2.2.2.2.2.2
      · intro k k0 k1
        rw [e2] at k1
        rw [g05, g06, g07, e3, e4, e5, e6]
        by_cases hk : k = X 425 0
        · simp only [if_pos hk, and_self]
        · simp only [if_neg hk]
          exact pr k k0 (by omega)
      · have hLv := wY_A hY2
        rw [wA_l hle hL (j := 613) (by decide) (by decide)]
        simp (disch := first | assumption | omega) only [↓reduceIte, l_0, l_1, l_2, l_3, l_4, l_5, l_6, l_7, l_8, l_9, l_10, l_12, l_16, l_24, l_31, l_32, l_48, l_96, l_99, l_100, l_150, l_180, l_200, l_240, l_255, l_260, l_384, l_400, l_999, l_5000, l_9999, l_1000000, l_1000000000, l_11, l_13, l_14, l_15, l_17, l_18, l_19, l_20, l_21, l_22, l_23, l_25, l_26, l_28, l_30, l_42, l_54, l_60, l_64, l_81, l_90, l_101, l_103, l_110, l_120, l_128, l_140, l_256, l_401, l_403, l_450, l_512, l_853, l_983, l_1000, l_1001, l_2048, l_3000000, l_2000000, l_4096, l_5001, l_5002, l_10000, l_10001, l_32768, l_60000, l_2147483647, zJ_lt, zJ_le, zJ_eq, zJ_add, zJ_sub, zJ_mul, zJ_neg, zJ_dv, t_I, t_Ie, t_R, t_Re, t_N, t_Nn, t_V, t_Ve, t_b, t_x, t_w, e_0, e_1, e_2, e_3, ↓t_0, ↓t_1, t_00, t_11, if_true, if_false, ite_not, not_false_eq_true, not_true_eq_false, Int.reduceEq, Int.reduceLT, Int.reduceLE, Int.reduceNeg, Nat.reduceEqDiff, Bool.false_eq_true, k8, ev, e1, lg_ hLv, g13, Int.add_sub_cancel]
    · rw [zB_0 kB, zB_0 (p := P < 6 ∧ ((1 ≤ M ∧ M ≤ 99) ∧ (1 ≤ L ∧ L ≤ 5000))) (fun g => kB g.2), q_L_isReel_152]
      simp (disch := first | assumption | omega) only [↓reduceIte, l_0, l_1, l_2, l_3, l_4, l_5, l_6, l_7, l_8, l_9, l_10, l_12, l_16, l_24, l_31, l_32, l_48, l_96, l_99, l_100, l_150, l_180, l_200, l_240, l_255, l_260, l_384, l_400, l_999, l_5000, l_9999, l_1000000, l_1000000000, l_11, l_13, l_14, l_15, l_17, l_18, l_19, l_20, l_21, l_22, l_23, l_25, l_26, l_28, l_30, l_42, l_54, l_60, l_64, l_81, l_90, l_101, l_103, l_110, l_120, l_128, l_140, l_256, l_401, l_403, l_450, l_512, l_853, l_983, l_1000, l_1001, l_2048, l_3000000, l_2000000, l_4096, l_5001, l_5002, l_10000, l_10001, l_32768, l_60000, l_2147483647, zJ_lt, zJ_le, zJ_eq, zJ_add, zJ_sub, zJ_mul, zJ_neg, zJ_dv, t_I, t_Ie, t_R, t_Re, t_N, t_Nn, t_V, t_Ve, t_b, t_x, t_w, e_0, e_1, e_2, e_3, ↓t_0, ↓t_1, t_00, t_11, if_true, if_false, ite_not, not_false_eq_true, not_true_eq_false, Int.reduceEq, Int.reduceLT, Int.reduceLE, Int.reduceNeg, Nat.reduceEqDiff, Bool.false_eq_true]
      rw [q_L_isReel_196]
      refine zgL_d hG (by rw [l_0, l_8]; exact d_reel hY hG hI (by omega) (by omega) (by omega)) (fun Y2 n2 m2 X2 code ans v hD h0 hE hl hY2 hG2 hI2 hle => ?_)
      unfold dReel at hD
      obtain ⟨ev, e1⟩ := (zd3_v hD h0 hE).2.1 ⟨by omega, by omega⟩ kB
      refine ⟨pK_s e1 (by decide) hK, fun _ => ?_⟩
      simp (disch := first | assumption | omega) only [↓reduceIte, l_0, l_1, l_2, l_3, l_4, l_5, l_6, l_7, l_8, l_9, l_10, l_12, l_16, l_24, l_31, l_32, l_48, l_96, l_99, l_100, l_150, l_180, l_200, l_240, l_255, l_260, l_384, l_400, l_999, l_5000, l_9999, l_1000000, l_1000000000, l_11, l_13, l_14, l_15, l_17, l_18, l_19, l_20, l_21, l_22, l_23, l_25, l_26, l_28, l_30, l_42, l_54, l_60, l_64, l_81, l_90, l_101, l_103, l_110, l_120, l_128, l_140, l_256, l_401, l_403, l_450, l_512, l_853, l_983, l_1000, l_1001, l_2048, l_3000000, l_2000000, l_4096, l_5001, l_5002, l_10000, l_10001, l_32768, l_60000, l_2147483647, zJ_lt, zJ_le, zJ_eq, zJ_add, zJ_sub, zJ_mul, zJ_neg, zJ_dv, t_I, t_Ie, t_R, t_Re, t_N, t_Nn, t_V, t_Ve, t_b, t_x, t_w, e_0, e_1, e_2, e_3, ↓t_0, ↓t_1, t_00, t_11, if_true, if_false, ite_not, not_false_eq_true, not_true_eq_false, Int.reduceEq, Int.reduceLT, Int.reduceLE, Int.reduceNeg, Nat.reduceEqDiff, Bool.false_eq_true, k8, ev, zrv_1]
  · rw [zB_0 (p := P < 6 ∧ ((1 ≤ M ∧ M ≤ 99) ∧ (1 ≤ L ∧ L ≤ 5000))) (fun g => kA g.1), q_L_isReel_152]
    have k8 : P = 6 := by omega
    simp (disch := first | assumption | omega) only [↓reduceIte, l_0, l_1, l_2, l_3, l_4, l_5, l_6, l_7, l_8, l_9, l_10, l_12, l_16, l_24, l_31, l_32, l_48, l_96, l_99, l_100, l_150, l_180, l_200, l_240, l_255, l_260, l_384, l_400, l_999, l_5000, l_9999, l_1000000, l_1000000000, l_11, l_13, l_14, l_15, l_17, l_18, l_19, l_20, l_21, l_22, l_23, l_25, l_26, l_28, l_30, l_42, l_54, l_60, l_64, l_81, l_90, l_101, l_103, l_110, l_120, l_128, l_140, l_256, l_401, l_403, l_450, l_512, l_853, l_983, l_1000, l_1001, l_2048, l_3000000, l_2000000, l_4096, l_5001, l_5002, l_10000, l_10001, l_32768, l_60000, l_2147483647, zJ_lt, zJ_le, zJ_eq, zJ_add, zJ_sub, zJ_mul, zJ_neg, zJ_dv, t_I, t_Ie, t_R, t_Re, t_N, t_Nn, t_V, t_Ve, t_b, t_x, t_w, e_0, e_1, e_2, e_3, ↓t_0, ↓t_1, t_00, t_11, if_true, if_false, ite_not, not_false_eq_true, not_true_eq_false, Int.reduceEq, Int.reduceLT, Int.reduceLE, Int.reduceNeg, Nat.reduceEqDiff, Bool.false_eq_true]
    rw [q_L_isReel_196]
    refine zgL_d hG (by rw [l_0, l_8]; exact d_reel hY hG hI (by omega) (by omega) (by omega)) (fun Y2 n2 m2 X2 code ans v hD h0 hE hl hY2 hG2 hI2 hle => ?_)
    unfold dReel at hD
    obtain ⟨ev, e1⟩ := (zd3_v hD h0 hE).1 (by omega)
    refine ⟨pK_s e1 (by decide) hK, fun _ => ?_⟩
    simp (disch := first | assumption | omega) only [↓reduceIte, l_0, l_1, l_2, l_3, l_4, l_5, l_6, l_7, l_8, l_9, l_10, l_12, l_16, l_24, l_31, l_32, l_48, l_96, l_99, l_100, l_150, l_180, l_200, l_240, l_255, l_260, l_384, l_400, l_999, l_5000, l_9999, l_1000000, l_1000000000, l_11, l_13, l_14, l_15, l_17, l_18, l_19, l_20, l_21, l_22, l_23, l_25, l_26, l_28, l_30, l_42, l_54, l_60, l_64, l_81, l_90, l_101, l_103, l_110, l_120, l_128, l_140, l_256, l_401, l_403, l_450, l_512, l_853, l_983, l_1000, l_1001, l_2048, l_3000000, l_2000000, l_4096, l_5001, l_5002, l_10000, l_10001, l_32768, l_60000, l_2147483647, zJ_lt, zJ_le, zJ_eq, zJ_add, zJ_sub, zJ_mul, zJ_neg, zJ_dv, t_I, t_Ie, t_R, t_Re, t_N, t_Nn, t_V, t_Ve, t_b, t_x, t_w, e_0, e_1, e_2, e_3, ↓t_0, ↓t_1, t_00, t_11, if_true, if_false, ite_not, not_false_eq_true, not_true_eq_false, Int.reduceEq, Int.reduceLT, Int.reduceLE, Int.reduceNeg, Nat.reduceEqDiff, Bool.false_eq_true, k8, ev, zrv_0]
theorem R_open (hZ : zLA G t Y n X) (hk : 0 ≤ k ∧ k ≤ 1) (h1 : 0 ≤ q ∧ q < 60000) (h2 : 0 ≤ r ∧ r < 60000) : zgL G t Y n s (ev_ G 219 247 [.ref (wA Y 13 0), .ref (wA Y 15 605), .ref (wA Y 15 606), .ref (wA Y 15 607), .ref (wA Y 15 608), .ref (wA Y 15 612), .ref (wA Y 15 613), .int (zJ k), .int (zJ q), .int (zJ r), zU, zU, zU, zU, zU] [] (wd Y n s X)) := by
  have hZ' := hZ
  obtain ⟨hY, hG, hI, hK⟩ := hZ
  obtain ⟨pg, pb, pc, pw, pr, ph, ps, pf⟩ := id hK
  have hL := wY_A hY
  have h8 := hI.2.2.2.2.2.2.2.1
  have h9 := hI.2.2.2.2.2.2.2.2.1
  unfold iM at h9
  have h400 : 0 ≤ X 425 0 ∧ X 425 0 ≤ 12 := by
    have := h8.1
    have := hY.2.2.2.2.1
    omega
  have e0 : ¬X 425 0 + 1 = 0 := by omega
  have b1 : 0 ≤ q % (X 425 0 + 1) ∧ q % (X 425 0 + 1) < X 425 0 + 1 := ⟨Int.emod_nonneg _ e0, Int.emod_lt_of_pos _ (by omega)⟩
  have e2 : ¬2 ≤ k := by omega
  have s1 : ev_ G 219 247 [.ref (wA Y 13 0), .ref (wA Y 15 605), .ref (wA Y 15 606), .ref (wA Y 15 607), .ref (wA Y 15 608), .ref (wA Y 15 612), .ref (wA Y 15 613), .int (zJ k), .int (zJ q), .int (zJ r), zU, zU, zU, zU, zU] [] (wd Y n s X) = ev_ G 219 276 [.ref (wA Y 13 0), .ref (wA Y 15 605), .ref (wA Y 15 606), .ref (wA Y 15 607), .ref (wA Y 15 608), .ref (wA Y 15 612), .ref (wA Y 15 613), .int (zJ k), .int (zJ q), .int (zJ r), .int (zJ (q % (X 425 0 + 1))), zU, zU, zU, zU] [.int (zJ (zB (r % 3 = 0)))] (wd Y n s X) := by
    rw [q_L_isReel_247]
    by_cases k1 : r % 3 = 0
    · rw [zB_1 k1]
      simp (disch := first | assumption | omega) only [↓reduceIte, l_0, l_1, l_2, l_3, l_4, l_5, l_6, l_7, l_8, l_9, l_10, l_12, l_16, l_24, l_31, l_32, l_48, l_96, l_99, l_100, l_150, l_180, l_200, l_240, l_255, l_260, l_384, l_400, l_999, l_5000, l_9999, l_1000000, l_1000000000, l_11, l_13, l_14, l_15, l_17, l_18, l_19, l_20, l_21, l_22, l_23, l_25, l_26, l_28, l_30, l_42, l_54, l_60, l_64, l_81, l_90, l_101, l_103, l_110, l_120, l_128, l_140, l_256, l_401, l_403, l_450, l_512, l_853, l_983, l_1000, l_1001, l_2048, l_3000000, l_2000000, l_4096, l_5001, l_5002, l_10000, l_10001, l_32768, l_60000, l_2147483647, zJ_lt, zJ_le, zJ_eq, zJ_add, zJ_sub, zJ_mul, zJ_neg, zJ_dv, t_I, t_Ie, t_R, t_Re, t_N, t_Nn, t_V, t_Ve, t_b, t_x, t_w, e_0, e_1, e_2, e_3, ↓t_0, ↓t_1, t_00, t_11, if_true, if_false, ite_not, not_false_eq_true, not_true_eq_false, Int.reduceEq, Int.reduceLT, Int.reduceLE, Int.reduceNeg, Nat.reduceEqDiff, Bool.false_eq_true, zem, lg_ hL, pg.2.2.2.1, e0, e2, k1]
    · rw [zB_0 k1]
      simp (disch := first | assumption | omega) only [↓reduceIte, l_0, l_1, l_2, l_3, l_4, l_5, l_6, l_7, l_8, l_9, l_10, l_12, l_16, l_24, l_31, l_32, l_48, l_96, l_99, l_100, l_150, l_180, l_200, l_240, l_255, l_260, l_384, l_400, l_999, l_5000, l_9999, l_1000000, l_1000000000, l_11, l_13, l_14, l_15, l_17, l_18, l_19, l_20, l_21, l_22, l_23, l_25, l_26, l_28, l_30, l_42, l_54, l_60, l_64, l_81, l_90, l_101, l_103, l_110, l_120, l_128, l_140, l_256, l_401, l_403, l_450, l_512, l_853, l_983, l_1000, l_1001, l_2048, l_3000000, l_2000000, l_4096, l_5001, l_5002, l_10000, l_10001, l_32768, l_60000, l_2147483647, zJ_lt, zJ_le, zJ_eq, zJ_add, zJ_sub, zJ_mul, zJ_neg, zJ_dv, t_I, t_Ie, t_R, t_Re, t_N, t_Nn, t_V, t_Ve, t_b, t_x, t_w, e_0, e_1, e_2, e_3, ↓t_0, ↓t_1, t_00, t_11, if_true, if_false, ite_not, not_false_eq_true, not_true_eq_false, Int.reduceEq, Int.reduceLT, Int.reduceLE, Int.reduceNeg, Nat.reduceEqDiff, Bool.false_eq_true, zem, lg_ hL, pg.2.2.2.1, e0, e2, k1]
  rw [s1]
  generalize q % (X 425 0 + 1) = f at b1
  have hbk : zB (r % 3 = 0) = 0 ∨ zB (r % 3 = 0) = 1 := by
    have := zB_r (r % 3 = 0)
    omega
  generalize zB (r % 3 = 0) = z at hbk
  have s2 : ev_ G 219 276 [.ref (wA Y 13 0), .ref (wA Y 15 605), .ref (wA Y 15 606), .ref (wA Y 15 607), .ref (wA Y 15 608), .ref (wA Y 15 612), .ref (wA Y 15 613), .int (zJ k), .int (zJ q), .int (zJ r), .int (zJ f), zU, zU, zU, zU] [.int (zJ z)] (wd Y n s X) = ev_ G 219 292 [.ref (wA Y 13 0), .ref (wA Y 15 605), .ref (wA Y 15 606), .ref (wA Y 15 607), .ref (wA Y 15 608), .ref (wA Y 15 612), .ref (wA Y 15 613), .int (zJ k), .int (zJ q), .int (zJ r), .int (zJ f), .int (zJ z), zU, zU, zU] [.int (zJ (zB (f < X 425 0)))] (wd Y n s X) := by
    rw [q_L_isReel_276]
    by_cases k1 : f < X 425 0
    · have k2 : ¬X 425 0 ≤ f := by omega
      rw [zB_1 k1]
      simp (disch := first | assumption | omega) only [↓reduceIte, l_0, l_1, l_2, l_3, l_4, l_5, l_6, l_7, l_8, l_9, l_10, l_12, l_16, l_24, l_31, l_32, l_48, l_96, l_99, l_100, l_150, l_180, l_200, l_240, l_255, l_260, l_384, l_400, l_999, l_5000, l_9999, l_1000000, l_1000000000, l_11, l_13, l_14, l_15, l_17, l_18, l_19, l_20, l_21, l_22, l_23, l_25, l_26, l_28, l_30, l_42, l_54, l_60, l_64, l_81, l_90, l_101, l_103, l_110, l_120, l_128, l_140, l_256, l_401, l_403, l_450, l_512, l_853, l_983, l_1000, l_1001, l_2048, l_3000000, l_2000000, l_4096, l_5001, l_5002, l_10000, l_10001, l_32768, l_60000, l_2147483647, zJ_lt, zJ_le, zJ_eq, zJ_add, zJ_sub, zJ_mul, zJ_neg, zJ_dv, t_I, t_Ie, t_R, t_Re, t_N, t_Nn, t_V, t_Ve, t_b, t_x, t_w, e_0, e_1, e_2, e_3, ↓t_0, ↓t_1, t_00, t_11, if_true, if_false, ite_not, not_false_eq_true, not_true_eq_false, Int.reduceEq, Int.reduceLT, Int.reduceLE, Int.reduceNeg, Nat.reduceEqDiff, Bool.false_eq_true, lg_ hL, pg.2.2.2.1, k2]
    · have k2 : X 425 0 ≤ f := by omega
      rw [zB_0 k1]
      simp (disch := first | assumption | omega) only [↓reduceIte, l_0, l_1, l_2, l_3, l_4, l_5, l_6, l_7, l_8, l_9, l_10, l_12, l_16, l_24, l_31, l_32, l_48, l_96, l_99, l_100, l_150, l_180, l_200, l_240, l_255, l_260, l_384, l_400, l_999, l_5000, l_9999, l_1000000, l_1000000000, l_11, l_13, l_14, l_15, l_17, l_18, l_19, l_20, l_21, l_22, l_23, l_25, l_26, l_28, l_30, l_42, l_54, l_60, l_64, l_81, l_90, l_101, l_103, l_110, l_120, l_128, l_140, l_256, l_401, l_403, l_450, l_512, l_853, l_983, l_1000, l_1001, l_2048, l_3000000, l_2000000, l_4096, l_5001, l_5002, l_10000, l_10001, l_32768, l_60000, l_2147483647, zJ_lt, zJ_le, zJ_eq, zJ_add, zJ_sub, zJ_mul, zJ_neg, zJ_dv, t_I, t_Ie, t_R, t_Re, t_N, t_Nn, t_V, t_Ve, t_b, t_x, t_w, e_0, e_1, e_2, e_3, ↓t_0, ↓t_1, t_00, t_11, if_true, if_false, ite_not, not_false_eq_true, not_true_eq_false, Int.reduceEq, Int.reduceLT, Int.reduceLE, Int.reduceNeg, Nat.reduceEqDiff, Bool.false_eq_true, lg_ hL, pg.2.2.2.1, k2]
  have s4 : ∀ (idx a c : Int), 0 ≤ idx → idx < 13 → ev_ G 219 331 [.ref (wA Y 13 0), .ref (wA Y 15 605), .ref (wA Y 15 606), .ref (wA Y 15 607), .ref (wA Y 15 608), .ref (wA Y 15 612), .ref (wA Y 15 613), .int (zJ k), .int (zJ q), .int (zJ r), .int (zJ f), .int (zJ z), .int (zJ a), .int (zJ c), zU] [.int (zJ idx), .ref (wA Y 15 607)] (wd Y n s X) = ev_ G 219 352 [.ref (wA Y 13 0), .ref (wA Y 15 605), .ref (wA Y 15 606), .ref (wA Y 15 607), .ref (wA Y 15 608), .ref (wA Y 15 612), .ref (wA Y 15 613), .int (zJ k), .int (zJ q), .int (zJ r), .int (zJ f), .int (zJ z), .int (zJ a), .int (zJ c), zU] [.int (zJ z), .int (zJ f), .int (zJ 9), .ref (wA Y 13 0)] (wd Y n s (wu X 1107 idx (X 424 0))) := by
    intro idx a c i0 i1
    rw [q_L_isReel_331]
    rcases hbk with rfl | rfl
    · simp (disch := first | assumption | omega) only [↓reduceIte, l_0, l_1, l_2, l_3, l_4, l_5, l_6, l_7, l_8, l_9, l_10, l_12, l_16, l_24, l_31, l_32, l_48, l_96, l_99, l_100, l_150, l_180, l_200, l_240, l_255, l_260, l_384, l_400, l_999, l_5000, l_9999, l_1000000, l_1000000000, l_11, l_13, l_14, l_15, l_17, l_18, l_19, l_20, l_21, l_22, l_23, l_25, l_26, l_28, l_30, l_42, l_54, l_60, l_64, l_81, l_90, l_101, l_103, l_110, l_120, l_128, l_140, l_256, l_401, l_403, l_450, l_512, l_853, l_983, l_1000, l_1001, l_2048, l_3000000, l_2000000, l_4096, l_5001, l_5002, l_10000, l_10001, l_32768, l_60000, l_2147483647, zJ_lt, zJ_le, zJ_eq, zJ_add, zJ_sub, zJ_mul, zJ_neg, zJ_dv, t_I, t_Ie, t_R, t_Re, t_N, t_Nn, t_V, t_Ve, t_b, t_x, t_w, e_0, e_1, e_2, e_3, ↓t_0, ↓t_1, t_00, t_11, if_true, if_false, ite_not, not_false_eq_true, not_true_eq_false, Int.reduceEq, Int.reduceLT, Int.reduceLE, Int.reduceNeg, Nat.reduceEqDiff, Bool.false_eq_true, lh_ hL, ph.2.2.2, so_ hL]
    · simp (disch := first | assumption | omega) only [↓reduceIte, l_0, l_1, l_2, l_3, l_4, l_5, l_6, l_7, l_8, l_9, l_10, l_12, l_16, l_24, l_31, l_32, l_48, l_96, l_99, l_100, l_150, l_180, l_200, l_240, l_255, l_260, l_384, l_400, l_999, l_5000, l_9999, l_1000000, l_1000000000, l_11, l_13, l_14, l_15, l_17, l_18, l_19, l_20, l_21, l_22, l_23, l_25, l_26, l_28, l_30, l_42, l_54, l_60, l_64, l_81, l_90, l_101, l_103, l_110, l_120, l_128, l_140, l_256, l_401, l_403, l_450, l_512, l_853, l_983, l_1000, l_1001, l_2048, l_3000000, l_2000000, l_4096, l_5001, l_5002, l_10000, l_10001, l_32768, l_60000, l_2147483647, zJ_lt, zJ_le, zJ_eq, zJ_add, zJ_sub, zJ_mul, zJ_neg, zJ_dv, t_I, t_Ie, t_R, t_Re, t_N, t_Nn, t_V, t_Ve, t_b, t_x, t_w, e_0, e_1, e_2, e_3, ↓t_0, ↓t_1, t_00, t_11, if_true, if_false, ite_not, not_false_eq_true, not_true_eq_false, Int.reduceEq, Int.reduceLT, Int.reduceLE, Int.reduceNeg, Nat.reduceEqDiff, Bool.false_eq_true, lh_ hL, ph.2.2.2, so_ hL]
  have sX : ∀ idx : Int, zsame [1107] X (wu X 1107 idx (X 424 0)) := fun idx => same_u (by decide) same_r
  have gl : ∀ idx f : Int, f < 1100 → wu X 1107 idx (X 424 0) f = X f := fun idx f hf => sX idx f (by simp; omega)
  have hI' : ∀ idx : Int, iAll t Y.2.2.2.2 (wu X 1107 idx (X 424 0)) := fun idx => iAll_l (gl idx) hY.2.2.2.1.2 hY.2.2.2.2.2.1.2 hI
  have hno : ∀ X2 : zX, zsame [444] (wu X 1107 12 (X 424 0)) X2 → pK X2 := by
    intro X2 e7
    have s2 := same_t (same_m (F := [1107, 444]) (sX 12) (by decide)) (same_m e7 (by decide))
    refine ⟨pG_c pg (same_g s2 (by decide)), pB_c pb (same_g s2 (by decide)), pC_c pc (same_g s2 (by decide)), pW_c pw (same_g s2 (by decide)), ?_, pH_c ph (same_g s2 (by decide)), pS_c ps (same_g s2 (by decide)), pF_c pf (same_g s2 (by decide))⟩
    intro k k0 k1
    rw [s2 425 (by decide)] at k1
    rw [s2 1105 (by decide), s2 1026 (by decide), s2 1028 (by decide), s2 1106 (by decide), s2 1027 (by decide), s2 1029 (by decide), e7 1107 (by decide), wu_ni (by omega)]
    exact pr k k0 k1
  rw [s2]
  by_cases kA : f < X 425 0
  · obtain ⟨p1, p2, p3⟩ := pr f b1.1 kA
    have r2 := h8.2.1 f b1.1 (by omega)
    rw [zB_1 kA]
    by_cases kB : X 1029 f = -1 ∨ z ≠ 0
    · have hst : ev_ G 219 292 [.ref (wA Y 13 0), .ref (wA Y 15 605), .ref (wA Y 15 606), .ref (wA Y 15 607), .ref (wA Y 15 608), .ref (wA Y 15 612), .ref (wA Y 15 613), .int (zJ k), .int (zJ q), .int (zJ r), .int (zJ f), .int (zJ z), zU, zU, zU] [.int (zJ 1)] (wd Y n s X) = ev_ G 219 331 [.ref (wA Y 13 0), .ref (wA Y 15 605), .ref (wA Y 15 606), .ref (wA Y 15 607), .ref (wA Y 15 608), .ref (wA Y 15 612), .ref (wA Y 15 613), .int (zJ k), .int (zJ q), .int (zJ r), .int (zJ f), .int (zJ z), .int (zJ 1), .int (zJ 1), zU] [.int (zJ f), .ref (wA Y 15 607)] (wd Y n s X) := by
        rw [q_L_isReel_292]
        by_cases k1 : X 1029 f < 0
        · simp (disch := first | assumption | omega) only [↓reduceIte, l_0, l_1, l_2, l_3, l_4, l_5, l_6, l_7, l_8, l_9, l_10, l_12, l_16, l_24, l_31, l_32, l_48, l_96, l_99, l_100, l_150, l_180, l_200, l_240, l_255, l_260, l_384, l_400, l_999, l_5000, l_9999, l_1000000, l_1000000000, l_11, l_13, l_14, l_15, l_17, l_18, l_19, l_20, l_21, l_22, l_23, l_25, l_26, l_28, l_30, l_42, l_54, l_60, l_64, l_81, l_90, l_101, l_103, l_110, l_120, l_128, l_140, l_256, l_401, l_403, l_450, l_512, l_853, l_983, l_1000, l_1001, l_2048, l_3000000, l_2000000, l_4096, l_5001, l_5002, l_10000, l_10001, l_32768, l_60000, l_2147483647, zJ_lt, zJ_le, zJ_eq, zJ_add, zJ_sub, zJ_mul, zJ_neg, zJ_dv, t_I, t_Ie, t_R, t_Re, t_N, t_Nn, t_V, t_Ve, t_b, t_x, t_w, e_0, e_1, e_2, e_3, ↓t_0, ↓t_1, t_00, t_11, if_true, if_false, ite_not, not_false_eq_true, not_true_eq_false, Int.reduceEq, Int.reduceLT, Int.reduceLE, Int.reduceNeg, Nat.reduceEqDiff, Bool.false_eq_true, so_ hL, lo_ hL, p3, k1]
          rw [q_L_isReel_311]
          simp (disch := first | assumption | omega) only [↓reduceIte, l_0, l_1, l_2, l_3, l_4, l_5, l_6, l_7, l_8, l_9, l_10, l_12, l_16, l_24, l_31, l_32, l_48, l_96, l_99, l_100, l_150, l_180, l_200, l_240, l_255, l_260, l_384, l_400, l_999, l_5000, l_9999, l_1000000, l_1000000000, l_11, l_13, l_14, l_15, l_17, l_18, l_19, l_20, l_21, l_22, l_23, l_25, l_26, l_28, l_30, l_42, l_54, l_60, l_64, l_81, l_90, l_101, l_103, l_110, l_120, l_128, l_140, l_256, l_401, l_403, l_450, l_512, l_853, l_983, l_1000, l_1001, l_2048, l_3000000, l_2000000, l_4096, l_5001, l_5002, l_10000, l_10001, l_32768, l_60000, l_2147483647, zJ_lt, zJ_le, zJ_eq, zJ_add, zJ_sub, zJ_mul, zJ_neg, zJ_dv, t_I, t_Ie, t_R, t_Re, t_N, t_Nn, t_V, t_Ve, t_b, t_x, t_w, e_0, e_1, e_2, e_3, ↓t_0, ↓t_1, t_00, t_11, if_true, if_false, ite_not, not_false_eq_true, not_true_eq_false, Int.reduceEq, Int.reduceLT, Int.reduceLE, Int.reduceNeg, Nat.reduceEqDiff, Bool.false_eq_true]
        · have k2 : ¬z = 0 := by omega
          simp (disch := first | assumption | omega) only [↓reduceIte, l_0, l_1, l_2, l_3, l_4, l_5, l_6, l_7, l_8, l_9, l_10, l_12, l_16, l_24, l_31, l_32, l_48, l_96, l_99, l_100, l_150, l_180, l_200, l_240, l_255, l_260, l_384, l_400, l_999, l_5000, l_9999, l_1000000, l_1000000000, l_11, l_13, l_14, l_15, l_17, l_18, l_19, l_20, l_21, l_22, l_23, l_25, l_26, l_28, l_30, l_42, l_54, l_60, l_64, l_81, l_90, l_101, l_103, l_110, l_120, l_128, l_140, l_256, l_401, l_403, l_450, l_512, l_853, l_983, l_1000, l_1001, l_2048, l_3000000, l_2000000, l_4096, l_5001, l_5002, l_10000, l_10001, l_32768, l_60000, l_2147483647, zJ_lt, zJ_le, zJ_eq, zJ_add, zJ_sub, zJ_mul, zJ_neg, zJ_dv, t_I, t_Ie, t_R, t_Re, t_N, t_Nn, t_V, t_Ve, t_b, t_x, t_w, e_0, e_1, e_2, e_3, ↓t_0, ↓t_1, t_00, t_11, if_true, if_false, ite_not, not_false_eq_true, not_true_eq_false, Int.reduceEq, Int.reduceLT, Int.reduceLE, Int.reduceNeg, Nat.reduceEqDiff, Bool.false_eq_true, so_ hL, lo_ hL, p3, k1, k2]
          rw [q_L_isReel_311]
          simp (disch := first | assumption | omega) only [↓reduceIte, l_0, l_1, l_2, l_3, l_4, l_5, l_6, l_7, l_8, l_9, l_10, l_12, l_16, l_24, l_31, l_32, l_48, l_96, l_99, l_100, l_150, l_180, l_200, l_240, l_255, l_260, l_384, l_400, l_999, l_5000, l_9999, l_1000000, l_1000000000, l_11, l_13, l_14, l_15, l_17, l_18, l_19, l_20, l_21, l_22, l_23, l_25, l_26, l_28, l_30, l_42, l_54, l_60, l_64, l_81, l_90, l_101, l_103, l_110, l_120, l_128, l_140, l_256, l_401, l_403, l_450, l_512, l_853, l_983, l_1000, l_1001, l_2048, l_3000000, l_2000000, l_4096, l_5001, l_5002, l_10000, l_10001, l_32768, l_60000, l_2147483647, zJ_lt, zJ_le, zJ_eq, zJ_add, zJ_sub, zJ_mul, zJ_neg, zJ_dv, t_I, t_Ie, t_R, t_Re, t_N, t_Nn, t_V, t_Ve, t_b, t_x, t_w, e_0, e_1, e_2, e_3, ↓t_0, ↓t_1, t_00, t_11, if_true, if_false, ite_not, not_false_eq_true, not_true_eq_false, Int.reduceEq, Int.reduceLT, Int.reduceLE, Int.reduceNeg, Nat.reduceEqDiff, Bool.false_eq_true]
      rw [hst, s4 f 1 1 b1.1 (by omega), q_L_isReel_352]
      refine zgL_d hG (by rw [l_0]; exact d_open hY hG (hI' f) (by omega) hbk) (fun Y2 n2 m2 X2 code ans v hD h0 hE hl hY2 hG2 hI2 hle => ?_)
      unfold dOpen at hD
      rw [gl f 425 (by decide), gl f 1029 (by decide), gl f 1028 (by decide), gl f 424 (by decide)] at hD
      obtain ⟨ev, e1, e2, e7⟩ := (zd2_v hD h0 hE).2.2 ⟨b1.1, kA⟩ kB
      have s2 := same_t (same_m (F := [1107, 183, 184, 444, 1029]) (sX f) (by decide)) (same_m e7 (by decide))
      refine ⟨⟨pG_c pg (same_g s2 (by decide)), pB_c pb (same_g s2 (by decide)), pC_c pc (same_g s2 (by decide)), pW_c pw (same_g s2 (by decide)), ?_, pH_c ph (same_g s2 (by decide)), pS_c ps (same_g s2 (by decide)), pF_c pf (same_g s2 (by decide))⟩, fun _ => ?_⟩
      · intro k k0 k1
        rw [s2 425 (by decide)] at k1
        rw [s2 1105 (by decide), s2 1026 (by decide), s2 1028 (by decide), s2 1106 (by decide), s2 1027 (by decide), e2, e7 1107 (by decide), wu_v]
        have := pr k k0 k1
        by_cases hk : k = f
        · simp only [if_pos hk]
          exact ⟨this.1, this.2.1, trivial⟩
        · simp only [if_neg hk]
          exact this
      · have hLv := wY_A hY2
        have e8 : zclk 1 (X 1028 f) (X 424 0) (X 424 0) = X 1028 f := by
          unfold zclk
          rw [if_neg (by omega)]
          omega
        have e9 : X 1105 f / 8 = X 1028 f := by omega
        rw [wA_l hle hL (j := 605) (by decide) (by decide)]
        simp (disch := first | assumption | omega) only [↓reduceIte, l_0, l_1, l_2, l_3, l_4, l_5, l_6, l_7, l_8, l_9, l_10, l_12, l_16, l_24, l_31, l_32, l_48, l_96, l_99, l_100, l_150, l_180, l_200, l_240, l_255, l_260, l_384, l_400, l_999, l_5000, l_9999, l_1000000, l_1000000000, l_11, l_13, l_14, l_15, l_17, l_18, l_19, l_20, l_21, l_22, l_23, l_25, l_26, l_28, l_30, l_42, l_54, l_60, l_64, l_81, l_90, l_101, l_103, l_110, l_120, l_128, l_140, l_256, l_401, l_403, l_450, l_512, l_853, l_983, l_1000, l_1001, l_2048, l_3000000, l_2000000, l_4096, l_5001, l_5002, l_10000, l_10001, l_32768, l_60000, l_2147483647, zJ_lt, zJ_le, zJ_eq, zJ_add, zJ_sub, zJ_mul, zJ_neg, zJ_dv, t_I, t_Ie, t_R, t_Re, t_N, t_Nn, t_V, t_Ve, t_b, t_x, t_w, e_0, e_1, e_2, e_3, ↓t_0, ↓t_1, t_00, t_11, if_true, if_false, ite_not, not_false_eq_true, not_true_eq_false, Int.reduceEq, Int.reduceLT, Int.reduceLE, Int.reduceNeg, Nat.reduceEqDiff, Bool.false_eq_true, ev, e1, e8, e9, le_ hLv, s2 1105 (by decide)]
    · have k1 : ¬X 1029 f < 0 := by omega
      have k2 : z = 0 := by omega
      have hst : ev_ G 219 292 [.ref (wA Y 13 0), .ref (wA Y 15 605), .ref (wA Y 15 606), .ref (wA Y 15 607), .ref (wA Y 15 608), .ref (wA Y 15 612), .ref (wA Y 15 613), .int (zJ k), .int (zJ q), .int (zJ r), .int (zJ f), .int (zJ z), zU, zU, zU] [.int (zJ 1)] (wd Y n s X) = ev_ G 219 331 [.ref (wA Y 13 0), .ref (wA Y 15 605), .ref (wA Y 15 606), .ref (wA Y 15 607), .ref (wA Y 15 608), .ref (wA Y 15 612), .ref (wA Y 15 613), .int (zJ k), .int (zJ q), .int (zJ r), .int (zJ f), .int (zJ z), .int (zJ 1), .int (zJ 0), zU] [.int (zJ 12), .ref (wA Y 15 607)] (wd Y n s X) := by
        rw [q_L_isReel_292]
        simp (disch := first | assumption | omega) only [↓reduceIte, l_0, l_1, l_2, l_3, l_4, l_5, l_6, l_7, l_8, l_9, l_10, l_12, l_16, l_24, l_31, l_32, l_48, l_96, l_99, l_100, l_150, l_180, l_200, l_240, l_255, l_260, l_384, l_400, l_999, l_5000, l_9999, l_1000000, l_1000000000, l_11, l_13, l_14, l_15, l_17, l_18, l_19, l_20, l_21, l_22, l_23, l_25, l_26, l_28, l_30, l_42, l_54, l_60, l_64, l_81, l_90, l_101, l_103, l_110, l_120, l_128, l_140, l_256, l_401, l_403, l_450, l_512, l_853, l_983, l_1000, l_1001, l_2048, l_3000000, l_2000000, l_4096, l_5001, l_5002, l_10000, l_10001, l_32768, l_60000, l_2147483647, zJ_lt, zJ_le, zJ_eq, zJ_add, zJ_sub, zJ_mul, zJ_neg, zJ_dv, t_I, t_Ie, t_R, t_Re, t_N, t_Nn, t_V, t_Ve, t_b, t_x, t_w, e_0, e_1, e_2, e_3, ↓t_0, ↓t_1, t_00, t_11, if_true, if_false, ite_not, not_false_eq_true, not_true_eq_false, Int.reduceEq, Int.reduceLT, Int.reduceLE, Int.reduceNeg, Nat.reduceEqDiff, Bool.false_eq_true, so_ hL, lo_ hL, p3, k1, k2]
        rw [q_L_isReel_315]
        simp (disch := first | assumption | omega) only [↓reduceIte, l_0, l_1, l_2, l_3, l_4, l_5, l_6, l_7, l_8, l_9, l_10, l_12, l_16, l_24, l_31, l_32, l_48, l_96, l_99, l_100, l_150, l_180, l_200, l_240, l_255, l_260, l_384, l_400, l_999, l_5000, l_9999, l_1000000, l_1000000000, l_11, l_13, l_14, l_15, l_17, l_18, l_19, l_20, l_21, l_22, l_23, l_25, l_26, l_28, l_30, l_42, l_54, l_60, l_64, l_81, l_90, l_101, l_103, l_110, l_120, l_128, l_140, l_256, l_401, l_403, l_450, l_512, l_853, l_983, l_1000, l_1001, l_2048, l_3000000, l_2000000, l_4096, l_5001, l_5002, l_10000, l_10001, l_32768, l_60000, l_2147483647, zJ_lt, zJ_le, zJ_eq, zJ_add, zJ_sub, zJ_mul, zJ_neg, zJ_dv, t_I, t_Ie, t_R, t_Re, t_N, t_Nn, t_V, t_Ve, t_b, t_x, t_w, e_0, e_1, e_2, e_3, ↓t_0, ↓t_1, t_00, t_11, if_true, if_false, ite_not, not_false_eq_true, not_true_eq_false, Int.reduceEq, Int.reduceLT, Int.reduceLE, Int.reduceNeg, Nat.reduceEqDiff, Bool.false_eq_true]
      rw [hst, s4 12 1 0 (by decide) (by decide), q_L_isReel_352]
      refine zgL_d hG (by rw [l_0]; exact d_open hY hG (hI' 12) (by omega) hbk) (fun Y2 n2 m2 X2 code ans v hD h0 hE hl hY2 hG2 hI2 hle => ?_)
      unfold dOpen at hD
      rw [gl 12 425 (by decide), gl 12 1029 (by decide)] at hD
      obtain ⟨ev, e1⟩ := (zd2_v hD h0 hE).2.1 ⟨b1.1, kA⟩ kB
      refine ⟨hno X2 e1, fun _ => ?_⟩
      simp (disch := first | assumption | omega) only [↓reduceIte, l_0, l_1, l_2, l_3, l_4, l_5, l_6, l_7, l_8, l_9, l_10, l_12, l_16, l_24, l_31, l_32, l_48, l_96, l_99, l_100, l_150, l_180, l_200, l_240, l_255, l_260, l_384, l_400, l_999, l_5000, l_9999, l_1000000, l_1000000000, l_11, l_13, l_14, l_15, l_17, l_18, l_19, l_20, l_21, l_22, l_23, l_25, l_26, l_28, l_30, l_42, l_54, l_60, l_64, l_81, l_90, l_101, l_103, l_110, l_120, l_128, l_140, l_256, l_401, l_403, l_450, l_512, l_853, l_983, l_1000, l_1001, l_2048, l_3000000, l_2000000, l_4096, l_5001, l_5002, l_10000, l_10001, l_32768, l_60000, l_2147483647, zJ_lt, zJ_le, zJ_eq, zJ_add, zJ_sub, zJ_mul, zJ_neg, zJ_dv, t_I, t_Ie, t_R, t_Re, t_N, t_Nn, t_V, t_Ve, t_b, t_x, t_w, e_0, e_1, e_2, e_3, ↓t_0, ↓t_1, t_00, t_11, if_true, if_false, ite_not, not_false_eq_true, not_true_eq_false, Int.reduceEq, Int.reduceLT, Int.reduceLE, Int.reduceNeg, Nat.reduceEqDiff, Bool.false_eq_true, ev, zrv_2]
  · rw [zB_0 kA]
    have hst : ev_ G 219 292 [.ref (wA Y 13 0), .ref (wA Y 15 605), .ref (wA Y 15 606), .ref (wA Y 15 607), .ref (wA Y 15 608), .ref (wA Y 15 612), .ref (wA Y 15 613), .int (zJ k), .int (zJ q), .int (zJ r), .int (zJ f), .int (zJ z), zU, zU, zU] [.int (zJ 0)] (wd Y n s X) = ev_ G 219 331 [.ref (wA Y 13 0), .ref (wA Y 15 605), .ref (wA Y 15 606), .ref (wA Y 15 607), .ref (wA Y 15 608), .ref (wA Y 15 612), .ref (wA Y 15 613), .int (zJ k), .int (zJ q), .int (zJ r), .int (zJ f), .int (zJ z), .int (zJ 0), .int (zJ 0), zU] [.int (zJ 12), .ref (wA Y 15 607)] (wd Y n s X) := by
      rw [q_L_isReel_292]
      simp (disch := first | assumption | omega) only [↓reduceIte, l_0, l_1, l_2, l_3, l_4, l_5, l_6, l_7, l_8, l_9, l_10, l_12, l_16, l_24, l_31, l_32, l_48, l_96, l_99, l_100, l_150, l_180, l_200, l_240, l_255, l_260, l_384, l_400, l_999, l_5000, l_9999, l_1000000, l_1000000000, l_11, l_13, l_14, l_15, l_17, l_18, l_19, l_20, l_21, l_22, l_23, l_25, l_26, l_28, l_30, l_42, l_54, l_60, l_64, l_81, l_90, l_101, l_103, l_110, l_120, l_128, l_140, l_256, l_401, l_403, l_450, l_512, l_853, l_983, l_1000, l_1001, l_2048, l_3000000, l_2000000, l_4096, l_5001, l_5002, l_10000, l_10001, l_32768, l_60000, l_2147483647, zJ_lt, zJ_le, zJ_eq, zJ_add, zJ_sub, zJ_mul, zJ_neg, zJ_dv, t_I, t_Ie, t_R, t_Re, t_N, t_Nn, t_V, t_Ve, t_b, t_x, t_w, e_0, e_1, e_2, e_3, ↓t_0, ↓t_1, t_00, t_11, if_true, if_false, ite_not, not_false_eq_true, not_true_eq_false, Int.reduceEq, Int.reduceLT, Int.reduceLE, Int.reduceNeg, Nat.reduceEqDiff, Bool.false_eq_true]
      rw [q_L_isReel_315]
      simp (disch := first | assumption | omega) only [↓reduceIte, l_0, l_1, l_2, l_3, l_4, l_5, l_6, l_7, l_8, l_9, l_10, l_12, l_16, l_24, l_31, l_32, l_48, l_96, l_99, l_100, l_150, l_180, l_200, l_240, l_255, l_260, l_384, l_400, l_999, l_5000, l_9999, l_1000000, l_1000000000, l_11, l_13, l_14, l_15, l_17, l_18, l_19, l_20, l_21, l_22, l_23, l_25, l_26, l_28, l_30, l_42, l_54, l_60, l_64, l_81, l_90, l_101, l_103, l_110, l_120, l_128, l_140, l_256, l_401, l_403, l_450, l_512, l_853, l_983, l_1000, l_1001, l_2048, l_3000000, l_2000000, l_4096, l_5001, l_5002, l_10000, l_10001, l_32768, l_60000, l_2147483647, zJ_lt, zJ_le, zJ_eq, zJ_add, zJ_sub, zJ_mul, zJ_neg, zJ_dv, t_I, t_Ie, t_R, t_Re, t_N, t_Nn, t_V, t_Ve, t_b, t_x, t_w, e_0, e_1, e_2, e_3, ↓t_0, ↓t_1, t_00, t_11, if_true, if_false, ite_not, not_false_eq_true, not_true_eq_false, Int.reduceEq, Int.reduceLT, Int.reduceLE, Int.reduceNeg, Nat.reduceEqDiff, Bool.false_eq_true]
    rw [hst, s4 12 0 0 (by decide) (by decide), q_L_isReel_352]
    refine zgL_d hG (by rw [l_0]; exact d_open hY hG (hI' 12) (by omega) hbk) (fun Y2 n2 m2 X2 code ans v hD h0 hE hl hY2 hG2 hI2 hle => ?_)
    unfold dOpen at hD
    rw [gl 12 425 (by decide)] at hD
    obtain ⟨ev, e1⟩ := (zd2_v hD h0 hE).1 (by omega)
    refine ⟨hno X2 e1, fun _ => ?_⟩
    simp (disch := first | assumption | omega) only [↓reduceIte, l_0, l_1, l_2, l_3, l_4, l_5, l_6, l_7, l_8, l_9, l_10, l_12, l_16, l_24, l_31, l_32, l_48, l_96, l_99, l_100, l_150, l_180, l_200, l_240, l_255, l_260, l_384, l_400, l_999, l_5000, l_9999, l_1000000, l_1000000000, l_11, l_13, l_14, l_15, l_17, l_18, l_19, l_20, l_21, l_22, l_23, l_25, l_26, l_28, l_30, l_42, l_54, l_60, l_64, l_81, l_90, l_101, l_103, l_110, l_120, l_128, l_140, l_256, l_401, l_403, l_450, l_512, l_853, l_983, l_1000, l_1001, l_2048, l_3000000, l_2000000, l_4096, l_5001, l_5002, l_10000, l_10001, l_32768, l_60000, l_2147483647, zJ_lt, zJ_le, zJ_eq, zJ_add, zJ_sub, zJ_mul, zJ_neg, zJ_dv, t_I, t_Ie, t_R, t_Re, t_N, t_Nn, t_V, t_Ve, t_b, t_x, t_w, e_0, e_1, e_2, e_3, ↓t_0, ↓t_1, t_00, t_11, if_true, if_false, ite_not, not_false_eq_true, not_true_eq_false, Int.reduceEq, Int.reduceLT, Int.reduceLE, Int.reduceNeg, Nat.reduceEqDiff, Bool.false_eq_true, ev, zrv_0]
theorem zjd_c (h : X' 101 = X 101) (h' : X' 505 = X 505) : zjd X' p = zjd X p := by
  unfold zjd zwin
  rw [h, h']
theorem R_440 (hZ : zLA G t Y n X) (ht : t < 1000) (hp : 0 ≤ p ∧ p ≤ 10000) {c : Int} : ∃ J : Int, ((J = 1 ∧ zjd X p) ∨ (J = 0 ∧ ¬zjd X p)) ∧ ev_ G 219 440 [.ref (wA Y 13 0), .ref (wA Y 15 605), .ref (wA Y 15 606), .ref (wA Y 15 607), .ref (wA Y 15 608), .ref (wA Y 15 612), .ref (wA Y 15 613), .int (zJ 2), .int (zJ q), .int (zJ r), .int (zJ p), zU, zU, zU, zU] [.int (zJ c)] (wd Y n s X) = ev_ G 219 494 [.ref (wA Y 13 0), .ref (wA Y 15 605), .ref (wA Y 15 606), .ref (wA Y 15 607), .ref (wA Y 15 608), .ref (wA Y 15 612), .ref (wA Y 15 613), .int (zJ 2), .int (zJ q), .int (zJ r), .int (zJ p), .int (zJ c), .int (zJ (p - zwin X)), zU, zU] [.int (zJ J)] (wd Y n s X) := by
  have hw := L_window (s := s) hZ ht
  obtain ⟨hY, hG, hI, pg, pb, pc, pw, pr, ph, ps, pf⟩ := hZ
  have hL := wY_A hY
  have h7 := hI.2.2.2.2.2.2.1
  obtain ⟨w1, w2, w3⟩ := zwin_e h7
  unfold iD at h7
  obtain ⟨d1, d2, d3, d4, d5, d6⟩ := h7
  have g7 := pg.2.2.2.2.2.2.1
  have h422 : 0 ≤ X 422 0 ∧ X 422 0 < 10000 := by omega
  unfold zjd zabs
  rw [q_L_isReel_440, hw, t_I]
  by_cases k1 : X 422 0 < 3
  · refine ⟨1, .inl ⟨rfl, .inl (by omega)⟩, ?_⟩
    simp (disch := first | assumption | omega) only [↓reduceIte, l_0, l_1, l_2, l_3, l_4, l_5, l_6, l_7, l_8, l_9, l_10, l_12, l_16, l_24, l_31, l_32, l_48, l_96, l_99, l_100, l_150, l_180, l_200, l_240, l_255, l_260, l_384, l_400, l_999, l_5000, l_9999, l_1000000, l_1000000000, l_11, l_13, l_14, l_15, l_17, l_18, l_19, l_20, l_21, l_22, l_23, l_25, l_26, l_28, l_30, l_42, l_54, l_60, l_64, l_81, l_90, l_101, l_103, l_110, l_120, l_128, l_140, l_256, l_401, l_403, l_450, l_512, l_853, l_983, l_1000, l_1001, l_2048, l_3000000, l_2000000, l_4096, l_5001, l_5002, l_10000, l_10001, l_32768, l_60000, l_2147483647, zJ_lt, zJ_le, zJ_eq, zJ_add, zJ_sub, zJ_mul, zJ_neg, zJ_dv, t_I, t_Ie, t_R, t_Re, t_N, t_Nn, t_V, t_Ve, t_b, t_x, t_w, e_0, e_1, e_2, e_3, ↓t_0, ↓t_1, t_00, t_11, if_true, if_false, ite_not, not_false_eq_true, not_true_eq_false, Int.reduceEq, Int.reduceLT, Int.reduceLE, Int.reduceNeg, Nat.reduceEqDiff, Bool.false_eq_true, lg_ hL, g7, k1]
  · by_cases k2 : 0 ≤ p - zwin X
    · have hst : ∀ J : Int, (zJ (zwin X) < zJ 10 * zJ (p - zwin X)) = (zwin X < 10 * (p - zwin X)) := by
        intro _
        rw [zJ_mul, zJ_lt (by omega) (by omega) (by omega) (by omega)]
      by_cases k3 : zwin X < 10 * (p - zwin X)
      · refine ⟨0, .inr ⟨rfl, by rw [if_pos k2]; omega⟩, ?_⟩
        simp (disch := first | assumption | omega) only [↓reduceIte, l_0, l_1, l_2, l_3, l_4, l_5, l_6, l_7, l_8, l_9, l_10, l_12, l_16, l_24, l_31, l_32, l_48, l_96, l_99, l_100, l_150, l_180, l_200, l_240, l_255, l_260, l_384, l_400, l_999, l_5000, l_9999, l_1000000, l_1000000000, l_11, l_13, l_14, l_15, l_17, l_18, l_19, l_20, l_21, l_22, l_23, l_25, l_26, l_28, l_30, l_42, l_54, l_60, l_64, l_81, l_90, l_101, l_103, l_110, l_120, l_128, l_140, l_256, l_401, l_403, l_450, l_512, l_853, l_983, l_1000, l_1001, l_2048, l_3000000, l_2000000, l_4096, l_5001, l_5002, l_10000, l_10001, l_32768, l_60000, l_2147483647, zJ_lt, zJ_le, zJ_eq, zJ_add, zJ_sub, zJ_mul, zJ_neg, zJ_dv, t_I, t_Ie, t_R, t_Re, t_N, t_Nn, t_V, t_Ve, t_b, t_x, t_w, e_0, e_1, e_2, e_3, ↓t_0, ↓t_1, t_00, t_11, if_true, if_false, ite_not, not_false_eq_true, not_true_eq_false, Int.reduceEq, Int.reduceLT, Int.reduceLE, Int.reduceNeg, Nat.reduceEqDiff, Bool.false_eq_true, lg_ hL, g7, k1, k2]
        rw [q_L_isReel_478, hw, t_I]
        simp (disch := first | assumption | omega) only [↓reduceIte, l_0, l_1, l_2, l_3, l_4, l_5, l_6, l_7, l_8, l_9, l_10, l_12, l_16, l_24, l_31, l_32, l_48, l_96, l_99, l_100, l_150, l_180, l_200, l_240, l_255, l_260, l_384, l_400, l_999, l_5000, l_9999, l_1000000, l_1000000000, l_11, l_13, l_14, l_15, l_17, l_18, l_19, l_20, l_21, l_22, l_23, l_25, l_26, l_28, l_30, l_42, l_54, l_60, l_64, l_81, l_90, l_101, l_103, l_110, l_120, l_128, l_140, l_256, l_401, l_403, l_450, l_512, l_853, l_983, l_1000, l_1001, l_2048, l_3000000, l_2000000, l_4096, l_5001, l_5002, l_10000, l_10001, l_32768, l_60000, l_2147483647, zJ_lt, zJ_le, zJ_eq, zJ_add, zJ_sub, zJ_mul, zJ_neg, zJ_dv, t_I, t_Ie, t_R, t_Re, t_N, t_Nn, t_V, t_Ve, t_b, t_x, t_w, e_0, e_1, e_2, e_3, ↓t_0, ↓t_1, t_00, t_11, if_true, if_false, ite_not, not_false_eq_true, not_true_eq_false, Int.reduceEq, Int.reduceLT, Int.reduceLE, Int.reduceNeg, Nat.reduceEqDiff, Bool.false_eq_true, k3]
      · refine ⟨1, .inl ⟨rfl, by rw [if_pos k2]; omega⟩, ?_⟩
        simp (disch := first | assumption | omega) only [↓reduceIte, l_0, l_1, l_2, l_3, l_4, l_5, l_6, l_7, l_8, l_9, l_10, l_12, l_16, l_24, l_31, l_32, l_48, l_96, l_99, l_100, l_150, l_180, l_200, l_240, l_255, l_260, l_384, l_400, l_999, l_5000, l_9999, l_1000000, l_1000000000, l_11, l_13, l_14, l_15, l_17, l_18, l_19, l_20, l_21, l_22, l_23, l_25, l_26, l_28, l_30, l_42, l_54, l_60, l_64, l_81, l_90, l_101, l_103, l_110, l_120, l_128, l_140, l_256, l_401, l_403, l_450, l_512, l_853, l_983, l_1000, l_1001, l_2048, l_3000000, l_2000000, l_4096, l_5001, l_5002, l_10000, l_10001, l_32768, l_60000, l_2147483647, zJ_lt, zJ_le, zJ_eq, zJ_add, zJ_sub, zJ_mul, zJ_neg, zJ_dv, t_I, t_Ie, t_R, t_Re, t_N, t_Nn, t_V, t_Ve, t_b, t_x, t_w, e_0, e_1, e_2, e_3, ↓t_0, ↓t_1, t_00, t_11, if_true, if_false, ite_not, not_false_eq_true, not_true_eq_false, Int.reduceEq, Int.reduceLT, Int.reduceLE, Int.reduceNeg, Nat.reduceEqDiff, Bool.false_eq_true, lg_ hL, g7, k1, k2]
        rw [q_L_isReel_478, hw, t_I]
        simp (disch := first | assumption | omega) only [↓reduceIte, l_0, l_1, l_2, l_3, l_4, l_5, l_6, l_7, l_8, l_9, l_10, l_12, l_16, l_24, l_31, l_32, l_48, l_96, l_99, l_100, l_150, l_180, l_200, l_240, l_255, l_260, l_384, l_400, l_999, l_5000, l_9999, l_1000000, l_1000000000, l_11, l_13, l_14, l_15, l_17, l_18, l_19, l_20, l_21, l_22, l_23, l_25, l_26, l_28, l_30, l_42, l_54, l_60, l_64, l_81, l_90, l_101, l_103, l_110, l_120, l_128, l_140, l_256, l_401, l_403, l_450, l_512, l_853, l_983, l_1000, l_1001, l_2048, l_3000000, l_2000000, l_4096, l_5001, l_5002, l_10000, l_10001, l_32768, l_60000, l_2147483647, zJ_lt, zJ_le, zJ_eq, zJ_add, zJ_sub, zJ_mul, zJ_neg, zJ_dv, t_I, t_Ie, t_R, t_Re, t_N, t_Nn, t_V, t_Ve, t_b, t_x, t_w, e_0, e_1, e_2, e_3, ↓t_0, ↓t_1, t_00, t_11, if_true, if_false, ite_not, not_false_eq_true, not_true_eq_false, Int.reduceEq, Int.reduceLT, Int.reduceLE, Int.reduceNeg, Nat.reduceEqDiff, Bool.false_eq_true, k3]
    · by_cases k3 : zwin X < 10 * -(p - zwin X)
      · refine ⟨0, .inr ⟨rfl, by rw [if_neg k2]; omega⟩, ?_⟩
        simp (disch := first | assumption | omega) only [↓reduceIte, l_0, l_1, l_2, l_3, l_4, l_5, l_6, l_7, l_8, l_9, l_10, l_12, l_16, l_24, l_31, l_32, l_48, l_96, l_99, l_100, l_150, l_180, l_200, l_240, l_255, l_260, l_384, l_400, l_999, l_5000, l_9999, l_1000000, l_1000000000, l_11, l_13, l_14, l_15, l_17, l_18, l_19, l_20, l_21, l_22, l_23, l_25, l_26, l_28, l_30, l_42, l_54, l_60, l_64, l_81, l_90, l_101, l_103, l_110, l_120, l_128, l_140, l_256, l_401, l_403, l_450, l_512, l_853, l_983, l_1000, l_1001, l_2048, l_3000000, l_2000000, l_4096, l_5001, l_5002, l_10000, l_10001, l_32768, l_60000, l_2147483647, zJ_lt, zJ_le, zJ_eq, zJ_add, zJ_sub, zJ_mul, zJ_neg, zJ_dv, t_I, t_Ie, t_R, t_Re, t_N, t_Nn, t_V, t_Ve, t_b, t_x, t_w, e_0, e_1, e_2, e_3, ↓t_0, ↓t_1, t_00, t_11, if_true, if_false, ite_not, not_false_eq_true, not_true_eq_false, Int.reduceEq, Int.reduceLT, Int.reduceLE, Int.reduceNeg, Nat.reduceEqDiff, Bool.false_eq_true, lg_ hL, g7, k1, k2]
        rw [q_L_isReel_478, hw, t_I]
        simp (disch := first | assumption | omega) only [↓reduceIte, l_0, l_1, l_2, l_3, l_4, l_5, l_6, l_7, l_8, l_9, l_10, l_12, l_16, l_24, l_31, l_32, l_48, l_96, l_99, l_100, l_150, l_180, l_200, l_240, l_255, l_260, l_384, l_400, l_999, l_5000, l_9999, l_1000000, l_1000000000, l_11, l_13, l_14, l_15, l_17, l_18, l_19, l_20, l_21, l_22, l_23, l_25, l_26, l_28, l_30, l_42, l_54, l_60, l_64, l_81, l_90, l_101, l_103, l_110, l_120, l_128, l_140, l_256, l_401, l_403, l_450, l_512, l_853, l_983, l_1000, l_1001, l_2048, l_3000000, l_2000000, l_4096, l_5001, l_5002, l_10000, l_10001, l_32768, l_60000, l_2147483647, zJ_lt, zJ_le, zJ_eq, zJ_add, zJ_sub, zJ_mul, zJ_neg, zJ_dv, t_I, t_Ie, t_R, t_Re, t_N, t_Nn, t_V, t_Ve, t_b, t_x, t_w, e_0, e_1, e_2, e_3, ↓t_0, ↓t_1, t_00, t_11, if_true, if_false, ite_not, not_false_eq_true, not_true_eq_false, Int.reduceEq, Int.reduceLT, Int.reduceLE, Int.reduceNeg, Nat.reduceEqDiff, Bool.false_eq_true, k3]
      · refine ⟨1, .inl ⟨rfl, by rw [if_neg k2]; omega⟩, ?_⟩
        simp (disch := first | assumption | omega) only [↓reduceIte, l_0, l_1, l_2, l_3, l_4, l_5, l_6, l_7, l_8, l_9, l_10, l_12, l_16, l_24, l_31, l_32, l_48, l_96, l_99, l_100, l_150, l_180, l_200, l_240, l_255, l_260, l_384, l_400, l_999, l_5000, l_9999, l_1000000, l_1000000000, l_11, l_13, l_14, l_15, l_17, l_18, l_19, l_20, l_21, l_22, l_23, l_25, l_26, l_28, l_30, l_42, l_54, l_60, l_64, l_81, l_90, l_101, l_103, l_110, l_120, l_128, l_140, l_256, l_401, l_403, l_450, l_512, l_853, l_983, l_1000, l_1001, l_2048, l_3000000, l_2000000, l_4096, l_5001, l_5002, l_10000, l_10001, l_32768, l_60000, l_2147483647, zJ_lt, zJ_le, zJ_eq, zJ_add, zJ_sub, zJ_mul, zJ_neg, zJ_dv, t_I, t_Ie, t_R, t_Re, t_N, t_Nn, t_V, t_Ve, t_b, t_x, t_w, e_0, e_1, e_2, e_3, ↓t_0, ↓t_1, t_00, t_11, if_true, if_false, ite_not, not_false_eq_true, not_true_eq_false, Int.reduceEq, Int.reduceLT, Int.reduceLE, Int.reduceNeg, Nat.reduceEqDiff, Bool.false_eq_true, lg_ hL, g7, k1, k2]
        rw [q_L_isReel_478, hw, t_I]
        simp (disch := first | assumption | omega) only [↓reduceIte, l_0, l_1, l_2, l_3, l_4, l_5, l_6, l_7, l_8, l_9, l_10, l_12, l_16, l_24, l_31, l_32, l_48, l_96, l_99, l_100, l_150, l_180, l_200, l_240, l_255, l_260, l_384, l_400, l_999, l_5000, l_9999, l_1000000, l_1000000000, l_11, l_13, l_14, l_15, l_17, l_18, l_19, l_20, l_21, l_22, l_23, l_25, l_26, l_28, l_30, l_42, l_54, l_60, l_64, l_81, l_90, l_101, l_103, l_110, l_120, l_128, l_140, l_256, l_401, l_403, l_450, l_512, l_853, l_983, l_1000, l_1001, l_2048, l_3000000, l_2000000, l_4096, l_5001, l_5002, l_10000, l_10001, l_32768, l_60000, l_2147483647, zJ_lt, zJ_le, zJ_eq, zJ_add, zJ_sub, zJ_mul, zJ_neg, zJ_dv, t_I, t_Ie, t_R, t_Re, t_N, t_Nn, t_V, t_Ve, t_b, t_x, t_w, e_0, e_1, e_2, e_3, ↓t_0, ↓t_1, t_00, t_11, if_true, if_false, ite_not, not_false_eq_true, not_true_eq_false, Int.reduceEq, Int.reduceLT, Int.reduceLE, Int.reduceNeg, Nat.reduceEqDiff, Bool.false_eq_true, k3]
theorem R_crimp (hZ : zLA G t Y n X) (ht : t < 1000) (h1 : 0 ≤ q ∧ q < 60000) (h2 : 0 ≤ r ∧ r < 60000) : zgL G t Y n s (ev_ G 219 247 [.ref (wA Y 13 0), .ref (wA Y 15 605), .ref (wA Y 15 606), .ref (wA Y 15 607), .ref (wA Y 15 608), .ref (wA Y 15 612), .ref (wA Y 15 613), .int (zJ 2), .int (zJ q), .int (zJ r), zU, zU, zU, zU, zU] [] (wd Y n s X)) := by
  have hZ' := hZ
  obtain ⟨hY, hG, hI, hK⟩ := hZ
  obtain ⟨pg, pb, pc, pw, pr, ph, ps, pf⟩ := id hK
  have hL := wY_A hY
  have h7 := hI.2.2.2.2.2.2.1
  unfold iD at h7
  obtain ⟨d1, d2, d3, d4, d5, d6⟩ := h7
  have g6 := pg.2.2.2.2.2.1
  have g7 := pg.2.2.2.2.2.2.1
  have h422 : 0 ≤ X 422 0 ∧ X 422 0 < 10000 := by omega
  obtain ⟨F, hF, s1⟩ : ∃ F : Int, (0 ≤ F ∧ F ≤ 10000) ∧ ev_ G 219 247 [.ref (wA Y 13 0), .ref (wA Y 15 605), .ref (wA Y 15 606), .ref (wA Y 15 607), .ref (wA Y 15 608), .ref (wA Y 15 612), .ref (wA Y 15 613), .int (zJ 2), .int (zJ q), .int (zJ r), zU, zU, zU, zU, zU] [] (wd Y n s X) = ev_ G 219 420 [.ref (wA Y 13 0), .ref (wA Y 15 605), .ref (wA Y 15 606), .ref (wA Y 15 607), .ref (wA Y 15 608), .ref (wA Y 15 612), .ref (wA Y 15 613), .int (zJ 2), .int (zJ q), .int (zJ r), zU, zU, zU, zU, zU] [.int (zJ F)] (wd Y n s X) := by
    rw [q_L_isReel_247]
    by_cases k1 : q % 9 = 0
    · refine ⟨r % 10001, by omega, ?_⟩
      simp (disch := first | assumption | omega) only [↓reduceIte, l_0, l_1, l_2, l_3, l_4, l_5, l_6, l_7, l_8, l_9, l_10, l_12, l_16, l_24, l_31, l_32, l_48, l_96, l_99, l_100, l_150, l_180, l_200, l_240, l_255, l_260, l_384, l_400, l_999, l_5000, l_9999, l_1000000, l_1000000000, l_11, l_13, l_14, l_15, l_17, l_18, l_19, l_20, l_21, l_22, l_23, l_25, l_26, l_28, l_30, l_42, l_54, l_60, l_64, l_81, l_90, l_101, l_103, l_110, l_120, l_128, l_140, l_256, l_401, l_403, l_450, l_512, l_853, l_983, l_1000, l_1001, l_2048, l_3000000, l_2000000, l_4096, l_5001, l_5002, l_10000, l_10001, l_32768, l_60000, l_2147483647, zJ_lt, zJ_le, zJ_eq, zJ_add, zJ_sub, zJ_mul, zJ_neg, zJ_dv, t_I, t_Ie, t_R, t_Re, t_N, t_Nn, t_V, t_Ve, t_b, t_x, t_w, e_0, e_1, e_2, e_3, ↓t_0, ↓t_1, t_00, t_11, if_true, if_false, ite_not, not_false_eq_true, not_true_eq_false, Int.reduceEq, Int.reduceLT, Int.reduceLE, Int.reduceNeg, Nat.reduceEqDiff, Bool.false_eq_true, zem, k1]
    · refine ⟨450 + r % 120, by omega, ?_⟩
      simp (disch := first | assumption | omega) only [↓reduceIte, l_0, l_1, l_2, l_3, l_4, l_5, l_6, l_7, l_8, l_9, l_10, l_12, l_16, l_24, l_31, l_32, l_48, l_96, l_99, l_100, l_150, l_180, l_200, l_240, l_255, l_260, l_384, l_400, l_999, l_5000, l_9999, l_1000000, l_1000000000, l_11, l_13, l_14, l_15, l_17, l_18, l_19, l_20, l_21, l_22, l_23, l_25, l_26, l_28, l_30, l_42, l_54, l_60, l_64, l_81, l_90, l_101, l_103, l_110, l_120, l_128, l_140, l_256, l_401, l_403, l_450, l_512, l_853, l_983, l_1000, l_1001, l_2048, l_3000000, l_2000000, l_4096, l_5001, l_5002, l_10000, l_10001, l_32768, l_60000, l_2147483647, zJ_lt, zJ_le, zJ_eq, zJ_add, zJ_sub, zJ_mul, zJ_neg, zJ_dv, t_I, t_Ie, t_R, t_Re, t_N, t_Nn, t_V, t_Ve, t_b, t_x, t_w, e_0, e_1, e_2, e_3, ↓t_0, ↓t_1, t_00, t_11, if_true, if_false, ite_not, not_false_eq_true, not_true_eq_false, Int.reduceEq, Int.reduceLT, Int.reduceLE, Int.reduceNeg, Nat.reduceEqDiff, Bool.false_eq_true, zem, k1]
  have s2 : ev_ G 219 420 [.ref (wA Y 13 0), .ref (wA Y 15 605), .ref (wA Y 15 606), .ref (wA Y 15 607), .ref (wA Y 15 608), .ref (wA Y 15 612), .ref (wA Y 15 613), .int (zJ 2), .int (zJ q), .int (zJ r), zU, zU, zU, zU, zU] [.int (zJ F)] (wd Y n s X) = ev_ G 219 440 [.ref (wA Y 13 0), .ref (wA Y 15 605), .ref (wA Y 15 606), .ref (wA Y 15 607), .ref (wA Y 15 608), .ref (wA Y 15 612), .ref (wA Y 15 613), .int (zJ 2), .int (zJ q), .int (zJ r), .int (zJ F), zU, zU, zU, zU] [.int (zJ (zB (1 ≤ F ∧ F ≤ 9999)))] (wd Y n s X) := by
    rw [q_L_isReel_420]
    by_cases k1 : F ≤ 0
    · rw [zB_0 (by omega)]
      simp (disch := first | assumption | omega) only [↓reduceIte, l_0, l_1, l_2, l_3, l_4, l_5, l_6, l_7, l_8, l_9, l_10, l_12, l_16, l_24, l_31, l_32, l_48, l_96, l_99, l_100, l_150, l_180, l_200, l_240, l_255, l_260, l_384, l_400, l_999, l_5000, l_9999, l_1000000, l_1000000000, l_11, l_13, l_14, l_15, l_17, l_18, l_19, l_20, l_21, l_22, l_23, l_25, l_26, l_28, l_30, l_42, l_54, l_60, l_64, l_81, l_90, l_101, l_103, l_110, l_120, l_128, l_140, l_256, l_401, l_403, l_450, l_512, l_853, l_983, l_1000, l_1001, l_2048, l_3000000, l_2000000, l_4096, l_5001, l_5002, l_10000, l_10001, l_32768, l_60000, l_2147483647, zJ_lt, zJ_le, zJ_eq, zJ_add, zJ_sub, zJ_mul, zJ_neg, zJ_dv, t_I, t_Ie, t_R, t_Re, t_N, t_Nn, t_V, t_Ve, t_b, t_x, t_w, e_0, e_1, e_2, e_3, ↓t_0, ↓t_1, t_00, t_11, if_true, if_false, ite_not, not_false_eq_true, not_true_eq_false, Int.reduceEq, Int.reduceLT, Int.reduceLE, Int.reduceNeg, Nat.reduceEqDiff, Bool.false_eq_true, k1]
    · by_cases k2 : 10000 ≤ F
      · rw [zB_0 (by omega)]
        simp (disch := first | assumption | omega) only [↓reduceIte, l_0, l_1, l_2, l_3, l_4, l_5, l_6, l_7, l_8, l_9, l_10, l_12, l_16, l_24, l_31, l_32, l_48, l_96, l_99, l_100, l_150, l_180, l_200, l_240, l_255, l_260, l_384, l_400, l_999, l_5000, l_9999, l_1000000, l_1000000000, l_11, l_13, l_14, l_15, l_17, l_18, l_19, l_20, l_21, l_22, l_23, l_25, l_26, l_28, l_30, l_42, l_54, l_60, l_64, l_81, l_90, l_101, l_103, l_110, l_120, l_128, l_140, l_256, l_401, l_403, l_450, l_512, l_853, l_983, l_1000, l_1001, l_2048, l_3000000, l_2000000, l_4096, l_5001, l_5002, l_10000, l_10001, l_32768, l_60000, l_2147483647, zJ_lt, zJ_le, zJ_eq, zJ_add, zJ_sub, zJ_mul, zJ_neg, zJ_dv, t_I, t_Ie, t_R, t_Re, t_N, t_Nn, t_V, t_Ve, t_b, t_x, t_w, e_0, e_1, e_2, e_3, ↓t_0, ↓t_1, t_00, t_11, if_true, if_false, ite_not, not_false_eq_true, not_true_eq_false, Int.reduceEq, Int.reduceLT, Int.reduceLE, Int.reduceNeg, Nat.reduceEqDiff, Bool.false_eq_true, k1, k2]
      · rw [zB_1 (by omega)]
        simp (disch := first | assumption | omega) only [↓reduceIte, l_0, l_1, l_2, l_3, l_4, l_5, l_6, l_7, l_8, l_9, l_10, l_12, l_16, l_24, l_31, l_32, l_48, l_96, l_99, l_100, l_150, l_180, l_200, l_240, l_255, l_260, l_384, l_400, l_999, l_5000, l_9999, l_1000000, l_1000000000, l_11, l_13, l_14, l_15, l_17, l_18, l_19, l_20, l_21, l_22, l_23, l_25, l_26, l_28, l_30, l_42, l_54, l_60, l_64, l_81, l_90, l_101, l_103, l_110, l_120, l_128, l_140, l_256, l_401, l_403, l_450, l_512, l_853, l_983, l_1000, l_1001, l_2048, l_3000000, l_2000000, l_4096, l_5001, l_5002, l_10000, l_10001, l_32768, l_60000, l_2147483647, zJ_lt, zJ_le, zJ_eq, zJ_add, zJ_sub, zJ_mul, zJ_neg, zJ_dv, t_I, t_Ie, t_R, t_Re, t_N, t_Nn, t_V, t_Ve, t_b, t_x, t_w, e_0, e_1, e_2, e_3, ↓t_0, ↓t_1, t_00, t_11, if_true, if_false, ite_not, not_false_eq_true, not_true_eq_false, Int.reduceEq, Int.reduceLT, Int.reduceLE, Int.reduceNeg, Nat.reduceEqDiff, Bool.false_eq_true, k1, k2]
  obtain ⟨J, hJ, s3⟩ := R_440 (s := s) (q := q) (r := r) (c := zB (1 ≤ F ∧ F ≤ 9999)) hZ' ht hF
  rw [s1, s2, s3]
  by_cases kA : 1 ≤ F ∧ F ≤ 9999
  · rw [zB_1 kA, q_L_isReel_494]
    simp (disch := first | assumption | omega) only [↓reduceIte, l_0, l_1, l_2, l_3, l_4, l_5, l_6, l_7, l_8, l_9, l_10, l_12, l_16, l_24, l_31, l_32, l_48, l_96, l_99, l_100, l_150, l_180, l_200, l_240, l_255, l_260, l_384, l_400, l_999, l_5000, l_9999, l_1000000, l_1000000000, l_11, l_13, l_14, l_15, l_17, l_18, l_19, l_20, l_21, l_22, l_23, l_25, l_26, l_28, l_30, l_42, l_54, l_60, l_64, l_81, l_90, l_101, l_103, l_110, l_120, l_128, l_140, l_256, l_401, l_403, l_450, l_512, l_853, l_983, l_1000, l_1001, l_2048, l_3000000, l_2000000, l_4096, l_5001, l_5002, l_10000, l_10001, l_32768, l_60000, l_2147483647, zJ_lt, zJ_le, zJ_eq, zJ_add, zJ_sub, zJ_mul, zJ_neg, zJ_dv, t_I, t_Ie, t_R, t_Re, t_N, t_Nn, t_V, t_Ve, t_b, t_x, t_w, e_0, e_1, e_2, e_3, ↓t_0, ↓t_1, t_00, t_11, if_true, if_false, ite_not, not_false_eq_true, not_true_eq_false, Int.reduceEq, Int.reduceLT, Int.reduceLE, Int.reduceNeg, Nat.reduceEqDiff, Bool.false_eq_true, lg_ hL, g6]
    rw [q_L_isReel_512]
    rcases hJ with ⟨rfl, hj⟩ | ⟨rfl, hj⟩
    · simp (disch := first | assumption | omega) only [↓reduceIte, l_0, l_1, l_2, l_3, l_4, l_5, l_6, l_7, l_8, l_9, l_10, l_12, l_16, l_24, l_31, l_32, l_48, l_96, l_99, l_100, l_150, l_180, l_200, l_240, l_255, l_260, l_384, l_400, l_999, l_5000, l_9999, l_1000000, l_1000000000, l_11, l_13, l_14, l_15, l_17, l_18, l_19, l_20, l_21, l_22, l_23, l_25, l_26, l_28, l_30, l_42, l_54, l_60, l_64, l_81, l_90, l_101, l_103, l_110, l_120, l_128, l_140, l_256, l_401, l_403, l_450, l_512, l_853, l_983, l_1000, l_1001, l_2048, l_3000000, l_2000000, l_4096, l_5001, l_5002, l_10000, l_10001, l_32768, l_60000, l_2147483647, zJ_lt, zJ_le, zJ_eq, zJ_add, zJ_sub, zJ_mul, zJ_neg, zJ_dv, t_I, t_Ie, t_R, t_Re, t_N, t_Nn, t_V, t_Ve, t_b, t_x, t_w, e_0, e_1, e_2, e_3, ↓t_0, ↓t_1, t_00, t_11, if_true, if_false, ite_not, not_false_eq_true, not_true_eq_false, Int.reduceEq, Int.reduceLT, Int.reduceLE, Int.reduceNeg, Nat.reduceEqDiff, Bool.false_eq_true, zem, lg_ hL, g7, sg_ hL, sf_ hL, wu_ne, wu_ni]
      generalize hX' : wu (wu (wu X 1113 6 (X 421 0 + 1)) 1112 (X 422 0 % 8) F) 1113 7 (X 422 0 + 1) = X'
      have sX : zsame [1112, 1113] X X' := by
        rw [← hX']
        exact same_u (by decide) (same_u (by decide) (same_u (by decide) same_r))
      have gl : ∀ f, f < 1100 → X' f = X f := fun f hf => sX f (by simp; omega)
      have hI' := iAll_l gl hY.2.2.2.1.2 hY.2.2.2.2.2.1.2 hI
      rw [q_L_isReel_546]
      refine zgL_d hG (by rw [l_0, l_7]; exact d_crimp hY hG hI' ht (by omega)) (fun Y2 n2 m2 X2 code ans v hD h0 hE hl hY2 hG2 hI2 hle => ?_)
      unfold dCrimp at hD
      rw [zjd_c (gl 101 (by decide)) (gl 505 (by decide)), gl 421 (by decide), gl 422 (by decide), gl 1023 (by decide)] at hD
      obtain ⟨ev, eS, -⟩ := (zd1_v hD h0 hE).2 kA
      obtain ⟨e1, e2, e3, e4, e7⟩ := eS hj
      have s2 := same_t (same_m (F := [1112, 1113, 100, 101, 505, 103, 444, 421, 1023, 422]) sX (by decide)) (same_m e7 (by decide))
      have g13 : ∀ j, X2 1113 j = if j = 7 then X 422 0 + 1 else if j = 6 then X 421 0 + 1 else X 1113 j := fun j => by
        rw [hl 1113 (by decide), ← hX', wu_v, wu_ne (by decide), wu_v]
      have z := fun f (hf : f ∉ _) => congrFun (s2 f hf) 0
      refine ⟨⟨?_, pB_c pb (same_g s2 (by decide)), pC_c pc (same_g s2 (by decide)), pW_c pw (same_g s2 (by decide)), pR_c pr (same_g s2 (by decide)), pH_c ph (same_g s2 (by decide)), pS_c ps (same_g s2 (by decide)), ?_⟩, fun _ => ?_⟩
      · refine pG_v pg ?_ ?_ ?_ ?_ ?_ ?_ ?_ ?_
        · rw [g13, if_neg (by decide), if_neg (by decide), z 400 (by decide), pg.1]
        · rw [g13, if_neg (by decide), if_neg (by decide), z 405 (by decide), pg.2.1]
        · rw [g13, if_neg (by decide), if_neg (by decide), z 410 (by decide), pg.2.2.1]
        · rw [g13, if_neg (by decide), if_neg (by decide), z 425 (by decide), pg.2.2.2.1]
        · rw [g13, if_neg (by decide), if_neg (by decide), z 434 (by decide), pg.2.2.2.2.1]
        · rw [g13, if_neg (by decide), if_pos rfl, e2]
        · rw [g13, if_pos rfl, e3]
        · rw [z 434 (by decide)]
          exact pg.2.2.2.2.2.2.2
      · intro k k0 k1
        rw [hl 1112 (by decide), ← hX', wu_ne (by decide), wu_v, wu_ne (by decide), e4, pf k k0 k1]
      · simp (disch := first | assumption | omega) only [↓reduceIte, l_0, l_1, l_2, l_3, l_4, l_5, l_6, l_7, l_8, l_9, l_10, l_12, l_16, l_24, l_31, l_32, l_48, l_96, l_99, l_100, l_150, l_180, l_200, l_240, l_255, l_260, l_384, l_400, l_999, l_5000, l_9999, l_1000000, l_1000000000, l_11, l_13, l_14, l_15, l_17, l_18, l_19, l_20, l_21, l_22, l_23, l_25, l_26, l_28, l_30, l_42, l_54, l_60, l_64, l_81, l_90, l_101, l_103, l_110, l_120, l_128, l_140, l_256, l_401, l_403, l_450, l_512, l_853, l_983, l_1000, l_1001, l_2048, l_3000000, l_2000000, l_4096, l_5001, l_5002, l_10000, l_10001, l_32768, l_60000, l_2147483647, zJ_lt, zJ_le, zJ_eq, zJ_add, zJ_sub, zJ_mul, zJ_neg, zJ_dv, t_I, t_Ie, t_R, t_Re, t_N, t_Nn, t_V, t_Ve, t_b, t_x, t_w, e_0, e_1, e_2, e_3, ↓t_0, ↓t_1, t_00, t_11, if_true, if_false, ite_not, not_false_eq_true, not_true_eq_false, Int.reduceEq, Int.reduceLT, Int.reduceLE, Int.reduceNeg, Nat.reduceEqDiff, Bool.false_eq_true, ev, e1]
    · simp (disch := first | assumption | omega) only [↓reduceIte, l_0, l_1, l_2, l_3, l_4, l_5, l_6, l_7, l_8, l_9, l_10, l_12, l_16, l_24, l_31, l_32, l_48, l_96, l_99, l_100, l_150, l_180, l_200, l_240, l_255, l_260, l_384, l_400, l_999, l_5000, l_9999, l_1000000, l_1000000000, l_11, l_13, l_14, l_15, l_17, l_18, l_19, l_20, l_21, l_22, l_23, l_25, l_26, l_28, l_30, l_42, l_54, l_60, l_64, l_81, l_90, l_101, l_103, l_110, l_120, l_128, l_140, l_256, l_401, l_403, l_450, l_512, l_853, l_983, l_1000, l_1001, l_2048, l_3000000, l_2000000, l_4096, l_5001, l_5002, l_10000, l_10001, l_32768, l_60000, l_2147483647, zJ_lt, zJ_le, zJ_eq, zJ_add, zJ_sub, zJ_mul, zJ_neg, zJ_dv, t_I, t_Ie, t_R, t_Re, t_N, t_Nn, t_V, t_Ve, t_b, t_x, t_w, e_0, e_1, e_2, e_3, ↓t_0, ↓t_1, t_00, t_11, if_true, if_false, ite_not, not_false_eq_true, not_true_eq_false, Int.reduceEq, Int.reduceLT, Int.reduceLE, Int.reduceNeg, Nat.reduceEqDiff, Bool.false_eq_true, lg_ hL, g7, sg_ hL, sf_ hL, wu_ne]
      generalize hX' : wu X 1113 6 (X 421 0 + 1) = X'
      have sX : zsame [1113] X X' := by
        rw [← hX']
        exact same_u (by decide) same_r
      have gl : ∀ f, f < 1100 → X' f = X f := fun f hf => sX f (by simp; omega)
      have hI' := iAll_l gl hY.2.2.2.1.2 hY.2.2.2.2.2.1.2 hI
      rw [q_L_isReel_546]
      refine zgL_d hG (by rw [l_0, l_7]; exact d_crimp hY hG hI' ht (by omega)) (fun Y2 n2 m2 X2 code ans v hD h0 hE hl hY2 hG2 hI2 hle => ?_)
      unfold dCrimp at hD
      rw [zjd_c (gl 101 (by decide)) (gl 505 (by decide)), gl 421 (by decide)] at hD
      obtain ⟨ev, -, eS⟩ := (zd1_v hD h0 hE).2 kA
      obtain ⟨e1, e2, e7⟩ := eS hj
      have s2 := same_t (same_m (F := [1113, 100, 444, 421]) sX (by decide)) (same_m e7 (by decide))
      have g13 : ∀ j, X2 1113 j = if j = 6 then X 421 0 + 1 else X 1113 j := fun j => by
        rw [hl 1113 (by decide), ← hX', wu_v]
      have z := fun f (hf : f ∉ _) => congrFun (s2 f hf) 0
      refine ⟨⟨?_, pB_c pb (same_g s2 (by decide)), pC_c pc (same_g s2 (by decide)), pW_c pw (same_g s2 (by decide)), pR_c pr (same_g s2 (by decide)), pH_c ph (same_g s2 (by decide)), pS_c ps (same_g s2 (by decide)), pF_c pf (same_g s2 (by decide))⟩, fun _ => ?_⟩
      ·
        refine pG_v pg ?_ ?_ ?_ ?_ ?_ ?_ ?_ ?_
        · rw [g13, if_neg (by decide), z 400 (by decide), pg.1]
        · rw [g13, if_neg (by decide), z 405 (by decide), pg.2.1]
        · rw [g13, if_neg (by decide), z 410 (by decide), pg.2.2.1]
        · rw [g13, if_neg (by decide), z 425 (by decide), pg.2.2.2.1]
        · rw [g13, if_neg (by decide), z 434 (by decide), pg.2.2.2.2.1]
        · rw [g13, if_pos rfl, e2]
        · rw [g13, if_neg (by decide), z 422 (by decide), pg.2.2.2.2.2.2.1]
        · rw [z 434 (by decide)]
          exact pg.2.2.2.2.2.2.2
      · simp (disch := first | assumption | omega) only [↓reduceIte, l_0, l_1, l_2, l_3, l_4, l_5, l_6, l_7, l_8, l_9, l_10, l_12, l_16, l_24, l_31, l_32, l_48, l_96, l_99, l_100, l_150, l_180, l_200, l_240, l_255, l_260, l_384, l_400, l_999, l_5000, l_9999, l_1000000, l_1000000000, l_11, l_13, l_14, l_15, l_17, l_18, l_19, l_20, l_21, l_22, l_23, l_25, l_26, l_28, l_30, l_42, l_54, l_60, l_64, l_81, l_90, l_101, l_103, l_110, l_120, l_128, l_140, l_256, l_401, l_403, l_450, l_512, l_853, l_983, l_1000, l_1001, l_2048, l_3000000, l_2000000, l_4096, l_5001, l_5002, l_10000, l_10001, l_32768, l_60000, l_2147483647, zJ_lt, zJ_le, zJ_eq, zJ_add, zJ_sub, zJ_mul, zJ_neg, zJ_dv, t_I, t_Ie, t_R, t_Re, t_N, t_Nn, t_V, t_Ve, t_b, t_x, t_w, e_0, e_1, e_2, e_3, ↓t_0, ↓t_1, t_00, t_11, if_true, if_false, ite_not, not_false_eq_true, not_true_eq_false, Int.reduceEq, Int.reduceLT, Int.reduceLE, Int.reduceNeg, Nat.reduceEqDiff, Bool.false_eq_true, ev, e1]
  · rw [zB_0 kA, q_L_isReel_494]
    simp (disch := first | assumption | omega) only [↓reduceIte, l_0, l_1, l_2, l_3, l_4, l_5, l_6, l_7, l_8, l_9, l_10, l_12, l_16, l_24, l_31, l_32, l_48, l_96, l_99, l_100, l_150, l_180, l_200, l_240, l_255, l_260, l_384, l_400, l_999, l_5000, l_9999, l_1000000, l_1000000000, l_11, l_13, l_14, l_15, l_17, l_18, l_19, l_20, l_21, l_22, l_23, l_25, l_26, l_28, l_30, l_42, l_54, l_60, l_64, l_81, l_90, l_101, l_103, l_110, l_120, l_128, l_140, l_256, l_401, l_403, l_450, l_512, l_853, l_983, l_1000, l_1001, l_2048, l_3000000, l_2000000, l_4096, l_5001, l_5002, l_10000, l_10001, l_32768, l_60000, l_2147483647, zJ_lt, zJ_le, zJ_eq, zJ_add, zJ_sub, zJ_mul, zJ_neg, zJ_dv, t_I, t_Ie, t_R, t_Re, t_N, t_Nn, t_V, t_Ve, t_b, t_x, t_w, e_0, e_1, e_2, e_3, ↓t_0, ↓t_1, t_00, t_11, if_true, if_false, ite_not, not_false_eq_true, not_true_eq_false, Int.reduceEq, Int.reduceLT, Int.reduceLE, Int.reduceNeg, Nat.reduceEqDiff, Bool.false_eq_true, lg_ hL, g6]
    rw [q_L_isReel_512]
    simp (disch := first | assumption | omega) only [↓reduceIte, l_0, l_1, l_2, l_3, l_4, l_5, l_6, l_7, l_8, l_9, l_10, l_12, l_16, l_24, l_31, l_32, l_48, l_96, l_99, l_100, l_150, l_180, l_200, l_240, l_255, l_260, l_384, l_400, l_999, l_5000, l_9999, l_1000000, l_1000000000, l_11, l_13, l_14, l_15, l_17, l_18, l_19, l_20, l_21, l_22, l_23, l_25, l_26, l_28, l_30, l_42, l_54, l_60, l_64, l_81, l_90, l_101, l_103, l_110, l_120, l_128, l_140, l_256, l_401, l_403, l_450, l_512, l_853, l_983, l_1000, l_1001, l_2048, l_3000000, l_2000000, l_4096, l_5001, l_5002, l_10000, l_10001, l_32768, l_60000, l_2147483647, zJ_lt, zJ_le, zJ_eq, zJ_add, zJ_sub, zJ_mul, zJ_neg, zJ_dv, t_I, t_Ie, t_R, t_Re, t_N, t_Nn, t_V, t_Ve, t_b, t_x, t_w, e_0, e_1, e_2, e_3, ↓t_0, ↓t_1, t_00, t_11, if_true, if_false, ite_not, not_false_eq_true, not_true_eq_false, Int.reduceEq, Int.reduceLT, Int.reduceLE, Int.reduceNeg, Nat.reduceEqDiff, Bool.false_eq_true, sg_ hL, Int.add_zero]
    have hX' : wu X 1113 6 (X 421 0) = X := by
      rw [← g6]
      exact wu_self
    rw [hX', q_L_isReel_546]
    refine zgL_d hG (by rw [l_0, l_7]; exact d_crimp hY hG hI ht (by omega)) (fun Y2 n2 m2 X2 code ans v hD h0 hE hl hY2 hG2 hI2 hle => ?_)
    unfold dCrimp at hD
    obtain ⟨ev, e1⟩ := (zd1_v hD h0 hE).1 kA
    refine ⟨pK_s e1 (by decide) hK, fun _ => ?_⟩
    simp (disch := first | assumption | omega) only [↓reduceIte, l_0, l_1, l_2, l_3, l_4, l_5, l_6, l_7, l_8, l_9, l_10, l_12, l_16, l_24, l_31, l_32, l_48, l_96, l_99, l_100, l_150, l_180, l_200, l_240, l_255, l_260, l_384, l_400, l_999, l_5000, l_9999, l_1000000, l_1000000000, l_11, l_13, l_14, l_15, l_17, l_18, l_19, l_20, l_21, l_22, l_23, l_25, l_26, l_28, l_30, l_42, l_54, l_60, l_64, l_81, l_90, l_101, l_103, l_110, l_120, l_128, l_140, l_256, l_401, l_403, l_450, l_512, l_853, l_983, l_1000, l_1001, l_2048, l_3000000, l_2000000, l_4096, l_5001, l_5002, l_10000, l_10001, l_32768, l_60000, l_2147483647, zJ_lt, zJ_le, zJ_eq, zJ_add, zJ_sub, zJ_mul, zJ_neg, zJ_dv, t_I, t_Ie, t_R, t_Re, t_N, t_Nn, t_V, t_Ve, t_b, t_x, t_w, e_0, e_1, e_2, e_3, ↓t_0, ↓t_1, t_00, t_11, if_true, if_false, ite_not, not_false_eq_true, not_true_eq_false, Int.reduceEq, Int.reduceLT, Int.reduceLE, Int.reduceNeg, Nat.reduceEqDiff, Bool.false_eq_true, ev, zrv_1]
theorem R_all (hZ : zLA G t Y n X) (ht : t < 1000) (hk : 0 ≤ k ∧ k ≤ 2) (h1 : 0 ≤ q ∧ q < 60000) (h2 : 0 ≤ r ∧ r < 60000) : zgL G t Y n s (ev_ G 219 0 [.ref (wA Y 13 0), .ref (wA Y 15 605), .ref (wA Y 15 606), .ref (wA Y 15 607), .ref (wA Y 15 608), .ref (wA Y 15 612), .ref (wA Y 15 613), .int (zJ k), .int (zJ q), .int (zJ r), zU, zU, zU, zU, zU] [] (wd Y n s X)) := by
  have hL := wY_A hZ.1
  have pg := hZ.2.2.2.1
  have h400 : 0 ≤ X 425 0 ∧ X 425 0 ≤ 12 := by
    have := hZ.2.2.1.2.2.2.2.2.2.2.1.1
    have := hZ.1.2.2.2.2.1
    omega
  have : k = 0 ∨ k = 1 ∨ k = 2 := by omega
  rcases this with rfl | rfl | rfl
  · by_cases hc : X 425 0 < 12
    · exact R_reel hZ h1 h2 hc
    · have e1 : 12 ≤ X 425 0 := by omega
      rw [q_L_isReel_0]
      simp (disch := first | assumption | omega) only [↓reduceIte, l_0, l_1, l_2, l_3, l_4, l_5, l_6, l_7, l_8, l_9, l_10, l_12, l_16, l_24, l_31, l_32, l_48, l_96, l_99, l_100, l_150, l_180, l_200, l_240, l_255, l_260, l_384, l_400, l_999, l_5000, l_9999, l_1000000, l_1000000000, l_11, l_13, l_14, l_15, l_17, l_18, l_19, l_20, l_21, l_22, l_23, l_25, l_26, l_28, l_30, l_42, l_54, l_60, l_64, l_81, l_90, l_101, l_103, l_110, l_120, l_128, l_140, l_256, l_401, l_403, l_450, l_512, l_853, l_983, l_1000, l_1001, l_2048, l_3000000, l_2000000, l_4096, l_5001, l_5002, l_10000, l_10001, l_32768, l_60000, l_2147483647, zJ_lt, zJ_le, zJ_eq, zJ_add, zJ_sub, zJ_mul, zJ_neg, zJ_dv, t_I, t_Ie, t_R, t_Re, t_N, t_Nn, t_V, t_Ve, t_b, t_x, t_w, e_0, e_1, e_2, e_3, ↓t_0, ↓t_1, t_00, t_11, if_true, if_false, ite_not, not_false_eq_true, not_true_eq_false, Int.reduceEq, Int.reduceLT, Int.reduceLE, Int.reduceNeg, Nat.reduceEqDiff, Bool.false_eq_true, lg_ hL, pg.2.2.2.1, e1]
      exact R_open hZ (by decide) h1 h2
  · rw [q_L_isReel_0]
    simp (disch := first | assumption | omega) only [↓reduceIte, l_0, l_1, l_2, l_3, l_4, l_5, l_6, l_7, l_8, l_9, l_10, l_12, l_16, l_24, l_31, l_32, l_48, l_96, l_99, l_100, l_150, l_180, l_200, l_240, l_255, l_260, l_384, l_400, l_999, l_5000, l_9999, l_1000000, l_1000000000, l_11, l_13, l_14, l_15, l_17, l_18, l_19, l_20, l_21, l_22, l_23, l_25, l_26, l_28, l_30, l_42, l_54, l_60, l_64, l_81, l_90, l_101, l_103, l_110, l_120, l_128, l_140, l_256, l_401, l_403, l_450, l_512, l_853, l_983, l_1000, l_1001, l_2048, l_3000000, l_2000000, l_4096, l_5001, l_5002, l_10000, l_10001, l_32768, l_60000, l_2147483647, zJ_lt, zJ_le, zJ_eq, zJ_add, zJ_sub, zJ_mul, zJ_neg, zJ_dv, t_I, t_Ie, t_R, t_Re, t_N, t_Nn, t_V, t_Ve, t_b, t_x, t_w, e_0, e_1, e_2, e_3, ↓t_0, ↓t_1, t_00, t_11, if_true, if_false, ite_not, not_false_eq_true, not_true_eq_false, Int.reduceEq, Int.reduceLT, Int.reduceLE, Int.reduceNeg, Nat.reduceEqDiff, Bool.false_eq_true]
    exact R_open hZ (by decide) h1 h2
  · rw [q_L_isReel_0]
    simp (disch := first | assumption | omega) only [↓reduceIte, l_0, l_1, l_2, l_3, l_4, l_5, l_6, l_7, l_8, l_9, l_10, l_12, l_16, l_24, l_31, l_32, l_48, l_96, l_99, l_100, l_150, l_180, l_200, l_240, l_255, l_260, l_384, l_400, l_999, l_5000, l_9999, l_1000000, l_1000000000, l_11, l_13, l_14, l_15, l_17, l_18, l_19, l_20, l_21, l_22, l_23, l_25, l_26, l_28, l_30, l_42, l_54, l_60, l_64, l_81, l_90, l_101, l_103, l_110, l_120, l_128, l_140, l_256, l_401, l_403, l_450, l_512, l_853, l_983, l_1000, l_1001, l_2048, l_3000000, l_2000000, l_4096, l_5001, l_5002, l_10000, l_10001, l_32768, l_60000, l_2147483647, zJ_lt, zJ_le, zJ_eq, zJ_add, zJ_sub, zJ_mul, zJ_neg, zJ_dv, t_I, t_Ie, t_R, t_Re, t_N, t_Nn, t_V, t_Ve, t_b, t_x, t_w, e_0, e_1, e_2, e_3, ↓t_0, ↓t_1, t_00, t_11, if_true, if_false, ite_not, not_false_eq_true, not_true_eq_false, Int.reduceEq, Int.reduceLT, Int.reduceLE, Int.reduceNeg, Nat.reduceEqDiff, Bool.false_eq_true]
    exact R_crimp hZ ht h1 h2
end ZL
