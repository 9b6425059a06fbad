/-! THE LAW, 11b: a wire -/
theorem or_0 {a : Int} : zJ a ||| zJ 0 = zJ a := Int32.or_zero
section ZW
variable {Y : zLy} {n s a : Nat} {X : zX} {G : Nat × Nat} {gl best d nb T i k : Int} {B : Int → Int} {v b : Nat → Int} {L : Nat}
/-- a way takes no bundle twice -/
theorem zwB_ne (h : zwB X nb gl B v b L) (hl : ∀ i, 0 ≤ i → i < nb → 1 ≤ X 1003 i ∧ X 1003 i ≤ 999) : ∀ i j : Nat, i < j → j < L → b i ≠ b j := by
  intro i j hij hj he
  have h3 := h.2.2.2.2.2.2
  obtain ⟨-, -, l3, -, l5⟩ := h3 i (by omega)
  obtain ⟨-, -, m3, -, m5⟩ := h3 j hj
  have d1 := zwB_dec h hl (j - i - 1) i (by omega)
  have d2 := zwB_dec h hl (j - i) i (by omega)
  rw [show i + (j - i - 1) + 1 = j by omega] at d1
  rw [show i + (j - i) + 1 = j + 1 by omega] at d2
  have n1 : v i ≠ v j := fun g => by rw [g] at d1; omega
  have n2 : v i ≠ v (j + 1) := fun g => by rw [g] at d2; omega
  have l31 := l3.1
  have m31 := m3.1
  rw [← l5] at l31
  rw [← m5] at m31
  rw [he] at l5
  rcases @zac_c (X 1001 (b j)) (X 1002 (b j)) (v i) with g | ⟨g, g'⟩ | ⟨g, g'⟩ <;> rcases @zac_c (X 1001 (b j)) (X 1002 (b j)) (v j) with k | ⟨k, k'⟩ | ⟨k, k'⟩ <;> rw [← l5] at * <;> rw [← m5] at * <;> omega
end ZW
section ZL
variable {Y : zLy} {n s : Nat} {X : zX} {G : Nat × Nat} {X' : zX} {t p q r k j f o u z A F c : Int} {E : List Int}
theorem H_750 (hZ : zLA G t Y n X) (h1 : 0 ≤ q ∧ q < 60000) (h2 : 0 ≤ r ∧ r < 60000) (hf : 0 ≤ f ∧ f ≤ X 405 0) (ho : 0 ≤ o ∧ o ≤ X 405 0) (h24 : X 410 0 < 24) : ∃ (p u z A F : Int), (0 ≤ p ∧ p ≤ 5) ∧ (0 ≤ u ∧ u ≤ 5) ∧ (0 ≤ z ∧ z ≤ 8) ∧ ((A = 1 ∧ zcv X f p ∧ zcv X o u) ∨ (A = 0 ∧ ¬(zcv X f p ∧ zcv X o u))) ∧ ((F = 1 ∧ f ≠ o ∧ z ≤ 7) ∨ (F = 0 ∧ ¬(f ≠ o ∧ z ≤ 7))) ∧ ev_ G 218 517 [.ref (wA Y 13 0), .ref (wA Y 15 600), .ref (wA Y 15 601), .ref (wA Y 15 602), .ref (wA Y 15 603), .ref (wA Y 15 604), .ref (wA Y 15 613), .int (zJ 3), .int (zJ q), .int (zJ r), .int (zJ f), .int (zJ o), zU, zU, zU, zU, zU, zU, zU, zU, zU, zU, zU, zU] [.int (zJ (zB (f < X 405 0 ∧ o < X 405 0)))] (wd Y n s X) = ev_ G 218 799 [.ref (wA Y 13 0), .ref (wA Y 15 600), .ref (wA Y 15 601), .ref (wA Y 15 602), .ref (wA Y 15 603), .ref (wA Y 15 604), .ref (wA Y 15 613), .int (zJ 3), .int (zJ q), .int (zJ r), .int (zJ f), .int (zJ o), .int (zJ A), .int (zJ p), .int (zJ u), .int (zJ z), .int (zJ F), .int (zJ (8 * f + p)), .int (zJ (8 * o + u)), .int (zJ 1), .int (zJ 0), zU, zU, zU] [] (wd Y n s X) := by
  have hZ' := hZ
  obtain ⟨hY, hG, hI, hK⟩ := hZ
  obtain ⟨pg, pb, pc, pw, pr, ph, ps, pf⟩ := id hK
  have hL := wY_A hY
  have hn1 : 0 ≤ X 405 0 ∧ X 405 0 ≤ 8 := by
    have := hI.2.1.1
    have := hY.2.2.1
    omega
  have hn2 : 0 ≤ X 410 0 := by
    have := hI.2.2.2.1.1
    have := hY.2.2.2.1
    omega
  have m24 : ¬24 ≤ X 410 0 := by omega
  obtain ⟨A, hA, s1⟩ : ∃ A : Int, ((A = 1 ∧ zcv X f (q / 9 % 6) ∧ zcv X o (r / 9 % 6)) ∨ (A = 0 ∧ ¬(zcv X f (q / 9 % 6) ∧ zcv X o (r / 9 % 6)))) ∧ ev_ G 218 517 [.ref (wA Y 13 0), .ref (wA Y 15 600), .ref (wA Y 15 601), .ref (wA Y 15 602), .ref (wA Y 15 603), .ref (wA Y 15 604), .ref (wA Y 15 613), .int (zJ 3), .int (zJ q), .int (zJ r), .int (zJ f), .int (zJ o), zU, zU, zU, zU, zU, zU, zU, zU, zU, zU, zU, zU] [.int (zJ (zB (f < X 405 0 ∧ o < X 405 0)))] (wd Y n s X) = ev_ G 218 750 [.ref (wA Y 13 0), .ref (wA Y 15 600), .ref (wA Y 15 601), .ref (wA Y 15 602), .ref (wA Y 15 603), .ref (wA Y 15 604), .ref (wA Y 15 613), .int (zJ 3), .int (zJ q), .int (zJ r), .int (zJ f), .int (zJ o), .int (zJ (zB (f < X 405 0 ∧ o < X 405 0))), .int (zJ (q / 9 % 6)), .int (zJ (r / 9 % 6)), .int (zJ (r / 54 % 9)), zU, zU, zU, zU, zU, zU, zU, zU] [.int (zJ A)] (wd Y n s X) := by
    unfold zcv
    by_cases kA : f < X 405 0 ∧ o < X 405 0
    · obtain ⟨-, f1, f2, f3, f4, f5, f6, f7, f8, f9, f10, f11⟩ := pC_r hZ' (k := f) ⟨hf.1, kA.1⟩
      obtain ⟨-, o1, o2, o3, o4, o5, o6, o7, o8, o9, o10, o11⟩ := pC_r hZ' (k := o) ⟨ho.1, kA.2⟩
      rw [zB_1 kA]
      by_cases k1 : X 1007 f ≤ q / 9 % 6
      · refine ⟨0, .inr ⟨rfl, by omega⟩, ?_⟩
        rw [q_L_isHarness_517]
        simp (disch := first | assumption | omega) only [↓reduceIte, l_0, l_1, l_2, l_3, l_4, l_5, l_6, l_7, l_8, l_9, l_10, l_12, l_16, l_24, l_31, l_32, l_48, l_96, l_99, l_100, l_150, l_180, l_200, l_240, l_255, l_260, l_384, l_400, l_999, l_5000, l_9999, l_1000000, l_1000000000, l_11, l_13, l_14, l_15, l_17, l_18, l_19, l_20, l_21, l_22, l_23, l_25, l_26, l_28, l_30, l_34, l_38, l_42, l_44, l_54, l_60, l_64, l_81, l_90, l_101, l_103, l_110, l_120, l_128, l_140, l_256, l_401, l_403, l_450, l_512, l_853, l_983, l_1000, l_1001, l_2048, l_3000000, l_2000000, l_4096, l_5001, l_5002, l_10000, l_10001, l_32767, l_32768, l_60000, l_2147483647, zJ_lt, zJ_le, zJ_eq, zJ_add, zJ_sub, zJ_mul, zJ_neg, zJ_dv, t_I, t_Ie, t_R, t_Re, t_N, t_Nn, t_V, t_Ve, t_b, t_x, t_w, e_0, e_1, e_2, e_3, ↓t_0, ↓t_1, t_00, t_11, if_true, if_false, ite_not, not_false_eq_true, not_true_eq_false, Int.reduceEq, Int.reduceLT, Int.reduceLE, Int.reduceNeg, Nat.reduceEqDiff, Bool.false_eq_true, zem, lg_ hL, pg.2.2.1, m24, lc_ hL, f3, k1]
      · by_cases k2 : X 1007 o ≤ r / 9 % 6
        · refine ⟨0, .inr ⟨rfl, by omega⟩, ?_⟩
          rw [q_L_isHarness_517]
          simp (disch := first | assumption | omega) only [↓reduceIte, l_0, l_1, l_2, l_3, l_4, l_5, l_6, l_7, l_8, l_9, l_10, l_12, l_16, l_24, l_31, l_32, l_48, l_96, l_99, l_100, l_150, l_180, l_200, l_240, l_255, l_260, l_384, l_400, l_999, l_5000, l_9999, l_1000000, l_1000000000, l_11, l_13, l_14, l_15, l_17, l_18, l_19, l_20, l_21, l_22, l_23, l_25, l_26, l_28, l_30, l_34, l_38, l_42, l_44, l_54, l_60, l_64, l_81, l_90, l_101, l_103, l_110, l_120, l_128, l_140, l_256, l_401, l_403, l_450, l_512, l_853, l_983, l_1000, l_1001, l_2048, l_3000000, l_2000000, l_4096, l_5001, l_5002, l_10000, l_10001, l_32767, l_32768, l_60000, l_2147483647, zJ_lt, zJ_le, zJ_eq, zJ_add, zJ_sub, zJ_mul, zJ_neg, zJ_dv, t_I, t_Ie, t_R, t_Re, t_N, t_Nn, t_V, t_Ve, t_b, t_x, t_w, e_0, e_1, e_2, e_3, ↓t_0, ↓t_1, t_00, t_11, if_true, if_false, ite_not, not_false_eq_true, not_true_eq_false, Int.reduceEq, Int.reduceLT, Int.reduceLE, Int.reduceNeg, Nat.reduceEqDiff, Bool.false_eq_true, zem, lg_ hL, pg.2.2.1, m24, lc_ hL, f3, o3, k1, k2]
        · refine ⟨1, .inl ⟨rfl, by omega, by omega⟩, ?_⟩
          rw [q_L_isHarness_517]
          simp (disch := first | assumption | omega) only [↓reduceIte, l_0, l_1, l_2, l_3, l_4, l_5, l_6, l_7, l_8, l_9, l_10, l_12, l_16, l_24, l_31, l_32, l_48, l_96, l_99, l_100, l_150, l_180, l_200, l_240, l_255, l_260, l_384, l_400, l_999, l_5000, l_9999, l_1000000, l_1000000000, l_11, l_13, l_14, l_15, l_17, l_18, l_19, l_20, l_21, l_22, l_23, l_25, l_26, l_28, l_30, l_34, l_38, l_42, l_44, l_54, l_60, l_64, l_81, l_90, l_101, l_103, l_110, l_120, l_128, l_140, l_256, l_401, l_403, l_450, l_512, l_853, l_983, l_1000, l_1001, l_2048, l_3000000, l_2000000, l_4096, l_5001, l_5002, l_10000, l_10001, l_32767, l_32768, l_60000, l_2147483647, zJ_lt, zJ_le, zJ_eq, zJ_add, zJ_sub, zJ_mul, zJ_neg, zJ_dv, t_I, t_Ie, t_R, t_Re, t_N, t_Nn, t_V, t_Ve, t_b, t_x, t_w, e_0, e_1, e_2, e_3, ↓t_0, ↓t_1, t_00, t_11, if_true, if_false, ite_not, not_false_eq_true, not_true_eq_false, Int.reduceEq, Int.reduceLT, Int.reduceLE, Int.reduceNeg, Nat.reduceEqDiff, Bool.false_eq_true, zem, lg_ hL, pg.2.2.1, m24, lc_ hL, f3, o3, k1, k2]
    · rw [zB_0 kA]
      refine ⟨0, .inr ⟨rfl, by omega⟩, ?_⟩
      rw [q_L_isHarness_517]
      simp (disch := first | assumption | omega) only [↓reduceIte, l_0, l_1, l_2, l_3, l_4, l_5, l_6, l_7, l_8, l_9, l_10, l_12, l_16, l_24, l_31, l_32, l_48, l_96, l_99, l_100, l_150, l_180, l_200, l_240, l_255, l_260, l_384, l_400, l_999, l_5000, l_9999, l_1000000, l_1000000000, l_11, l_13, l_14, l_15, l_17, l_18, l_19, l_20, l_21, l_22, l_23, l_25, l_26, l_28, l_30, l_34, l_38, l_42, l_44, l_54, l_60, l_64, l_81, l_90, l_101, l_103, l_110, l_120, l_128, l_140, l_256, l_401, l_403, l_450, l_512, l_853, l_983, l_1000, l_1001, l_2048, l_3000000, l_2000000, l_4096, l_5001, l_5002, l_10000, l_10001, l_32767, l_32768, l_60000, l_2147483647, zJ_lt, zJ_le, zJ_eq, zJ_add, zJ_sub, zJ_mul, zJ_neg, zJ_dv, t_I, t_Ie, t_R, t_Re, t_N, t_Nn, t_V, t_Ve, t_b, t_x, t_w, e_0, e_1, e_2, e_3, ↓t_0, ↓t_1, t_00, t_11, if_true, if_false, ite_not, not_false_eq_true, not_true_eq_false, Int.reduceEq, Int.reduceLT, Int.reduceLE, Int.reduceNeg, Nat.reduceEqDiff, Bool.false_eq_true, zem, lg_ hL, pg.2.2.1, m24]
  generalize zB (f < X 405 0 ∧ o < X 405 0) = A0 at s1
  have hp : 0 ≤ q / 9 % 6 ∧ q / 9 % 6 ≤ 5 := by omega
  have hu : 0 ≤ r / 9 % 6 ∧ r / 9 % 6 ≤ 5 := by omega
  have hz : 0 ≤ r / 54 % 9 ∧ r / 54 % 9 ≤ 8 := by omega
  rw [s1]
  generalize q / 9 % 6 = p at *
  generalize r / 9 % 6 = u at *
  generalize r / 54 % 9 = z at *
  refine ⟨p, u, z, A, zB (f ≠ o ∧ z ≤ 7), hp, hu, hz, hA, ?_, ?_⟩
  · by_cases g : f ≠ o ∧ z ≤ 7
    · exact .inl ⟨zB_1 g, g⟩
    · exact .inr ⟨zB_0 g, g⟩
  · have s2 : ev_ G 218 750 [.ref (wA Y 13 0), .ref (wA Y 15 600), .ref (wA Y 15 601), .ref (wA Y 15 602), .ref (wA Y 15 603), .ref (wA Y 15 604), .ref (wA Y 15 613), .int (zJ 3), .int (zJ q), .int (zJ r), .int (zJ f), .int (zJ o), .int (zJ A0), .int (zJ p), .int (zJ u), .int (zJ z), zU, zU, zU, zU, zU, zU, zU, zU] [.int (zJ A)] (wd Y n s X) = ev_ G 218 771 [.ref (wA Y 13 0), .ref (wA Y 15 600), .ref (wA Y 15 601), .ref (wA Y 15 602), .ref (wA Y 15 603), .ref (wA Y 15 604), .ref (wA Y 15 613), .int (zJ 3), .int (zJ q), .int (zJ r), .int (zJ f), .int (zJ o), .int (zJ A), .int (zJ p), .int (zJ u), .int (zJ z), zU, zU, zU, zU, zU, zU, zU, zU] [.int (zJ (zB (f ≠ o ∧ z ≤ 7)))] (wd Y n s X) := by
      rw [q_L_isHarness_750]
      by_cases k1 : f = o
      · rw [zB_0 (fun g => g.1 k1)]
        simp (disch := first | assumption | omega) only [↓reduceIte, l_0, l_1, l_2, l_3, l_4, l_5, l_6, l_7, l_8, l_9, l_10, l_12, l_16, l_24, l_31, l_32, l_48, l_96, l_99, l_100, l_150, l_180, l_200, l_240, l_255, l_260, l_384, l_400, l_999, l_5000, l_9999, l_1000000, l_1000000000, l_11, l_13, l_14, l_15, l_17, l_18, l_19, l_20, l_21, l_22, l_23, l_25, l_26, l_28, l_30, l_34, l_38, l_42, l_44, l_54, l_60, l_64, l_81, l_90, l_101, l_103, l_110, l_120, l_128, l_140, l_256, l_401, l_403, l_450, l_512, l_853, l_983, l_1000, l_1001, l_2048, l_3000000, l_2000000, l_4096, l_5001, l_5002, l_10000, l_10001, l_32767, l_32768, l_60000, l_2147483647, zJ_lt, zJ_le, zJ_eq, zJ_add, zJ_sub, zJ_mul, zJ_neg, zJ_dv, t_I, t_Ie, t_R, t_Re, t_N, t_Nn, t_V, t_Ve, t_b, t_x, t_w, e_0, e_1, e_2, e_3, ↓t_0, ↓t_1, t_00, t_11, if_true, if_false, ite_not, not_false_eq_true, not_true_eq_false, Int.reduceEq, Int.reduceLT, Int.reduceLE, Int.reduceNeg, Nat.reduceEqDiff, Bool.false_eq_true, k1]
      · by_cases k2 : 8 ≤ z
        · rw [zB_0 (by omega)]
          simp (disch := first | assumption | omega) only [↓reduceIte, l_0, l_1, l_2, l_3, l_4, l_5, l_6, l_7, l_8, l_9, l_10, l_12, l_16, l_24, l_31, l_32, l_48, l_96, l_99, l_100, l_150, l_180, l_200, l_240, l_255, l_260, l_384, l_400, l_999, l_5000, l_9999, l_1000000, l_1000000000, l_11, l_13, l_14, l_15, l_17, l_18, l_19, l_20, l_21, l_22, l_23, l_25, l_26, l_28, l_30, l_34, l_38, l_42, l_44, l_54, l_60, l_64, l_81, l_90, l_101, l_103, l_110, l_120, l_128, l_140, l_256, l_401, l_403, l_450, l_512, l_853, l_983, l_1000, l_1001, l_2048, l_3000000, l_2000000, l_4096, l_5001, l_5002, l_10000, l_10001, l_32767, l_32768, l_60000, l_2147483647, zJ_lt, zJ_le, zJ_eq, zJ_add, zJ_sub, zJ_mul, zJ_neg, zJ_dv, t_I, t_Ie, t_R, t_Re, t_N, t_Nn, t_V, t_Ve, t_b, t_x, t_w, e_0, e_1, e_2, e_3, ↓t_0, ↓t_1, t_00, t_11, if_true, if_false, ite_not, not_false_eq_true, not_true_eq_false, Int.reduceEq, Int.reduceLT, Int.reduceLE, Int.reduceNeg, Nat.reduceEqDiff, Bool.false_eq_true, k1, k2]
        · rw [zB_1 ⟨k1, by omega⟩]
          simp (disch := first | assumption | omega) only [↓reduceIte, l_0, l_1, l_2, l_3, l_4, l_5, l_6, l_7, l_8, l_9, l_10, l_12, l_16, l_24, l_31, l_32, l_48, l_96, l_99, l_100, l_150, l_180, l_200, l_240, l_255, l_260, l_384, l_400, l_999, l_5000, l_9999, l_1000000, l_1000000000, l_11, l_13, l_14, l_15, l_17, l_18, l_19, l_20, l_21, l_22, l_23, l_25, l_26, l_28, l_30, l_34, l_38, l_42, l_44, l_54, l_60, l_64, l_81, l_90, l_101, l_103, l_110, l_120, l_128, l_140, l_256, l_401, l_403, l_450, l_512, l_853, l_983, l_1000, l_1001, l_2048, l_3000000, l_2000000, l_4096, l_5001, l_5002, l_10000, l_10001, l_32767, l_32768, l_60000, l_2147483647, zJ_lt, zJ_le, zJ_eq, zJ_add, zJ_sub, zJ_mul, zJ_neg, zJ_dv, t_I, t_Ie, t_R, t_Re, t_N, t_Nn, t_V, t_Ve, t_b, t_x, t_w, e_0, e_1, e_2, e_3, ↓t_0, ↓t_1, t_00, t_11, if_true, if_false, ite_not, not_false_eq_true, not_true_eq_false, Int.reduceEq, Int.reduceLT, Int.reduceLE, Int.reduceNeg, Nat.reduceEqDiff, Bool.false_eq_true, k1, k2]
    rw [s2, q_L_isHarness_771]
    simp (disch := first | assumption | omega) only [↓reduceIte, l_0, l_1, l_2, l_3, l_4, l_5, l_6, l_7, l_8, l_9, l_10, l_12, l_16, l_24, l_31, l_32, l_48, l_96, l_99, l_100, l_150, l_180, l_200, l_240, l_255, l_260, l_384, l_400, l_999, l_5000, l_9999, l_1000000, l_1000000000, l_11, l_13, l_14, l_15, l_17, l_18, l_19, l_20, l_21, l_22, l_23, l_25, l_26, l_28, l_30, l_34, l_38, l_42, l_44, l_54, l_60, l_64, l_81, l_90, l_101, l_103, l_110, l_120, l_128, l_140, l_256, l_401, l_403, l_450, l_512, l_853, l_983, l_1000, l_1001, l_2048, l_3000000, l_2000000, l_4096, l_5001, l_5002, l_10000, l_10001, l_32767, l_32768, l_60000, l_2147483647, zJ_lt, zJ_le, zJ_eq, zJ_add, zJ_sub, zJ_mul, zJ_neg, zJ_dv, t_I, t_Ie, t_R, t_Re, t_N, t_Nn, t_V, t_Ve, t_b, t_x, t_w, e_0, e_1, e_2, e_3, ↓t_0, ↓t_1, t_00, t_11, if_true, if_false, ite_not, not_false_eq_true, not_true_eq_false, Int.reduceEq, Int.reduceLT, Int.reduceLE, Int.reduceNeg, Nat.reduceEqDiff, Bool.false_eq_true]
def zTk (X : zX) (a b k : Int) : Prop := ∃ w, 0 ≤ w ∧ w < k ∧ (ztk1 X a w ∨ ztk1 X b w)
theorem H_799 (hZ : zLA G t Y n X) (hp : 0 ≤ 8 * f + p ∧ 8 * f + p ≤ 100) (hu : 0 ≤ 8 * o + u ∧ 8 * o + u ≤ 100) : ∀ (m : Nat) (k c : Int), 0 ≤ k → k + m = X 410 0 → ((c = 1 ∧ ¬zTk X (8 * f + p) (8 * o + u) k) ∨ (c = 0 ∧ zTk X (8 * f + p) (8 * o + u) k)) → ∃ c' : Int, ((c' = 1 ∧ ¬zTk X (8 * f + p) (8 * o + u) (X 410 0)) ∨ (c' = 0 ∧ zTk X (8 * f + p) (8 * o + u) (X 410 0))) ∧ ev_ G 218 799 [.ref (wA Y 13 0), .ref (wA Y 15 600), .ref (wA Y 15 601), .ref (wA Y 15 602), .ref (wA Y 15 603), .ref (wA Y 15 604), .ref (wA Y 15 613), .int (zJ 3), .int (zJ q), .int (zJ r), .int (zJ f), .int (zJ o), .int (zJ A), .int (zJ p), .int (zJ u), .int (zJ z), .int (zJ F), .int (zJ (8 * f + p)), .int (zJ (8 * o + u)), .int (zJ c), .int (zJ k), zU, zU, zU] [] (wd Y n s X) = ev_ G 218 799 [.ref (wA Y 13 0), .ref (wA Y 15 600), .ref (wA Y 15 601), .ref (wA Y 15 602), .ref (wA Y 15 603), .ref (wA Y 15 604), .ref (wA Y 15 613), .int (zJ 3), .int (zJ q), .int (zJ r), .int (zJ f), .int (zJ o), .int (zJ A), .int (zJ p), .int (zJ u), .int (zJ z), .int (zJ F), .int (zJ (8 * f + p)), .int (zJ (8 * o + u)), .int (zJ c'), .int (zJ (X 410 0)), zU, zU, zU] [] (wd Y n s X) := by
  have hZ' := hZ
  obtain ⟨hY, hG, hI, pg, pb, pc, pw, pr, ph, ps, pf⟩ := hZ
  have hL := wY_A hY
  have hn2 : 0 ≤ X 410 0 ∧ X 410 0 ≤ 24 := by
    have := hI.2.2.2.1.1
    have := hY.2.2.2.1
    omega
  intro m
  induction m with
  | zero =>
    intro k c h0 he hc
    have hk : k = X 410 0 := by omega
    exact ⟨c, by rw [← hk]; exact hc, by rw [hk]⟩
  | succ m ih =>
    intro k c h0 he hc
    have e1 : ¬X 410 0 ≤ k := by omega
    obtain ⟨-, r1, r2, r3, r4, r5, r6⟩ := pW_r hZ' (k := k) ⟨h0, by omega⟩
    obtain ⟨w1, w2, w3, w4⟩ := pw.1 k h0 (by omega)
    have a1 : X 1103 k % 64 = X 1012 (2 * k) := by omega
    have a2 : X 1103 k / 64 % 64 = X 1012 (2 * k + 1) := by omega
    have hsk : ∀ c' : Int, ((c' = 1 ∧ ¬zTk X (8 * f + p) (8 * o + u) (k + 1)) ∨ (c' = 0 ∧ zTk X (8 * f + p) (8 * o + u) (k + 1))) → ev_ G 218 799 [.ref (wA Y 13 0), .ref (wA Y 15 600), .ref (wA Y 15 601), .ref (wA Y 15 602), .ref (wA Y 15 603), .ref (wA Y 15 604), .ref (wA Y 15 613), .int (zJ 3), .int (zJ q), .int (zJ r), .int (zJ f), .int (zJ o), .int (zJ A), .int (zJ p), .int (zJ u), .int (zJ z), .int (zJ F), .int (zJ (8 * f + p)), .int (zJ (8 * o + u)), .int (zJ c), .int (zJ k), zU, zU, zU] [] (wd Y n s X) = ev_ G 218 799 [.ref (wA Y 13 0), .ref (wA Y 15 600), .ref (wA Y 15 601), .ref (wA Y 15 602), .ref (wA Y 15 603), .ref (wA Y 15 604), .ref (wA Y 15 613), .int (zJ 3), .int (zJ q), .int (zJ r), .int (zJ f), .int (zJ o), .int (zJ A), .int (zJ p), .int (zJ u), .int (zJ z), .int (zJ F), .int (zJ (8 * f + p)), .int (zJ (8 * o + u)), .int (zJ c'), .int (zJ (k + 1)), zU, zU, zU] [] (wd Y n s X) → ∃ c' : Int, ((c' = 1 ∧ ¬zTk X (8 * f + p) (8 * o + u) (X 410 0)) ∨ (c' = 0 ∧ zTk X (8 * f + p) (8 * o + u) (X 410 0))) ∧ ev_ G 218 799 [.ref (wA Y 13 0), .ref (wA Y 15 600), .ref (wA Y 15 601), .ref (wA Y 15 602), .ref (wA Y 15 603), .ref (wA Y 15 604), .ref (wA Y 15 613), .int (zJ 3), .int (zJ q), .int (zJ r), .int (zJ f), .int (zJ o), .int (zJ A), .int (zJ p), .int (zJ u), .int (zJ z), .int (zJ F), .int (zJ (8 * f + p)), .int (zJ (8 * o + u)), .int (zJ c), .int (zJ k), zU, zU, zU] [] (wd Y n s X) = ev_ G 218 799 [.ref (wA Y 13 0), .ref (wA Y 15 600), .ref (wA Y 15 601), .ref (wA Y 15 602), .ref (wA Y 15 603), .ref (wA Y 15 604), .ref (wA Y 15 613), .int (zJ 3), .int (zJ q), .int (zJ r), .int (zJ f), .int (zJ o), .int (zJ A), .int (zJ p), .int (zJ u), .int (zJ z), .int (zJ F), .int (zJ (8 * f + p)), .int (zJ (8 * o + u)), .int (zJ c'), .int (zJ (X 410 0)), zU, zU, zU] [] (wd Y n s X) := by
      intro c' hc' e
      obtain ⟨c2, d1, d2⟩ := ih (k + 1) c' (by omega) (by omega) hc'
      exact ⟨c2, d1, e.trans d2⟩
    have hyes : (ztk1 X (8 * f + p) k ∨ ztk1 X (8 * o + u) k) → zTk X (8 * f + p) (8 * o + u) (k + 1) := fun g => ⟨k, h0, by omega, g⟩
    rcases hc with ⟨rfl, hc⟩ | ⟨rfl, hc⟩
    · have hnot : ¬(ztk1 X (8 * f + p) k ∨ ztk1 X (8 * o + u) k) → ¬zTk X (8 * f + p) (8 * o + u) (k + 1) := fun g ⟨w, g1, g2, g3⟩ => by
        by_cases hw : w = k
        · rw [hw] at g3
          exact g g3
        · exact hc ⟨w, g1, by omega, g3⟩
      unfold ztk1 at hyes hnot
      by_cases k1 : X 1011 k = 0
      · have m1 : ¬32767 < X 1103 k := by omega
        by_cases k2 : X 1012 (2 * k) = 8 * f + p
        · refine hsk 0 (.inr ⟨rfl, hyes (.inl ⟨k1, .inl k2⟩)⟩) ?_
          rw [q_L_isHarness_799]
          simp (disch := first | assumption | omega) only [↓reduceIte, l_0, l_1, l_2, l_3, l_4, l_5, l_6, l_7, l_8, l_9, l_10, l_12, l_16, l_24, l_31, l_32, l_48, l_96, l_99, l_100, l_150, l_180, l_200, l_240, l_255, l_260, l_384, l_400, l_999, l_5000, l_9999, l_1000000, l_1000000000, l_11, l_13, l_14, l_15, l_17, l_18, l_19, l_20, l_21, l_22, l_23, l_25, l_26, l_28, l_30, l_34, l_38, l_42, l_44, l_54, l_60, l_64, l_81, l_90, l_101, l_103, l_110, l_120, l_128, l_140, l_256, l_401, l_403, l_450, l_512, l_853, l_983, l_1000, l_1001, l_2048, l_3000000, l_2000000, l_4096, l_5001, l_5002, l_10000, l_10001, l_32767, l_32768, l_60000, l_2147483647, zJ_lt, zJ_le, zJ_eq, zJ_add, zJ_sub, zJ_mul, zJ_neg, zJ_dv, t_I, t_Ie, t_R, t_Re, t_N, t_Nn, t_V, t_Ve, t_b, t_x, t_w, e_0, e_1, e_2, e_3, ↓t_0, ↓t_1, t_00, t_11, if_true, if_false, ite_not, not_false_eq_true, not_true_eq_false, Int.reduceEq, Int.reduceLT, Int.reduceLE, Int.reduceNeg, Nat.reduceEqDiff, Bool.false_eq_true, zem, lg_ hL, pg.2.2.1, e1, lw_ hL, m1, a1, a2, k2]
        · by_cases k3 : X 1012 (2 * k) = 8 * o + u
          · refine hsk 0 (.inr ⟨rfl, hyes (.inr ⟨k1, .inl k3⟩)⟩) ?_
            have k3' : (X 1012 (2 * k) = 8 * o + u) = True := eq_true k3
            rw [q_L_isHarness_799]
            simp (disch := first | assumption | omega) only [↓reduceIte, l_0, l_1, l_2, l_3, l_4, l_5, l_6, l_7, l_8, l_9, l_10, l_12, l_16, l_24, l_31, l_32, l_48, l_96, l_99, l_100, l_150, l_180, l_200, l_240, l_255, l_260, l_384, l_400, l_999, l_5000, l_9999, l_1000000, l_1000000000, l_11, l_13, l_14, l_15, l_17, l_18, l_19, l_20, l_21, l_22, l_23, l_25, l_26, l_28, l_30, l_34, l_38, l_42, l_44, l_54, l_60, l_64, l_81, l_90, l_101, l_103, l_110, l_120, l_128, l_140, l_256, l_401, l_403, l_450, l_512, l_853, l_983, l_1000, l_1001, l_2048, l_3000000, l_2000000, l_4096, l_5001, l_5002, l_10000, l_10001, l_32767, l_32768, l_60000, l_2147483647, zJ_lt, zJ_le, zJ_eq, zJ_add, zJ_sub, zJ_mul, zJ_neg, zJ_dv, t_I, t_Ie, t_R, t_Re, t_N, t_Nn, t_V, t_Ve, t_b, t_x, t_w, e_0, e_1, e_2, e_3, ↓t_0, ↓t_1, t_00, t_11, if_true, if_false, ite_not, not_false_eq_true, not_true_eq_false, Int.reduceEq, Int.reduceLT, Int.reduceLE, Int.reduceNeg, Nat.reduceEqDiff, Bool.false_eq_true, zem, lg_ hL, pg.2.2.1, e1, lw_ hL, m1, a1, a2, k2, k3']
          · by_cases k4 : X 1012 (2 * k + 1) = 8 * f + p
            · refine hsk 0 (.inr ⟨rfl, hyes (.inl ⟨k1, .inr k4⟩)⟩) ?_
              rw [q_L_isHarness_799]
              simp (disch := first | assumption | omega) only [↓reduceIte, l_0, l_1, l_2, l_3, l_4, l_5, l_6, l_7, l_8, l_9, l_10, l_12, l_16, l_24, l_31, l_32, l_48, l_96, l_99, l_100, l_150, l_180, l_200, l_240, l_255, l_260, l_384, l_400, l_999, l_5000, l_9999, l_1000000, l_1000000000, l_11, l_13, l_14, l_15, l_17, l_18, l_19, l_20, l_21, l_22, l_23, l_25, l_26, l_28, l_30, l_34, l_38, l_42, l_44, l_54, l_60, l_64, l_81, l_90, l_101, l_103, l_110, l_120, l_128, l_140, l_256, l_401, l_403, l_450, l_512, l_853, l_983, l_1000, l_1001, l_2048, l_3000000, l_2000000, l_4096, l_5001, l_5002, l_10000, l_10001, l_32767, l_32768, l_60000, l_2147483647, zJ_lt, zJ_le, zJ_eq, zJ_add, zJ_sub, zJ_mul, zJ_neg, zJ_dv, t_I, t_Ie, t_R, t_Re, t_N, t_Nn, t_V, t_Ve, t_b, t_x, t_w, e_0, e_1, e_2, e_3, ↓t_0, ↓t_1, t_00, t_11, if_true, if_false, ite_not, not_false_eq_true, not_true_eq_false, Int.reduceEq, Int.reduceLT, Int.reduceLE, Int.reduceNeg, Nat.reduceEqDiff, Bool.false_eq_true, zem, lg_ hL, pg.2.2.1, e1, lw_ hL, m1, a1, a2, k2, k3, k4]
            · by_cases k5 : X 1012 (2 * k + 1) = 8 * o + u
              · refine hsk 0 (.inr ⟨rfl, hyes (.inr ⟨k1, .inr k5⟩)⟩) ?_
                have k5' : (X 1012 (2 * k + 1) = 8 * o + u) = True := eq_true k5
                rw [q_L_isHarness_799]
                simp (disch := first | assumption | omega) only [↓reduceIte, l_0, l_1, l_2, l_3, l_4, l_5, l_6, l_7, l_8, l_9, l_10, l_12, l_16, l_24, l_31, l_32, l_48, l_96, l_99, l_100, l_150, l_180, l_200, l_240, l_255, l_260, l_384, l_400, l_999, l_5000, l_9999, l_1000000, l_1000000000, l_11, l_13, l_14, l_15, l_17, l_18, l_19, l_20, l_21, l_22, l_23, l_25, l_26, l_28, l_30, l_34, l_38, l_42, l_44, l_54, l_60, l_64, l_81, l_90, l_101, l_103, l_110, l_120, l_128, l_140, l_256, l_401, l_403, l_450, l_512, l_853, l_983, l_1000, l_1001, l_2048, l_3000000, l_2000000, l_4096, l_5001, l_5002, l_10000, l_10001, l_32767, l_32768, l_60000, l_2147483647, zJ_lt, zJ_le, zJ_eq, zJ_add, zJ_sub, zJ_mul, zJ_neg, zJ_dv, t_I, t_Ie, t_R, t_Re, t_N, t_Nn, t_V, t_Ve, t_b, t_x, t_w, e_0, e_1, e_2, e_3, ↓t_0, ↓t_1, t_00, t_11, if_true, if_false, ite_not, not_false_eq_true, not_true_eq_false, Int.reduceEq, Int.reduceLT, Int.reduceLE, Int.reduceNeg, Nat.reduceEqDiff, Bool.false_eq_true, zem, lg_ hL, pg.2.2.1, e1, lw_ hL, m1, a1, a2, k2, k3, k4, k5']
              · refine hsk 1 (.inl ⟨rfl, hnot (fun g => by omega)⟩) ?_
                rw [q_L_isHarness_799]
                simp (disch := first | assumption | omega) only [↓reduceIte, l_0, l_1, l_2, l_3, l_4, l_5, l_6, l_7, l_8, l_9, l_10, l_12, l_16, l_24, l_31, l_32, l_48, l_96, l_99, l_100, l_150, l_180, l_200, l_240, l_255, l_260, l_384, l_400, l_999, l_5000, l_9999, l_1000000, l_1000000000, l_11, l_13, l_14, l_15, l_17, l_18, l_19, l_20, l_21, l_22, l_23, l_25, l_26, l_28, l_30, l_34, l_38, l_42, l_44, l_54, l_60, l_64, l_81, l_90, l_101, l_103, l_110, l_120, l_128, l_140, l_256, l_401, l_403, l_450, l_512, l_853, l_983, l_1000, l_1001, l_2048, l_3000000, l_2000000, l_4096, l_5001, l_5002, l_10000, l_10001, l_32767, l_32768, l_60000, l_2147483647, zJ_lt, zJ_le, zJ_eq, zJ_add, zJ_sub, zJ_mul, zJ_neg, zJ_dv, t_I, t_Ie, t_R, t_Re, t_N, t_Nn, t_V, t_Ve, t_b, t_x, t_w, e_0, e_1, e_2, e_3, ↓t_0, ↓t_1, t_00, t_11, if_true, if_false, ite_not, not_false_eq_true, not_true_eq_false, Int.reduceEq, Int.reduceLT, Int.reduceLE, Int.reduceNeg, Nat.reduceEqDiff, Bool.false_eq_true, zem, lg_ hL, pg.2.2.1, e1, lw_ hL, m1, a1, a2, k2, k3, k4, k5]
      · have m1 : 32767 < X 1103 k := by omega
        refine hsk 1 (.inl ⟨rfl, hnot (fun g => by omega)⟩) ?_
        rw [q_L_isHarness_799]
        simp (disch := first | assumption | omega) only [↓reduceIte, l_0, l_1, l_2, l_3, l_4, l_5, l_6, l_7, l_8, l_9, l_10, l_12, l_16, l_24, l_31, l_32, l_48, l_96, l_99, l_100, l_150, l_180, l_200, l_240, l_255, l_260, l_384, l_400, l_999, l_5000, l_9999, l_1000000, l_1000000000, l_11, l_13, l_14, l_15, l_17, l_18, l_19, l_20, l_21, l_22, l_23, l_25, l_26, l_28, l_30, l_34, l_38, l_42, l_44, l_54, l_60, l_64, l_81, l_90, l_101, l_103, l_110, l_120, l_128, l_140, l_256, l_401, l_403, l_450, l_512, l_853, l_983, l_1000, l_1001, l_2048, l_3000000, l_2000000, l_4096, l_5001, l_5002, l_10000, l_10001, l_32767, l_32768, l_60000, l_2147483647, zJ_lt, zJ_le, zJ_eq, zJ_add, zJ_sub, zJ_mul, zJ_neg, zJ_dv, t_I, t_Ie, t_R, t_Re, t_N, t_Nn, t_V, t_Ve, t_b, t_x, t_w, e_0, e_1, e_2, e_3, ↓t_0, ↓t_1, t_00, t_11, if_true, if_false, ite_not, not_false_eq_true, not_true_eq_false, Int.reduceEq, Int.reduceLT, Int.reduceLE, Int.reduceNeg, Nat.reduceEqDiff, Bool.false_eq_true, zem, lg_ hL, pg.2.2.1, e1, lw_ hL, m1]
    · refine hsk 0 (.inr ⟨rfl, ?_⟩) ?_
      · obtain ⟨w, g1, g2, g3⟩ := hc
        exact ⟨w, g1, by omega, g3⟩
      · rw [q_L_isHarness_799]
        simp (disch := first | assumption | omega) only [↓reduceIte, l_0, l_1, l_2, l_3, l_4, l_5, l_6, l_7, l_8, l_9, l_10, l_12, l_16, l_24, l_31, l_32, l_48, l_96, l_99, l_100, l_150, l_180, l_200, l_240, l_255, l_260, l_384, l_400, l_999, l_5000, l_9999, l_1000000, l_1000000000, l_11, l_13, l_14, l_15, l_17, l_18, l_19, l_20, l_21, l_22, l_23, l_25, l_26, l_28, l_30, l_34, l_38, l_42, l_44, l_54, l_60, l_64, l_81, l_90, l_101, l_103, l_110, l_120, l_128, l_140, l_256, l_401, l_403, l_450, l_512, l_853, l_983, l_1000, l_1001, l_2048, l_3000000, l_2000000, l_4096, l_5001, l_5002, l_10000, l_10001, l_32767, l_32768, l_60000, l_2147483647, zJ_lt, zJ_le, zJ_eq, zJ_add, zJ_sub, zJ_mul, zJ_neg, zJ_dv, t_I, t_Ie, t_R, t_Re, t_N, t_Nn, t_V, t_Ve, t_b, t_x, t_w, e_0, e_1, e_2, e_3, ↓t_0, ↓t_1, t_00, t_11, if_true, if_false, ite_not, not_false_eq_true, not_true_eq_false, Int.reduceEq, Int.reduceLT, Int.reduceLE, Int.reduceNeg, Nat.reduceEqDiff, Bool.false_eq_true, lg_ hL, pg.2.2.1, e1]
/-- the row of the way, and the way itself if one is asked for -/
theorem H_row (hZ : zLA G t Y n X) (hf : 0 ≤ f ∧ f ≤ X 405 0) (ho : 0 ≤ o ∧ o ≤ X 405 0) (hA : (A = 1 ∧ zcv X f p ∧ zcv X o u) ∨ A = 0) (hF : F = 1 ∨ F = 0) (hc : c = 1 ∨ c = 0) : ∃ (Y9 : zLy) (n9 s9 : Nat) (R : Int → Int) (best : Int), ev_ G 218 799 [.ref (wA Y 13 0), .ref (wA Y 15 600), .ref (wA Y 15 601), .ref (wA Y 15 602), .ref (wA Y 15 603), .ref (wA Y 15 604), .ref (wA Y 15 613), .int (zJ 3), .int (zJ q), .int (zJ r), .int (zJ f), .int (zJ o), .int (zJ A), .int (zJ p), .int (zJ u), .int (zJ z), .int (zJ F), .int (zJ (8 * f + p)), .int (zJ (8 * o + u)), .int (zJ c), .int (zJ (X 410 0)), zU, zU, zU] [] (wd Y n s X) = ev_ G 218 943 [.ref (wA Y 13 0), .ref (wA Y 15 600), .ref (wA Y 15 601), .ref (wA Y 15 602), .ref (wA Y 15 603), .ref (wA Y 15 604), .ref (wA Y 15 613), .int (zJ 3), .int (zJ q), .int (zJ r), .int (zJ f), .int (zJ o), .int (zJ A), .int (zJ p), .int (zJ u), .int (zJ z), .int (zJ F), .int (zJ (8 * f + p)), .int (zJ (8 * o + u)), .int (zJ c), .ref n, zU, zU, zU] [.int (zJ best)] (wd Y9 n9 s9 X) ∧ wY Y9 n9 ∧ wle Y n Y9 n9 ∧ n < n9 ∧ n9 ≤ n + 4 ∧ s ≤ s9 ∧ s9 ≤ s + 40 ∧ Y9.2.2.2.2 = Y.2.2.2.2 ∧ (∀ k i, wA Y9 k i = wA Y k i) ∧ Y9.2.1 n = some (za 8 R) ∧ (Y9.2.2.1 n).1 = 0 ∧ (-1 ≤ best ∧ best ≤ 100000) ∧ (A = 0 ∨ F = 0 ∨ c = 0 → best = -1) ∧ (A = 1 → F = 1 → c = 1 → (1000000000 ≤ zcsm X (X 400 0) (X 1006 o) (X 1006 f) → best = -1) ∧ ∀ (v b : Nat → Int) (L : Nat), zcsm X (X 400 0) (X 1006 o) (X 1006 f) < 1000000000 → v 0 = X 1006 f → (zcsm X (X 400 0) (X 1006 o) (X 1006 f) % 100).toNat = L → zch X (zcsm X (X 400 0) (X 1006 o)) (X 400 0).toNat v b L → L ≤ 7 ∧ 0 ≤ best ∧ best / 8 = zsm (fun m => X 1003 (b m.toNat)) 0 L ∧ (∀ k : Nat, k < 8 → R k = if k < L then b k else -1) ∧ ∀ i j : Nat, i < j → j < L → b i ≠ b j) := by
  have hZ' := hZ
  obtain ⟨hY, hG, hI, hK⟩ := hZ
  obtain ⟨pg, pb, pc, pw, pr, ph, ps, pf⟩ := id hK
  have hL := wY_A hY
  have hN := hY.1.2.1
  have hne : ∀ i, n + i ≠ Y.1 := fun i => by
    have := hN.2.1
    omega
  have hn2 : 0 ≤ X 410 0 ∧ X 410 0 ≤ 24 := by
    have := hI.2.2.2.1.1
    have := hY.2.2.2.1
    omega
  have hn1 : 0 ≤ X 405 0 ∧ X 405 0 ≤ 8 := by
    have := hI.2.1.1
    have := hY.2.2.1
    omega
  have e1 : X 410 0 ≤ X 410 0 := Int.le_refl _
  have hb8 : ¬zbad (zJ 8) := by decide
  have hna : znai 0 (zJ 8) (wd Y n s X) = wd (yB Y n (za 8 (fun _ => 0))) (n + 1) (s + 8) X := wd_B (hN.1 n (Nat.le_refl _))
  have hW1 : (wd Y n s X).1 = n := rfl
  by_cases hgo : A = 1 ∧ F = 1 ∧ c = 1
  · obtain ⟨rfl, rfl, rfl⟩ := hgo
    have hcv : zcv X f p ∧ zcv X o u := by
      rcases hA with g | g
      · exact g.2
      · exact absurd g (by decide)
    obtain ⟨-, f1, f2, f3, f4, f5, f6, f7, f8, f9, f10, f11⟩ := pC_r hZ' (k := f) hcv.1.1
    obtain ⟨-, o1, o2, o3, o4, o5, o6, o7, o8, o9, o10, o11⟩ := pC_r hZ' (k := o) hcv.2.1
    have hnb : 0 ≤ X 400 0 ∧ X 400 0 ≤ 16 := by
      have := hI.1.1
      have := hY.2.1
      omega
    have hbs : zbs X (X 400 0) := fun i i0 i1 => by
      have e := hI.1.2 i i0 (by rw [← hI.1.1]; exact i1)
      rw [e.1.2.1, e.1.2.2.1, e.1.2.2.2.1, e.1.2.2.2.2]
      exact ⟨⟨rfl, rfl, rfl, rfl⟩, e.2⟩
    have hl : ∀ i, 0 ≤ i → i < X 400 0 → 1 ≤ X 1003 i ∧ X 1003 i ≤ 999 := fun i a b => (hbs i a b).2.2.2.2.2.2
    have hwy : wWy Y n X (X 400 0) (X 1006 o) := ⟨hL, hN.1, pg.1, hnb, o7, fun i i0 i1 => ⟨pb i i0 i1, (hbs i i0 i1).2⟩⟩
    obtain ⟨hJ, h7w, hstw⟩ := zways (X := X) hbs hnb.1 o7 hI.2.2.2.2.1.2
    obtain ⟨best, R, N, E, S, g1, g2, g3, g4⟩ := L_way (G := G) (s := s + 8) hwy f7 hJ.1 hJ.2.2 h7w hstw
    refine ⟨yW Y n R N E S, n + 4, s + 8 + 27, R, best, ?_, ⟨wK_B (wK_B (wK_B (wK_B (n' := n + 4) hY.1 (by omega) (hne 0)) (Nat.le_refl _) (hne 1)) (Nat.le_refl _) (hne 2)) (Nat.le_refl _) (hne 3), hY.2⟩, ⟨by omega, rfl, fun _ _ _ _ h => ⟨h, rfl⟩, fun b hb h => ⟨?_, h⟩⟩, by omega, by omega, by omega, by omega, rfl, fun _ _ => rfl, yW_0, hN.1 n (Nat.le_refl _), g2, fun g => by omega, fun _ _ _ => ⟨g3, fun v b L v1 v2 v3 v4 => ?_⟩⟩
    · rw [q_L_isHarness_799]
      have l2 : ∀ i : Int, 0 ≤ i → i < 8 → zld false (wd (yB Y n (za 8 (fun _ => 0))) (n + 1) (s + 8) X) (wA Y 15 602) (zJ i) = some (zJ (X 1102 i)) := fun i i0 i1 => lc_ (Y := yB Y n (za 8 (fun _ => 0))) hL i0 i1
      have := hcv.1.1
      have := hcv.2.1
      simp (disch := first | assumption | omega) only [↓reduceIte, l_0, l_1, l_2, l_3, l_4, l_5, l_6, l_7, l_8, l_9, l_10, l_12, l_16, l_24, l_31, l_32, l_48, l_96, l_99, l_100, l_150, l_180, l_200, l_240, l_255, l_260, l_384, l_400, l_999, l_5000, l_9999, l_1000000, l_1000000000, l_11, l_13, l_14, l_15, l_17, l_18, l_19, l_20, l_21, l_22, l_23, l_25, l_26, l_28, l_30, l_34, l_38, l_42, l_44, l_54, l_60, l_64, l_81, l_90, l_101, l_103, l_110, l_120, l_128, l_140, l_256, l_401, l_403, l_450, l_512, l_853, l_983, l_1000, l_1001, l_2048, l_3000000, l_2000000, l_4096, l_5001, l_5002, l_10000, l_10001, l_32767, l_32768, l_60000, l_2147483647, zJ_lt, zJ_le, zJ_eq, zJ_add, zJ_sub, zJ_mul, zJ_neg, zJ_dv, t_I, t_Ie, t_R, t_Re, t_N, t_Nn, t_V, t_Ve, t_b, t_x, t_w, e_0, e_1, e_2, e_3, ↓t_0, ↓t_1, t_00, t_11, if_true, if_false, ite_not, not_false_eq_true, not_true_eq_false, Int.reduceEq, Int.reduceLT, Int.reduceLE, Int.reduceNeg, Nat.reduceEqDiff, Bool.false_eq_true, zem, lg_ hL, pg.2.2.1, e1, hb8, hna, hW1, l2, f2, o2, g1]
    · show (if b = n + 3 then _ else if b = n + 2 then _ else if b = n + 1 then _ else if b = n then _ else Y.2.1 b) = _
      rw [if_neg (by omega), if_neg (by omega), if_neg (by omega), if_neg (by omega)]
    · obtain ⟨w1, w2, w3, w4⟩ := g4 v b L v1 v2 v3 v4
      have hB := zwB_i hJ.1 hJ.2.2 h7w hstw hl hnb.1 v4 (by rw [v2]; exact v1)
      exact ⟨w1, w2, w3, w4, zwB_ne hB hl⟩
  · refine ⟨yB Y n (za 8 (fun _ => 0)), n + 1, s + 8, fun _ => 0, -1, ?_, ⟨wK_B hY.1 (by omega) (hne 0), hY.2⟩, wle_B (by omega) (Nat.le_refl _), by omega, by omega, by omega, by omega, rfl, fun _ _ => rfl, if_pos rfl, hN.1 n (Nat.le_refl _), by omega, fun _ => rfl, fun a1 a2 a3 => absurd ⟨a1, a2, a3⟩ hgo⟩
    have hh : zld false (wd Y n s X) (wA Y 15 613) 2 = some (zJ (X 410 0)) := by rw [l_2, lg_ hL (by decide) (by decide), pg.2.2.1]
    rw [q_L_isHarness_799, hh, t_b, if_pos (show zJ (X 410 0) ≤ zJ (X 410 0) by rw [zJ_le (by omega) (by omega) (by omega) (by omega)]; exact e1), if_neg (show ¬zbad 8 from hb8)]
    have hna' : znai 0 8 (wd Y n s X) = wd (yB Y n (za 8 (fun _ => 0))) (n + 1) (s + 8) X := hna
    rw [hna', hW1, l_1, zJ_neg]
    rcases hA with ⟨rfl, -⟩ | rfl
    · rw [if_neg (show ¬zJ 1 = 0 by decide)]
      rcases hF with rfl | rfl
      · rw [if_neg (show ¬zJ 1 = 0 by decide)]
        rcases hc with rfl | rfl
        · exact absurd ⟨rfl, rfl, rfl⟩ hgo
        · rw [if_pos (show zJ 0 = 0 by decide)]
      · rw [if_pos (show zJ 0 = 0 by decide)]
    · rw [if_pos (show zJ 0 = 0 by decide)]
end ZL
