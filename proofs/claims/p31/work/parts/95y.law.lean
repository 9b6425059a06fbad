/-! THE LAW, 3: the oven -/
def zsol (X X1 : zX) (p q k : Int) : zX := fun f j => if f = 1109 ∧ k ≤ j ∧ j < 8 * p + 8 ∧ X 1038 j ≠ -1 then X 1109 j + (64 * zjf (X 1031 (X 1026 (X 1038 j))) (X 1032 (X 1026 (X 1038 j))) q + 2048 * (zjf (X 1031 (X 1026 (X 1038 j))) (X 1032 (X 1026 (X 1038 j))) q + 1)) else X1 f j
theorem zfl_dn {d m : Int} (hm : 2 ≤ m ∧ m ≤ 10) (hd : d < 0) : -((-d + m - 1) / m) = d / m := by
  have : m = 2 ∨ m = 3 ∨ m = 4 ∨ m = 5 ∨ m = 6 ∨ m = 7 ∨ m = 8 ∨ m = 9 ∨ m = 10 := by omega
  rcases this with rfl | rfl | rfl | rfl | rfl | rfl | rfl | rfl | rfl <;> omega
theorem zpk_k {h : Int → Int} {m : Int} (hm : 1 ≤ m) (hh : ∀ z, 0 ≤ z → z < 4 → 0 ≤ h z ∧ h z ≤ 1000) : zpk h m 12 0 25 (-1000) = zpk h m 12 0 25 (-1) := by
  have h1 := zpk_x (x := 25) hm (hh (0 / 3) (by decide) (by decide)) (by decide)
  show zpk h m 11 (0 + 1) _ (max (-1000) (25 + (h (0 / 3) - 25) / m)) = zpk h m 11 (0 + 1) _ (max (-1) (25 + (h (0 / 3) - 25) / m))
  rw [show max (-1000) (25 + (h (0 / 3) - 25) / m) = max (-1) (25 + (h (0 / 3) - 25) / m) by omega]
section ZL
variable {Y : zLy} {n s : Nat} {X : zX} {G : Nat × Nat} {t p q r k j : Int}
theorem L_massR (hZ : zLA G t Y n X) (hb : 0 ≤ p ∧ p < 4) {a0 a1 : Nat} : ∀ (m : Nat) (k a : Int), 8 * p ≤ k → k + m = 8 * p + 8 → ev_ G 220 9 [.ref a0, .ref a1, .ref (wA Y 15 609), .int (zJ p), .int (zJ a), .int (zJ k), zU, zU, zU, zU] [] (wd Y n s X) = ev_ G 220 59 [.ref a0, .ref a1, .ref (wA Y 15 609), .int (zJ p), .int (zJ (a + zsm (fun m => zB (X 1038 m ≠ -1)) k m)), .int (zJ 25), .int (zJ (-1000)), .int (zJ 0), zU, zU] [] (wd Y n s X) := by
  have hZ' := hZ
  obtain ⟨hY, hG, hI, pg, pb, pc, pw, pr, ph, ps, pf⟩ := hZ
  have hL := wY_A hY
  intro m
  induction m with
  | zero =>
    intro k a h0 he
    have e1 : 8 * p + 8 ≤ k := by omega
    rw [q_L_soldered_9]
    simp (disch := first | assumption | omega) only [↓reduceIte, l_0, l_1, l_2, l_3, l_4, l_5, l_6, l_7, l_8, l_9, l_10, l_12, l_16, l_24, l_31, l_32, l_48, l_96, l_99, l_100, l_150, l_180, l_200, l_240, l_255, l_260, l_384, l_400, l_999, l_5000, l_9999, l_1000000, l_1000000000, l_11, l_13, l_14, l_15, l_17, l_18, l_19, l_20, l_21, l_22, l_23, l_25, l_26, l_28, l_30, l_34, l_38, l_42, l_44, l_54, l_60, l_64, l_81, l_90, l_101, l_103, l_110, l_120, l_128, l_140, l_256, l_401, l_403, l_450, l_512, l_853, l_983, l_1000, l_1001, l_2048, l_3000000, l_2000000, l_4096, l_5001, l_5002, l_10000, l_10001, l_32767, l_32768, l_60000, l_2147483647, zJ_lt, zJ_le, zJ_eq, zJ_add, zJ_sub, zJ_mul, zJ_neg, zJ_dv, t_I, t_Ie, t_R, t_Re, t_N, t_Nn, t_V, t_Ve, t_b, t_x, t_w, e_0, e_1, e_2, e_3, ↓t_0, ↓t_1, t_00, t_11, if_true, if_false, ite_not, not_false_eq_true, not_true_eq_false, Int.reduceEq, Int.reduceLT, Int.reduceLE, Int.reduceNeg, Nat.reduceEqDiff, Bool.false_eq_true, e1]
    rw [show zsm (fun m => zB (X 1038 m ≠ -1)) k 0 = 0 from rfl, Int.add_zero]
  | succ m ih =>
    intro k a h0 he
    have e1 : ¬8 * p + 8 ≤ k := by omega
    obtain ⟨r1, r2, r3, r4, r5, r6, r7, r8, r9, r10, r11⟩ := pS_r hZ' (k := k) (by omega)
    have hz : zsm (fun m => zB (X 1038 m ≠ -1)) k (m + 1) = zB (X 1038 k ≠ -1) + zsm (fun m => zB (X 1038 m ≠ -1)) (k + 1) m := rfl
    rw [q_L_soldered_9]
    simp (disch := first | assumption | omega) only [↓reduceIte, l_0, l_1, l_2, l_3, l_4, l_5, l_6, l_7, l_8, l_9, l_10, l_12, l_16, l_24, l_31, l_32, l_48, l_96, l_99, l_100, l_150, l_180, l_200, l_240, l_255, l_260, l_384, l_400, l_999, l_5000, l_9999, l_1000000, l_1000000000, l_11, l_13, l_14, l_15, l_17, l_18, l_19, l_20, l_21, l_22, l_23, l_25, l_26, l_28, l_30, l_34, l_38, l_42, l_44, l_54, l_60, l_64, l_81, l_90, l_101, l_103, l_110, l_120, l_128, l_140, l_256, l_401, l_403, l_450, l_512, l_853, l_983, l_1000, l_1001, l_2048, l_3000000, l_2000000, l_4096, l_5001, l_5002, l_10000, l_10001, l_32767, l_32768, l_60000, l_2147483647, zJ_lt, zJ_le, zJ_eq, zJ_add, zJ_sub, zJ_mul, zJ_neg, zJ_dv, t_I, t_Ie, t_R, t_Re, t_N, t_Nn, t_V, t_Ve, t_b, t_x, t_w, e_0, e_1, e_2, e_3, ↓t_0, ↓t_1, t_00, t_11, if_true, if_false, ite_not, not_false_eq_true, not_true_eq_false, Int.reduceEq, Int.reduceLT, Int.reduceLE, Int.reduceNeg, Nat.reduceEqDiff, Bool.false_eq_true, zem, e1, ls_ hL, r1]
    by_cases k1 : X 1038 k = -1
    · have k2 : X 1038 k + 1 ≤ 0 := by omega
      simp (disch := first | assumption | omega) only [↓reduceIte, l_0, l_1, l_2, l_3, l_4, l_5, l_6, l_7, l_8, l_9, l_10, l_12, l_16, l_24, l_31, l_32, l_48, l_96, l_99, l_100, l_150, l_180, l_200, l_240, l_255, l_260, l_384, l_400, l_999, l_5000, l_9999, l_1000000, l_1000000000, l_11, l_13, l_14, l_15, l_17, l_18, l_19, l_20, l_21, l_22, l_23, l_25, l_26, l_28, l_30, l_34, l_38, l_42, l_44, l_54, l_60, l_64, l_81, l_90, l_101, l_103, l_110, l_120, l_128, l_140, l_256, l_401, l_403, l_450, l_512, l_853, l_983, l_1000, l_1001, l_2048, l_3000000, l_2000000, l_4096, l_5001, l_5002, l_10000, l_10001, l_32767, l_32768, l_60000, l_2147483647, zJ_lt, zJ_le, zJ_eq, zJ_add, zJ_sub, zJ_mul, zJ_neg, zJ_dv, t_I, t_Ie, t_R, t_Re, t_N, t_Nn, t_V, t_Ve, t_b, t_x, t_w, e_0, e_1, e_2, e_3, ↓t_0, ↓t_1, t_00, t_11, if_true, if_false, ite_not, not_false_eq_true, not_true_eq_false, Int.reduceEq, Int.reduceLT, Int.reduceLE, Int.reduceNeg, Nat.reduceEqDiff, Bool.false_eq_true, k2]
      rw [ih _ _ (by omega) (by omega), hz, zB_0 (fun g => g k1), Int.add_zero, Int.zero_add]
    · have k2 : ¬X 1038 k + 1 ≤ 0 := by omega
      simp (disch := first | assumption | omega) only [↓reduceIte, l_0, l_1, l_2, l_3, l_4, l_5, l_6, l_7, l_8, l_9, l_10, l_12, l_16, l_24, l_31, l_32, l_48, l_96, l_99, l_100, l_150, l_180, l_200, l_240, l_255, l_260, l_384, l_400, l_999, l_5000, l_9999, l_1000000, l_1000000000, l_11, l_13, l_14, l_15, l_17, l_18, l_19, l_20, l_21, l_22, l_23, l_25, l_26, l_28, l_30, l_34, l_38, l_42, l_44, l_54, l_60, l_64, l_81, l_90, l_101, l_103, l_110, l_120, l_128, l_140, l_256, l_401, l_403, l_450, l_512, l_853, l_983, l_1000, l_1001, l_2048, l_3000000, l_2000000, l_4096, l_5001, l_5002, l_10000, l_10001, l_32767, l_32768, l_60000, l_2147483647, zJ_lt, zJ_le, zJ_eq, zJ_add, zJ_sub, zJ_mul, zJ_neg, zJ_dv, t_I, t_Ie, t_R, t_Re, t_N, t_Nn, t_V, t_Ve, t_b, t_x, t_w, e_0, e_1, e_2, e_3, ↓t_0, ↓t_1, t_00, t_11, if_true, if_false, ite_not, not_false_eq_true, not_true_eq_false, Int.reduceEq, Int.reduceLT, Int.reduceLE, Int.reduceNeg, Nat.reduceEqDiff, Bool.false_eq_true, k2]
      rw [ih _ _ (by omega) (by omega), hz, zB_1 k1, Int.add_assoc]
theorem L_peakR (hZ : zLA G t Y n X) {a0 : Nat} (hm : 2 ≤ q ∧ q ≤ 10) : ∀ (c : Nat) (k x z : Int) (u : Value), 0 ≤ k → k + c = 12 → (0 ≤ x ∧ x ≤ 1000) → (-1000 ≤ z ∧ z ≤ 1000) → ∃ (y : Int) (v : Value), ev_ G 220 59 [.ref a0, .ref (wA Y 15 608), .ref (wA Y 15 609), .int (zJ p), .int (zJ q), .int (zJ x), .int (zJ z), .int (zJ k), u, zU] [] (wd Y n s X) = ev_ G 220 135 [.ref a0, .ref (wA Y 15 608), .ref (wA Y 15 609), .int (zJ p), .int (zJ q), .int (zJ y), .int (zJ (zpk (X 1030) q c k x z)), .int (zJ (8 * p)), v, zU] [] (wd Y n s X) := by
  have hZ' := hZ
  obtain ⟨hY, hG, hI, pg, pb, pc, pw, pr, ph, ps, pf⟩ := hZ
  have hL := wY_A hY
  have h11 := hI.2.2.2.2.2.2.2.2.2.2.1
  intro c
  induction c with
  | zero =>
    intro k x z u h0 he hx hz
    have e1 : 12 ≤ k := by omega
    refine ⟨x, u, ?_⟩
    rw [q_L_soldered_59]
    simp (disch := first | assumption | omega) only [↓reduceIte, l_0, l_1, l_2, l_3, l_4, l_5, l_6, l_7, l_8, l_9, l_10, l_12, l_16, l_24, l_31, l_32, l_48, l_96, l_99, l_100, l_150, l_180, l_200, l_240, l_255, l_260, l_384, l_400, l_999, l_5000, l_9999, l_1000000, l_1000000000, l_11, l_13, l_14, l_15, l_17, l_18, l_19, l_20, l_21, l_22, l_23, l_25, l_26, l_28, l_30, l_34, l_38, l_42, l_44, l_54, l_60, l_64, l_81, l_90, l_101, l_103, l_110, l_120, l_128, l_140, l_256, l_401, l_403, l_450, l_512, l_853, l_983, l_1000, l_1001, l_2048, l_3000000, l_2000000, l_4096, l_5001, l_5002, l_10000, l_10001, l_32767, l_32768, l_60000, l_2147483647, zJ_lt, zJ_le, zJ_eq, zJ_add, zJ_sub, zJ_mul, zJ_neg, zJ_dv, t_I, t_Ie, t_R, t_Re, t_N, t_Nn, t_V, t_Ve, t_b, t_x, t_w, e_0, e_1, e_2, e_3, ↓t_0, ↓t_1, t_00, t_11, if_true, if_false, ite_not, not_false_eq_true, not_true_eq_false, Int.reduceEq, Int.reduceLT, Int.reduceLE, Int.reduceNeg, Nat.reduceEqDiff, Bool.false_eq_true, e1]
    rfl
  | succ c ih =>
    intro k x z u h0 he hx hz
    have e1 : ¬12 ≤ k := by omega
    have hh : 0 ≤ X 1030 (k / 3) ∧ X 1030 (k / 3) ≤ 400 := by
      have := h11.1 (k / 3) (by omega) (by omega)
      omega
    have e2 := ph.1 (k / 3) (by omega) (by omega)
    have hx' := zpk_x (h := X 1030 (k / 3)) (x := x) (m := q) (by omega) (by omega) hx
    have hst : ∀ v : Value, ev_ G 220 59 [.ref a0, .ref (wA Y 15 608), .ref (wA Y 15 609), .int (zJ p), .int (zJ q), .int (zJ x), .int (zJ z), .int (zJ k), u, zU] [] (wd Y n s X) = ev_ G 220 104 [.ref a0, .ref (wA Y 15 608), .ref (wA Y 15 609), .int (zJ p), .int (zJ q), .int (zJ x), .int (zJ z), .int (zJ k), .int (zJ (X 1030 (k / 3) - x)), zU] [.int (zJ ((X 1030 (k / 3) - x) / q)), .int (zJ x)] (wd Y n s X) := by
      intro _
      have e3 : ¬q = 0 := by omega
      rw [q_L_soldered_59]
      simp (disch := first | assumption | omega) only [↓reduceIte, l_0, l_1, l_2, l_3, l_4, l_5, l_6, l_7, l_8, l_9, l_10, l_12, l_16, l_24, l_31, l_32, l_48, l_96, l_99, l_100, l_150, l_180, l_200, l_240, l_255, l_260, l_384, l_400, l_999, l_5000, l_9999, l_1000000, l_1000000000, l_11, l_13, l_14, l_15, l_17, l_18, l_19, l_20, l_21, l_22, l_23, l_25, l_26, l_28, l_30, l_34, l_38, l_42, l_44, l_54, l_60, l_64, l_81, l_90, l_101, l_103, l_110, l_120, l_128, l_140, l_256, l_401, l_403, l_450, l_512, l_853, l_983, l_1000, l_1001, l_2048, l_3000000, l_2000000, l_4096, l_5001, l_5002, l_10000, l_10001, l_32767, l_32768, l_60000, l_2147483647, zJ_lt, zJ_le, zJ_eq, zJ_add, zJ_sub, zJ_mul, zJ_neg, zJ_dv, t_I, t_Ie, t_R, t_Re, t_N, t_Nn, t_V, t_Ve, t_b, t_x, t_w, e_0, e_1, e_2, e_3, ↓t_0, ↓t_1, t_00, t_11, if_true, if_false, ite_not, not_false_eq_true, not_true_eq_false, Int.reduceEq, Int.reduceLT, Int.reduceLE, Int.reduceNeg, Nat.reduceEqDiff, Bool.false_eq_true, e1, lh_ hL, e2, e3]
      by_cases k1 : 0 ≤ X 1030 (k / 3) - x
      · simp (disch := first | assumption | omega) only [↓reduceIte, l_0, l_1, l_2, l_3, l_4, l_5, l_6, l_7, l_8, l_9, l_10, l_12, l_16, l_24, l_31, l_32, l_48, l_96, l_99, l_100, l_150, l_180, l_200, l_240, l_255, l_260, l_384, l_400, l_999, l_5000, l_9999, l_1000000, l_1000000000, l_11, l_13, l_14, l_15, l_17, l_18, l_19, l_20, l_21, l_22, l_23, l_25, l_26, l_28, l_30, l_34, l_38, l_42, l_44, l_54, l_60, l_64, l_81, l_90, l_101, l_103, l_110, l_120, l_128, l_140, l_256, l_401, l_403, l_450, l_512, l_853, l_983, l_1000, l_1001, l_2048, l_3000000, l_2000000, l_4096, l_5001, l_5002, l_10000, l_10001, l_32767, l_32768, l_60000, l_2147483647, zJ_lt, zJ_le, zJ_eq, zJ_add, zJ_sub, zJ_mul, zJ_neg, zJ_dv, t_I, t_Ie, t_R, t_Re, t_N, t_Nn, t_V, t_Ve, t_b, t_x, t_w, e_0, e_1, e_2, e_3, ↓t_0, ↓t_1, t_00, t_11, if_true, if_false, ite_not, not_false_eq_true, not_true_eq_false, Int.reduceEq, Int.reduceLT, Int.reduceLE, Int.reduceNeg, Nat.reduceEqDiff, Bool.false_eq_true, k1]
      · simp (disch := first | assumption | omega) only [↓reduceIte, l_0, l_1, l_2, l_3, l_4, l_5, l_6, l_7, l_8, l_9, l_10, l_12, l_16, l_24, l_31, l_32, l_48, l_96, l_99, l_100, l_150, l_180, l_200, l_240, l_255, l_260, l_384, l_400, l_999, l_5000, l_9999, l_1000000, l_1000000000, l_11, l_13, l_14, l_15, l_17, l_18, l_19, l_20, l_21, l_22, l_23, l_25, l_26, l_28, l_30, l_34, l_38, l_42, l_44, l_54, l_60, l_64, l_81, l_90, l_101, l_103, l_110, l_120, l_128, l_140, l_256, l_401, l_403, l_450, l_512, l_853, l_983, l_1000, l_1001, l_2048, l_3000000, l_2000000, l_4096, l_5001, l_5002, l_10000, l_10001, l_32767, l_32768, l_60000, l_2147483647, zJ_lt, zJ_le, zJ_eq, zJ_add, zJ_sub, zJ_mul, zJ_neg, zJ_dv, t_I, t_Ie, t_R, t_Re, t_N, t_Nn, t_V, t_Ve, t_b, t_x, t_w, e_0, e_1, e_2, e_3, ↓t_0, ↓t_1, t_00, t_11, if_true, if_false, ite_not, not_false_eq_true, not_true_eq_false, Int.reduceEq, Int.reduceLT, Int.reduceLE, Int.reduceNeg, Nat.reduceEqDiff, Bool.false_eq_true, k1]
        rw [zfl_dn hm (by omega)]
    have hst := hst zU
    generalize hx1 : (X 1030 (k / 3) - x) / q = w at hst hx'
    have hzk : zpk (X 1030) q (c + 1) k x z = zpk (X 1030) q c (k + 1) (x + w) (max z (x + w)) := by
      show zpk (X 1030) q c (k + 1) (x + (X 1030 (k / 3) - x) / q) (max z (x + (X 1030 (k / 3) - x) / q)) = _
      rw [hx1]
    by_cases k2 : x + w ≤ z
    · obtain ⟨y, v, e4⟩ := ih (k + 1) (x + w) z (.int (zJ (X 1030 (k / 3) - x))) (by omega) (by omega) hx' hz
      refine ⟨y, v, ?_⟩
      rw [hst, q_L_soldered_104]
      simp (disch := first | assumption | omega) only [↓reduceIte, l_0, l_1, l_2, l_3, l_4, l_5, l_6, l_7, l_8, l_9, l_10, l_12, l_16, l_24, l_31, l_32, l_48, l_96, l_99, l_100, l_150, l_180, l_200, l_240, l_255, l_260, l_384, l_400, l_999, l_5000, l_9999, l_1000000, l_1000000000, l_11, l_13, l_14, l_15, l_17, l_18, l_19, l_20, l_21, l_22, l_23, l_25, l_26, l_28, l_30, l_34, l_38, l_42, l_44, l_54, l_60, l_64, l_81, l_90, l_101, l_103, l_110, l_120, l_128, l_140, l_256, l_401, l_403, l_450, l_512, l_853, l_983, l_1000, l_1001, l_2048, l_3000000, l_2000000, l_4096, l_5001, l_5002, l_10000, l_10001, l_32767, l_32768, l_60000, l_2147483647, zJ_lt, zJ_le, zJ_eq, zJ_add, zJ_sub, zJ_mul, zJ_neg, zJ_dv, t_I, t_Ie, t_R, t_Re, t_N, t_Nn, t_V, t_Ve, t_b, t_x, t_w, e_0, e_1, e_2, e_3, ↓t_0, ↓t_1, t_00, t_11, if_true, if_false, ite_not, not_false_eq_true, not_true_eq_false, Int.reduceEq, Int.reduceLT, Int.reduceLE, Int.reduceNeg, Nat.reduceEqDiff, Bool.false_eq_true, k2]
      rw [e4, hzk, show max z (x + w) = z by omega]
    · obtain ⟨y, v, e4⟩ := ih (k + 1) (x + w) (x + w) (.int (zJ (X 1030 (k / 3) - x))) (by omega) (by omega) hx' (by omega)
      refine ⟨y, v, ?_⟩
      rw [hst, q_L_soldered_104]
      simp (disch := first | assumption | omega) only [↓reduceIte, l_0, l_1, l_2, l_3, l_4, l_5, l_6, l_7, l_8, l_9, l_10, l_12, l_16, l_24, l_31, l_32, l_48, l_96, l_99, l_100, l_150, l_180, l_200, l_240, l_255, l_260, l_384, l_400, l_999, l_5000, l_9999, l_1000000, l_1000000000, l_11, l_13, l_14, l_15, l_17, l_18, l_19, l_20, l_21, l_22, l_23, l_25, l_26, l_28, l_30, l_34, l_38, l_42, l_44, l_54, l_60, l_64, l_81, l_90, l_101, l_103, l_110, l_120, l_128, l_140, l_256, l_401, l_403, l_450, l_512, l_853, l_983, l_1000, l_1001, l_2048, l_3000000, l_2000000, l_4096, l_5001, l_5002, l_10000, l_10001, l_32767, l_32768, l_60000, l_2147483647, zJ_lt, zJ_le, zJ_eq, zJ_add, zJ_sub, zJ_mul, zJ_neg, zJ_dv, t_I, t_Ie, t_R, t_Re, t_N, t_Nn, t_V, t_Ve, t_b, t_x, t_w, e_0, e_1, e_2, e_3, ↓t_0, ↓t_1, t_00, t_11, if_true, if_false, ite_not, not_false_eq_true, not_true_eq_false, Int.reduceEq, Int.reduceLT, Int.reduceLE, Int.reduceNeg, Nat.reduceEqDiff, Bool.false_eq_true, k2]
      rw [e4, hzk, show max z (x + w) = x + w by omega]
theorem L_soldR (hZ : zLA G t Y n X) (hb : 0 ≤ p ∧ p < X 434 0) (hq : -1000 ≤ q ∧ q ≤ 1000) {x4 x5 : Int32} : ∀ (m : Nat) (k : Int) (X1 : zX) (u v : Value), (∀ f, f ≠ 1109 → X1 f = X f) → (∀ j, k ≤ j → X1 1109 j = X 1109 j) → 8 * p ≤ k → k + m = 8 * p + 8 → ev_ G 220 135 [.ref (wA Y 15 605), .ref (wA Y 15 608), .ref (wA Y 15 609), .int (zJ p), .int x4, .int x5, .int (zJ q), .int (zJ k), u, v] [] (wd Y n s X1) = some (.inl (some (.int (zJ q))), wd Y n s (zsol X X1 p q k)) := by
  have hZ' := hZ
  obtain ⟨hY, hG, hI, pg, pb, pc, pw, pr, ph, ps, pf⟩ := hZ
  have hL := wY_A hY
  have h11 := hI.2.2.2.2.2.2.2.2.2.2.1
  have h12 := hI.2.2.2.2.2.2.2.2.2.2.2
  have h8 := hI.2.2.2.2.2.2.2.1
  have hQ3 := hY.2.2.2.2.1
  have z4 := h12.1
  have h4 := pg.2.2.2.2.2.2.2
  intro m
  induction m with
  | zero =>
    intro k X1 u v hf hj h0 he
    have e1 : 8 * p + 8 ≤ k := by omega
    rw [q_L_soldered_135]
    simp (disch := first | assumption | omega) only [↓reduceIte, l_0, l_1, l_2, l_3, l_4, l_5, l_6, l_7, l_8, l_9, l_10, l_12, l_16, l_24, l_31, l_32, l_48, l_96, l_99, l_100, l_150, l_180, l_200, l_240, l_255, l_260, l_384, l_400, l_999, l_5000, l_9999, l_1000000, l_1000000000, l_11, l_13, l_14, l_15, l_17, l_18, l_19, l_20, l_21, l_22, l_23, l_25, l_26, l_28, l_30, l_34, l_38, l_42, l_44, l_54, l_60, l_64, l_81, l_90, l_101, l_103, l_110, l_120, l_128, l_140, l_256, l_401, l_403, l_450, l_512, l_853, l_983, l_1000, l_1001, l_2048, l_3000000, l_2000000, l_4096, l_5001, l_5002, l_10000, l_10001, l_32767, l_32768, l_60000, l_2147483647, zJ_lt, zJ_le, zJ_eq, zJ_add, zJ_sub, zJ_mul, zJ_neg, zJ_dv, t_I, t_Ie, t_R, t_Re, t_N, t_Nn, t_V, t_Ve, t_b, t_x, t_w, e_0, e_1, e_2, e_3, ↓t_0, ↓t_1, t_00, t_11, if_true, if_false, ite_not, not_false_eq_true, not_true_eq_false, Int.reduceEq, Int.reduceLT, Int.reduceLE, Int.reduceNeg, Nat.reduceEqDiff, Bool.false_eq_true, e1]
    have : zsol X X1 p q k = X1 := by
      funext f j
      exact if_neg (fun g => by omega)
    rw [this]
  | succ m ih =>
    intro k X1 u v hf hj h0 he
    have e1 : ¬8 * p + 8 ≤ k := by omega
    obtain ⟨r1, r2, r3, r4, r5, r6, r7, r8, r9, r10, r11⟩ := pS_r hZ' (k := k) (by omega)
    have ek := hj k (Int.le_refl _)
    rw [q_L_soldered_135]
    by_cases k1 : X 1038 k = -1
    · have k2 : X 1038 k + 1 ≤ 0 := by omega
      simp (disch := first | assumption | omega) only [↓reduceIte, l_0, l_1, l_2, l_3, l_4, l_5, l_6, l_7, l_8, l_9, l_10, l_12, l_16, l_24, l_31, l_32, l_48, l_96, l_99, l_100, l_150, l_180, l_200, l_240, l_255, l_260, l_384, l_400, l_999, l_5000, l_9999, l_1000000, l_1000000000, l_11, l_13, l_14, l_15, l_17, l_18, l_19, l_20, l_21, l_22, l_23, l_25, l_26, l_28, l_30, l_34, l_38, l_42, l_44, l_54, l_60, l_64, l_81, l_90, l_101, l_103, l_110, l_120, l_128, l_140, l_256, l_401, l_403, l_450, l_512, l_853, l_983, l_1000, l_1001, l_2048, l_3000000, l_2000000, l_4096, l_5001, l_5002, l_10000, l_10001, l_32767, l_32768, l_60000, l_2147483647, zJ_lt, zJ_le, zJ_eq, zJ_add, zJ_sub, zJ_mul, zJ_neg, zJ_dv, t_I, t_Ie, t_R, t_Re, t_N, t_Nn, t_V, t_Ve, t_b, t_x, t_w, e_0, e_1, e_2, e_3, ↓t_0, ↓t_1, t_00, t_11, if_true, if_false, ite_not, not_false_eq_true, not_true_eq_false, Int.reduceEq, Int.reduceLT, Int.reduceLE, Int.reduceNeg, Nat.reduceEqDiff, Bool.false_eq_true, zem, e1, ls_ hL, ek, r1, k2]
      rw [ih (k + 1) X1 _ _ hf (fun j a => hj j (by omega)) (by omega) (by omega)]
      refine congrArg (fun Z => (some (Sum.inl (some (Value.int (zJ q))), wd Y n s Z) : zR)) (funext fun f => funext fun j => ?_)
      show (if f = 1109 ∧ k + 1 ≤ j ∧ j < 8 * p + 8 ∧ X 1038 j ≠ -1 then _ else X1 f j) = (if f = 1109 ∧ k ≤ j ∧ j < 8 * p + 8 ∧ X 1038 j ≠ -1 then _ else X1 f j)
      by_cases g : f = 1109 ∧ k + 1 ≤ j ∧ j < 8 * p + 8 ∧ X 1038 j ≠ -1
      · rw [if_pos g, if_pos ⟨g.1, by omega, g.2.2⟩]
      · rw [if_neg g, if_neg]
        rintro ⟨g1, g2, g3, g4⟩
        by_cases hjk : j = k
        · exact g4 (hjk ▸ k1)
        · exact g ⟨g1, by omega, g3, g4⟩
    · have k2 : ¬X 1038 k + 1 ≤ 0 := by omega
      have hs := (h12.2.2.2.2.2 p hb.1 (by omega)).2.2 k h0 (by omega)
      have hr := hs.2.1
      have hq3 := h8.1
      have r2' := h8.2.1 (X 1038 k) (by omega) (by omega)
      have e3 := pr (X 1038 k) (by omega) (by omega)
      have e5 : X 1105 (X 1038 k) % 8 = X 1026 (X 1038 k) := by omega
      obtain ⟨ph1, ph2, ph3, ph4⟩ := ph
      have e6 := ph2 (X 1026 (X 1038 k)) r2'.1.1 r2'.1.2
      have o := h11.2 (X 1026 (X 1038 k)) r2'.1.1 r2'.1.2
      have f1105 : X1 1105 = X 1105 := hf 1105 (by decide)
      have f1108 : X1 1108 = X 1108 := hf 1108 (by decide)
      have e7 : X 1038 k + 1 - 1 = X 1038 k := by omega
      have hst : ev_ G 220 135 [.ref (wA Y 15 605), .ref (wA Y 15 608), .ref (wA Y 15 609), .int (zJ p), .int x4, .int x5, .int (zJ q), .int (zJ k), u, v] [] (wd Y n s X1) = ev_ G 220 205 [.ref (wA Y 15 605), .ref (wA Y 15 608), .ref (wA Y 15 609), .int (zJ p), .int x4, .int x5, .int (zJ q), .int (zJ k), .int (zJ (X 1026 (X 1038 k))), v] [.int (zJ (zjf (X 1031 (X 1026 (X 1038 k))) (X 1032 (X 1026 (X 1038 k))) q))] (wd Y n s X1) := by
        rw [q_L_soldered_135]
        simp (disch := first | assumption | omega) only [↓reduceIte, l_0, l_1, l_2, l_3, l_4, l_5, l_6, l_7, l_8, l_9, l_10, l_12, l_16, l_24, l_31, l_32, l_48, l_96, l_99, l_100, l_150, l_180, l_200, l_240, l_255, l_260, l_384, l_400, l_999, l_5000, l_9999, l_1000000, l_1000000000, l_11, l_13, l_14, l_15, l_17, l_18, l_19, l_20, l_21, l_22, l_23, l_25, l_26, l_28, l_30, l_34, l_38, l_42, l_44, l_54, l_60, l_64, l_81, l_90, l_101, l_103, l_110, l_120, l_128, l_140, l_256, l_401, l_403, l_450, l_512, l_853, l_983, l_1000, l_1001, l_2048, l_3000000, l_2000000, l_4096, l_5001, l_5002, l_10000, l_10001, l_32767, l_32768, l_60000, l_2147483647, zJ_lt, zJ_le, zJ_eq, zJ_add, zJ_sub, zJ_mul, zJ_neg, zJ_dv, t_I, t_Ie, t_R, t_Re, t_N, t_Nn, t_V, t_Ve, t_b, t_x, t_w, e_0, e_1, e_2, e_3, ↓t_0, ↓t_1, t_00, t_11, if_true, if_false, ite_not, not_false_eq_true, not_true_eq_false, Int.reduceEq, Int.reduceLT, Int.reduceLE, Int.reduceNeg, Nat.reduceEqDiff, Bool.false_eq_true, zem, e1, ls_ hL, le_ hL, lh_ hL, ek, r1, k2, e7, f1105, f1108, e5, e6.1, e6.2]
        unfold zjf
        by_cases g1 : X 1031 (X 1026 (X 1038 k)) ≤ q
        · by_cases g2 : q ≤ X 1032 (X 1026 (X 1038 k))
          · simp (disch := first | assumption | omega) only [↓reduceIte, l_0, l_1, l_2, l_3, l_4, l_5, l_6, l_7, l_8, l_9, l_10, l_12, l_16, l_24, l_31, l_32, l_48, l_96, l_99, l_100, l_150, l_180, l_200, l_240, l_255, l_260, l_384, l_400, l_999, l_5000, l_9999, l_1000000, l_1000000000, l_11, l_13, l_14, l_15, l_17, l_18, l_19, l_20, l_21, l_22, l_23, l_25, l_26, l_28, l_30, l_34, l_38, l_42, l_44, l_54, l_60, l_64, l_81, l_90, l_101, l_103, l_110, l_120, l_128, l_140, l_256, l_401, l_403, l_450, l_512, l_853, l_983, l_1000, l_1001, l_2048, l_3000000, l_2000000, l_4096, l_5001, l_5002, l_10000, l_10001, l_32767, l_32768, l_60000, l_2147483647, zJ_lt, zJ_le, zJ_eq, zJ_add, zJ_sub, zJ_mul, zJ_neg, zJ_dv, t_I, t_Ie, t_R, t_Re, t_N, t_Nn, t_V, t_Ve, t_b, t_x, t_w, e_0, e_1, e_2, e_3, ↓t_0, ↓t_1, t_00, t_11, if_true, if_false, ite_not, not_false_eq_true, not_true_eq_false, Int.reduceEq, Int.reduceLT, Int.reduceLE, Int.reduceNeg, Nat.reduceEqDiff, Bool.false_eq_true, g1, g2]
            rw [if_neg (by omega), if_neg (by omega)]
          · simp (disch := first | assumption | omega) only [↓reduceIte, l_0, l_1, l_2, l_3, l_4, l_5, l_6, l_7, l_8, l_9, l_10, l_12, l_16, l_24, l_31, l_32, l_48, l_96, l_99, l_100, l_150, l_180, l_200, l_240, l_255, l_260, l_384, l_400, l_999, l_5000, l_9999, l_1000000, l_1000000000, l_11, l_13, l_14, l_15, l_17, l_18, l_19, l_20, l_21, l_22, l_23, l_25, l_26, l_28, l_30, l_34, l_38, l_42, l_44, l_54, l_60, l_64, l_81, l_90, l_101, l_103, l_110, l_120, l_128, l_140, l_256, l_401, l_403, l_450, l_512, l_853, l_983, l_1000, l_1001, l_2048, l_3000000, l_2000000, l_4096, l_5001, l_5002, l_10000, l_10001, l_32767, l_32768, l_60000, l_2147483647, zJ_lt, zJ_le, zJ_eq, zJ_add, zJ_sub, zJ_mul, zJ_neg, zJ_dv, t_I, t_Ie, t_R, t_Re, t_N, t_Nn, t_V, t_Ve, t_b, t_x, t_w, e_0, e_1, e_2, e_3, ↓t_0, ↓t_1, t_00, t_11, if_true, if_false, ite_not, not_false_eq_true, not_true_eq_false, Int.reduceEq, Int.reduceLT, Int.reduceLE, Int.reduceNeg, Nat.reduceEqDiff, Bool.false_eq_true, g1, g2]
            rw [if_neg (by omega), if_pos (by omega)]
        · simp (disch := first | assumption | omega) only [↓reduceIte, l_0, l_1, l_2, l_3, l_4, l_5, l_6, l_7, l_8, l_9, l_10, l_12, l_16, l_24, l_31, l_32, l_48, l_96, l_99, l_100, l_150, l_180, l_200, l_240, l_255, l_260, l_384, l_400, l_999, l_5000, l_9999, l_1000000, l_1000000000, l_11, l_13, l_14, l_15, l_17, l_18, l_19, l_20, l_21, l_22, l_23, l_25, l_26, l_28, l_30, l_34, l_38, l_42, l_44, l_54, l_60, l_64, l_81, l_90, l_101, l_103, l_110, l_120, l_128, l_140, l_256, l_401, l_403, l_450, l_512, l_853, l_983, l_1000, l_1001, l_2048, l_3000000, l_2000000, l_4096, l_5001, l_5002, l_10000, l_10001, l_32767, l_32768, l_60000, l_2147483647, zJ_lt, zJ_le, zJ_eq, zJ_add, zJ_sub, zJ_mul, zJ_neg, zJ_dv, t_I, t_Ie, t_R, t_Re, t_N, t_Nn, t_V, t_Ve, t_b, t_x, t_w, e_0, e_1, e_2, e_3, ↓t_0, ↓t_1, t_00, t_11, if_true, if_false, ite_not, not_false_eq_true, not_true_eq_false, Int.reduceEq, Int.reduceLT, Int.reduceLE, Int.reduceNeg, Nat.reduceEqDiff, Bool.false_eq_true, g1]
          rw [if_pos (by omega)]
      have hst' := hst
      rw [q_L_soldered_135] at hst'
      rw [hst', q_L_soldered_205]
      generalize hj2 : zjf (X 1031 (X 1026 (X 1038 k))) (X 1032 (X 1026 (X 1038 k))) q = z
      simp (disch := first | assumption | omega) only [↓reduceIte, l_0, l_1, l_2, l_3, l_4, l_5, l_6, l_7, l_8, l_9, l_10, l_12, l_16, l_24, l_31, l_32, l_48, l_96, l_99, l_100, l_150, l_180, l_200, l_240, l_255, l_260, l_384, l_400, l_999, l_5000, l_9999, l_1000000, l_1000000000, l_11, l_13, l_14, l_15, l_17, l_18, l_19, l_20, l_21, l_22, l_23, l_25, l_26, l_28, l_30, l_34, l_38, l_42, l_44, l_54, l_60, l_64, l_81, l_90, l_101, l_103, l_110, l_120, l_128, l_140, l_256, l_401, l_403, l_450, l_512, l_853, l_983, l_1000, l_1001, l_2048, l_3000000, l_2000000, l_4096, l_5001, l_5002, l_10000, l_10001, l_32767, l_32768, l_60000, l_2147483647, zJ_lt, zJ_le, zJ_eq, zJ_add, zJ_sub, zJ_mul, zJ_neg, zJ_dv, t_I, t_Ie, t_R, t_Re, t_N, t_Nn, t_V, t_Ve, t_b, t_x, t_w, e_0, e_1, e_2, e_3, ↓t_0, ↓t_1, t_00, t_11, if_true, if_false, ite_not, not_false_eq_true, not_true_eq_false, Int.reduceEq, Int.reduceLT, Int.reduceLE, Int.reduceNeg, Nat.reduceEqDiff, Bool.false_eq_true, ls_ hL, ss_ hL, ek]
      rw [ih (k + 1) (wu X1 1109 k _) _ _ (fun f g => by rw [← hf f g]; funext j; exact wu_ne g) (fun j a => by rw [wu_ni (by omega)]; exact hj j (by omega)) (by omega) (by omega)]
      refine congrArg (fun Z => (some (Sum.inl (some (Value.int (zJ q))), wd Y n s Z) : zR)) (funext fun f => funext fun j => ?_)
      show (if f = 1109 ∧ k + 1 ≤ j ∧ j < 8 * p + 8 ∧ X 1038 j ≠ -1 then _ else wu X1 1109 k _ f j) = (if f = 1109 ∧ k ≤ j ∧ j < 8 * p + 8 ∧ X 1038 j ≠ -1 then _ else X1 f j)
      by_cases g : f = 1109 ∧ k + 1 ≤ j ∧ j < 8 * p + 8 ∧ X 1038 j ≠ -1
      · rw [if_pos g, if_pos ⟨g.1, by omega, g.2.2⟩]
      · rw [if_neg g]
        by_cases g5 : f = 1109 ∧ j = k
        · rw [g5.1, g5.2, wu_eq, if_pos ⟨rfl, Int.le_refl _, by omega, k1⟩, hj2]
        · rw [if_neg (fun g6 => g ⟨g6.1, by omega, g6.2.2⟩)]
          by_cases g7 : f = 1109
          · rw [g7, wu_ni (fun g8 => g5 ⟨g7, g8⟩)]
          · exact wu_ne g7
theorem L_soldered (hZ : zLA G t Y n X) (hb : 0 ≤ p ∧ p < X 434 0) : ev_ G 220 0 [.ref (wA Y 15 605), .ref (wA Y 15 608), .ref (wA Y 15 609), .int (zJ p), zU, zU, zU, zU, zU, zU] [] (wd Y n s X) = some (.inl (some (.int (zJ (zpk (X 1030) (zmk X p) 12 0 25 (-1))))), wd Y n s (zsol X X p (zpk (X 1030) (zmk X p) 12 0 25 (-1)) (8 * p))) ∧ 0 ≤ zpk (X 1030) (zmk X p) 12 0 25 (-1) ∧ zpk (X 1030) (zmk X p) 12 0 25 (-1) ≤ 1000 := by
  have h11 := hZ.2.2.1.2.2.2.2.2.2.2.2.2.2.1
  have h4 := hZ.2.2.2.1.2.2.2.2.2.2.2
  have hh : ∀ z, 0 ≤ z → z < 4 → 0 ≤ X 1030 z ∧ X 1030 z ≤ 1000 := fun z a b => by
    have := h11.1 z a b
    omega
  have hmk := zmk_r X p
  have hr : 0 ≤ zpk (X 1030) (zmk X p) 12 0 25 (-1) ∧ zpk (X 1030) (zmk X p) 12 0 25 (-1) ≤ 1000 := by
    rw [zpk_1 (by omega) hh]
    exact zpk_r (by omega) hh 12 0 25 0 (by decide) (by decide) (by decide) (by decide)
  refine ⟨?_, hr⟩
  rw [q_L_soldered_0, l_2, l_8, zJ_mul, L_massR hZ (by omega) 8 (8 * p) 2 (by omega) (by omega)]
  rw [show (2 : Int) + zsm (fun m => zB (X 1038 m ≠ -1)) (8 * p) 8 = zmk X p from rfl]
  obtain ⟨y, v, e⟩ := L_peakR (s := s) (p := p) (a0 := wA Y 15 605) hZ (q := zmk X p) hmk 12 0 25 (-1000) zU (by decide) (by decide) (by decide) (by decide)
  rw [e, zpk_k (by omega) hh]
  exact L_soldR hZ hb (by omega) 8 (8 * p) X _ _ (fun _ _ => rfl) (fun _ _ => rfl) (by omega) (by omega)
end ZL
