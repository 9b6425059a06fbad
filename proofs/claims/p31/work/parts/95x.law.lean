/-! THE LAW, 2: its small methods -/
theorem zan7 (x : Int32) : 0 ≤ (x &&& 2147483647).toInt := by
  show 0 ≤ (x &&& 2147483647).toBitVec.toInt
  rw [Int32.toBitVec_and, BitVec.toInt_eq_toNat_of_msb]
  · omega
  · rw [BitVec.msb_and, show (2147483647 : Int32).toBitVec.msb = false from by decide, Bool.and_false]
section ZL
variable {Y : zLy} {n s : Nat} {X : zX} {G : Nat × Nat} {t p q r k j : Int}
/-- a number out of the script -/
theorem L_part {W : zW} {ps m kd : Nat} {fa : Nat → Int32} (hp : W.2.2 ps = some (zEi kd m fa)) (hk : kd ≠ 1) (hm : m ≤ 1000) (h0 : 0 ≤ k ∧ k < 1000) (hq : 0 < q ∧ q < 100000) : ∃ r : Int, (0 ≤ r ∧ r < q) ∧ ev_ G 206 0 [.ref ps, .int (zJ k), .int (zJ q), zU] [] W = some (.inl (some (.int (zJ r))), W) := by
  have hl : zlen W ps = some (zJ m) := by
    unfold zlen
    rw [hp]
    exact congrArg some (zJ_ofNat _)
  have hr : ∀ x : Int32, (x &&& 2147483647) - (x &&& 2147483647) / zJ q * zJ q = zJ ((x &&& 2147483647).toInt % q) := by
    intro x
    have h1 := zan7 x
    have h2 := Int32.toInt_lt (x &&& 2147483647)
    have e := zJ_of (x &&& 2147483647)
    generalize (x &&& 2147483647).toInt = c at h1 h2 e
    rw [e, zJ_dv h1 h2 hq.1 (by omega), zJ_mul, zJ_sub, zem]
  have hq0 : ¬zJ q = 0 := by
    rw [l_0, zJ_eq (by omega) (by omega) (by decide) (by decide)]
    omega
  have hb : ∀ c : Int, 0 ≤ c % q ∧ c % q < q := fun c => ⟨Int.emod_nonneg c (by omega), Int.emod_lt_of_pos c hq.1⟩
  rw [q_L_part_0, hl, t_b]
  by_cases h : (m : Int) ≤ k
  · refine ⟨(983 * zJ k + 853 * zJ k * zJ k &&& 2147483647).toInt % q, hb _, ?_⟩
    rw [if_pos (by rw [zJ_le (by omega) (by omega) (by omega) (by omega)]; exact h), if_neg hq0, hr]
  · have hd : zld false W ps (zJ k) = some (fa k.toNat) := by
      unfold zld
      rw [hp]
      show (if zoff (zJ k) m ∨ false ≠ decide (kd = 1) then none else some (fa (zJ k).toNatClampNeg)) = _
      rw [if_neg (fun g => g.elim (zoff_not h0.1 (by omega) (by omega)) (fun g => g (decide_eq_false hk).symm)), zJ_clamp h0.1 (by omega)]
    refine ⟨(fa k.toNat &&& 2147483647).toInt % q, hb _, ?_⟩
    rw [if_neg (by rw [zJ_le (by omega) (by omega) (by omega) (by omega)]; exact h), hd, t_b, if_neg hq0, hr]
/-- a wire's number of the law -/
theorem pW_r (hZ : zLA G t Y n X) (hk : 0 ≤ k ∧ k < X 410 0) : X 410 0 ≤ 24 ∧ (0 ≤ X 1012 (2 * k) ∧ X 1012 (2 * k) < 64) ∧ (0 ≤ X 1012 (2 * k + 1) ∧ X 1012 (2 * k + 1) < 64) ∧ (0 ≤ X 1013 k ∧ X 1013 k < 8) ∧ (0 ≤ X 1011 k ∧ X 1011 k ≤ 1) ∧ X 246 k = X 1011 k ∧ X 244 k = X 1013 k := by
  obtain ⟨hY, hG, hI, pg, pb, pc, pw, pr, ph, ps, pf⟩ := hZ
  have h4 := hI.2.2.2.1
  have hQ1 := hY.2.2.1
  have hQ2 := hY.2.2.2.1
  have z1 := h4.1
  obtain ⟨a1, a2, a3, a4⟩ := h4.2.2.2 k hk.1 (by omega)
  have b := h4.2.1 k hk.1 (by omega)
  omega
theorem L_weightR (hZ : zLA G t Y n X) (ho : 0 ≤ p ∧ p ≤ 255) : ∀ (m : Nat) (k a : Int), 0 ≤ k → k + m = X 410 0 → ev_ G 211 6 [.ref (wA Y 15 603), .ref (wA Y 15 604), .ref (wA Y 15 613), .int (zJ p), .int (zJ a), .int (zJ k)] [] (wd Y n s X) = some (.inl (some (.int (zJ (a + zsm (zwt X p) k m)))), wd Y n s X) := by
  have hZ' := hZ
  obtain ⟨hY, hG, hI, pg, pb, pc, pw, pr, ph, ps, pf⟩ := hZ
  have hL := wY_A hY
  have hn0 : X 410 0 ≤ 24 := by
    have h4 := hI.2.2.2.1.1
    have := hY.2.2.2.1
    omega
  intro m
  induction m with
  | zero =>
    intro k a h0 he
    have e1 : X 410 0 ≤ k := by omega
    rw [q_L_weight_6]
    simp (disch := first | assumption | omega) only [↓reduceIte, l_0, l_1, l_2, l_3, l_4, l_5, l_6, l_7, l_8, l_9, l_10, l_12, l_16, l_24, l_31, l_32, l_48, l_96, l_99, l_100, l_150, l_180, l_200, l_240, l_255, l_260, l_384, l_400, l_999, l_5000, l_9999, l_1000000, l_1000000000, l_11, l_13, l_14, l_15, l_17, l_18, l_19, l_20, l_21, l_22, l_23, l_25, l_26, l_28, l_30, l_34, l_38, l_42, l_44, l_54, l_60, l_64, l_81, l_90, l_101, l_103, l_110, l_120, l_128, l_140, l_256, l_401, l_403, l_450, l_512, l_853, l_983, l_1000, l_1001, l_2048, l_3000000, l_2000000, l_4096, l_5001, l_5002, l_10000, l_10001, l_32767, l_32768, l_60000, l_2147483647, zJ_lt, zJ_le, zJ_eq, zJ_add, zJ_sub, zJ_mul, zJ_neg, zJ_dv, t_I, t_Ie, t_R, t_Re, t_N, t_Nn, t_V, t_Ve, t_b, t_x, t_w, e_0, e_1, e_2, e_3, ↓t_0, ↓t_1, t_00, t_11, if_true, if_false, ite_not, not_false_eq_true, not_true_eq_false, Int.reduceEq, Int.reduceLT, Int.reduceLE, Int.reduceNeg, Nat.reduceEqDiff, Bool.false_eq_true, lg_ hL, pg.2.2.1, e1]
    rw [show zsm (zwt X p) k 0 = 0 from rfl, Int.add_zero]
  | succ m ih =>
    intro k a h0 he
    have e1 : ¬X 410 0 ≤ k := by omega
    obtain ⟨-, r1, r2, r3, r4, r5, r6⟩ := pW_r hZ' (k := k) ⟨h0, by omega⟩
    obtain ⟨w1, w2, w3, w4⟩ := pw.1 k h0 (by omega)
    have hz : zsm (zwt X p) k (m + 1) = zwt X p k + zsm (zwt X p) (k + 1) m := rfl
    rw [q_L_weight_6]
    simp (disch := first | assumption | omega) only [↓reduceIte, l_0, l_1, l_2, l_3, l_4, l_5, l_6, l_7, l_8, l_9, l_10, l_12, l_16, l_24, l_31, l_32, l_48, l_96, l_99, l_100, l_150, l_180, l_200, l_240, l_255, l_260, l_384, l_400, l_999, l_5000, l_9999, l_1000000, l_1000000000, l_11, l_13, l_14, l_15, l_17, l_18, l_19, l_20, l_21, l_22, l_23, l_25, l_26, l_28, l_30, l_34, l_38, l_42, l_44, l_54, l_60, l_64, l_81, l_90, l_101, l_103, l_110, l_120, l_128, l_140, l_256, l_401, l_403, l_450, l_512, l_853, l_983, l_1000, l_1001, l_2048, l_3000000, l_2000000, l_4096, l_5001, l_5002, l_10000, l_10001, l_32767, l_32768, l_60000, l_2147483647, zJ_lt, zJ_le, zJ_eq, zJ_add, zJ_sub, zJ_mul, zJ_neg, zJ_dv, t_I, t_Ie, t_R, t_Re, t_N, t_Nn, t_V, t_Ve, t_b, t_x, t_w, e_0, e_1, e_2, e_3, ↓t_0, ↓t_1, t_00, t_11, if_true, if_false, ite_not, not_false_eq_true, not_true_eq_false, Int.reduceEq, Int.reduceLT, Int.reduceLE, Int.reduceNeg, Nat.reduceEqDiff, Bool.false_eq_true, lg_ hL, lw_ hL, ly_ hL, pg.2.2.1, e1]
    by_cases k1 : X 1011 k = 0
    · have e2 : ¬32768 ≤ X 1103 k := by omega
      have e3 : X 1103 k / 4096 = X 1013 k := by omega
      simp (disch := first | assumption | omega) only [↓reduceIte, l_0, l_1, l_2, l_3, l_4, l_5, l_6, l_7, l_8, l_9, l_10, l_12, l_16, l_24, l_31, l_32, l_48, l_96, l_99, l_100, l_150, l_180, l_200, l_240, l_255, l_260, l_384, l_400, l_999, l_5000, l_9999, l_1000000, l_1000000000, l_11, l_13, l_14, l_15, l_17, l_18, l_19, l_20, l_21, l_22, l_23, l_25, l_26, l_28, l_30, l_34, l_38, l_42, l_44, l_54, l_60, l_64, l_81, l_90, l_101, l_103, l_110, l_120, l_128, l_140, l_256, l_401, l_403, l_450, l_512, l_853, l_983, l_1000, l_1001, l_2048, l_3000000, l_2000000, l_4096, l_5001, l_5002, l_10000, l_10001, l_32767, l_32768, l_60000, l_2147483647, zJ_lt, zJ_le, zJ_eq, zJ_add, zJ_sub, zJ_mul, zJ_neg, zJ_dv, t_I, t_Ie, t_R, t_Re, t_N, t_Nn, t_V, t_Ve, t_b, t_x, t_w, e_0, e_1, e_2, e_3, ↓t_0, ↓t_1, t_00, t_11, if_true, if_false, ite_not, not_false_eq_true, not_true_eq_false, Int.reduceEq, Int.reduceLT, Int.reduceLE, Int.reduceNeg, Nat.reduceEqDiff, Bool.false_eq_true, e2, e3, zb2_e, zb_e ho r3]
      by_cases k2 : zbt p (X 1013 k) = true
      · simp (disch := first | assumption | omega) only [k2, ↓reduceIte, l_0, l_1, l_2, l_3, l_4, l_5, l_6, l_7, l_8, l_9, l_10, l_12, l_16, l_24, l_31, l_32, l_48, l_96, l_99, l_100, l_150, l_180, l_200, l_240, l_255, l_260, l_384, l_400, l_999, l_5000, l_9999, l_1000000, l_1000000000, l_11, l_13, l_14, l_15, l_17, l_18, l_19, l_20, l_21, l_22, l_23, l_25, l_26, l_28, l_30, l_34, l_38, l_42, l_44, l_54, l_60, l_64, l_81, l_90, l_101, l_103, l_110, l_120, l_128, l_140, l_256, l_401, l_403, l_450, l_512, l_853, l_983, l_1000, l_1001, l_2048, l_3000000, l_2000000, l_4096, l_5001, l_5002, l_10000, l_10001, l_32767, l_32768, l_60000, l_2147483647, zJ_lt, zJ_le, zJ_eq, zJ_add, zJ_sub, zJ_mul, zJ_neg, zJ_dv, t_I, t_Ie, t_R, t_Re, t_N, t_Nn, t_V, t_Ve, t_b, t_x, t_w, e_0, e_1, e_2, e_3, ↓t_0, ↓t_1, t_00, t_11, if_true, if_false, ite_not, not_false_eq_true, not_true_eq_false, Int.reduceEq, Int.reduceLT, Int.reduceLE, Int.reduceNeg, Nat.reduceEqDiff, Bool.false_eq_true, ly_ hL]
        rw [ih _ _ (by omega) (by omega), hz, w2]
        unfold zwt
        rw [if_pos ⟨by omega, by rw [r6]; exact k2⟩, Int.add_assoc]
      · simp (disch := first | assumption | omega) only [k2, ↓reduceIte, l_0, l_1, l_2, l_3, l_4, l_5, l_6, l_7, l_8, l_9, l_10, l_12, l_16, l_24, l_31, l_32, l_48, l_96, l_99, l_100, l_150, l_180, l_200, l_240, l_255, l_260, l_384, l_400, l_999, l_5000, l_9999, l_1000000, l_1000000000, l_11, l_13, l_14, l_15, l_17, l_18, l_19, l_20, l_21, l_22, l_23, l_25, l_26, l_28, l_30, l_34, l_38, l_42, l_44, l_54, l_60, l_64, l_81, l_90, l_101, l_103, l_110, l_120, l_128, l_140, l_256, l_401, l_403, l_450, l_512, l_853, l_983, l_1000, l_1001, l_2048, l_3000000, l_2000000, l_4096, l_5001, l_5002, l_10000, l_10001, l_32767, l_32768, l_60000, l_2147483647, zJ_lt, zJ_le, zJ_eq, zJ_add, zJ_sub, zJ_mul, zJ_neg, zJ_dv, t_I, t_Ie, t_R, t_Re, t_N, t_Nn, t_V, t_Ve, t_b, t_x, t_w, e_0, e_1, e_2, e_3, ↓t_0, ↓t_1, t_00, t_11, if_true, if_false, ite_not, not_false_eq_true, not_true_eq_false, Int.reduceEq, Int.reduceLT, Int.reduceLE, Int.reduceNeg, Nat.reduceEqDiff, Bool.false_eq_true]
        rw [ih _ _ (by omega) (by omega), hz]
        unfold zwt
        rw [if_neg (fun g => k2 (r6 ▸ g.2)), Int.add_assoc]
    · have e2 : 32768 ≤ X 1103 k := by omega
      simp (disch := first | assumption | omega) only [↓reduceIte, l_0, l_1, l_2, l_3, l_4, l_5, l_6, l_7, l_8, l_9, l_10, l_12, l_16, l_24, l_31, l_32, l_48, l_96, l_99, l_100, l_150, l_180, l_200, l_240, l_255, l_260, l_384, l_400, l_999, l_5000, l_9999, l_1000000, l_1000000000, l_11, l_13, l_14, l_15, l_17, l_18, l_19, l_20, l_21, l_22, l_23, l_25, l_26, l_28, l_30, l_34, l_38, l_42, l_44, l_54, l_60, l_64, l_81, l_90, l_101, l_103, l_110, l_120, l_128, l_140, l_256, l_401, l_403, l_450, l_512, l_853, l_983, l_1000, l_1001, l_2048, l_3000000, l_2000000, l_4096, l_5001, l_5002, l_10000, l_10001, l_32767, l_32768, l_60000, l_2147483647, zJ_lt, zJ_le, zJ_eq, zJ_add, zJ_sub, zJ_mul, zJ_neg, zJ_dv, t_I, t_Ie, t_R, t_Re, t_N, t_Nn, t_V, t_Ve, t_b, t_x, t_w, e_0, e_1, e_2, e_3, ↓t_0, ↓t_1, t_00, t_11, if_true, if_false, ite_not, not_false_eq_true, not_true_eq_false, Int.reduceEq, Int.reduceLT, Int.reduceLE, Int.reduceNeg, Nat.reduceEqDiff, Bool.false_eq_true, e2]
      rw [ih _ _ (by omega) (by omega), hz]
      unfold zwt
      rw [if_neg (fun g => k1 (by omega)), Int.add_assoc]
theorem L_weight (hZ : zLA G t Y n X) (ho : 0 ≤ p ∧ p ≤ 255) : ev_ G 211 0 [.ref (wA Y 15 603), .ref (wA Y 15 604), .ref (wA Y 15 613), .int (zJ p), zU, zU] [] (wd Y n s X) = some (.inl (some (.int (zJ (zsm (zwt X p) 0 (Y.2.2.2.2 0 2).toNat)))), wd Y n s X) := by
  have h4 := hZ.2.2.1.2.2.2.1.1
  have := hZ.1.2.2.2.1
  rw [q_L_weight_0, l_0, L_weightR hZ ho (X 410 0).toNat 0 0 (by decide) (by omega), Int.zero_add, h4]
/-- a reel's clock -/
theorem L_runs (hZ : zLA G t Y n X) (hk : 0 ≤ k ∧ k < X 425 0) : ev_ G 213 0 [.ref (wA Y 15 605), .ref (wA Y 15 607), .ref (wA Y 15 608), .int (zJ k), zU] [] (wd Y n s X) = some (.inl (some (.int (zJ (zclk (X 1029 k + 1) (X 1028 k) (X 1029 k) (X 424 0))))), wd Y n s X) := by
  obtain ⟨hY, hG, hI, pg, pb, pc, pw, pr, ph, ps, pf⟩ := hZ
  have hL := wY_A hY
  have hQ3 := hY.2.2.2.2.1
  have h8 := hI.2.2.2.2.2.2.2.1
  have h9 := hI.2.2.2.2.2.2.2.2.1
  unfold iM at h9
  have r1 := h8.1
  have r2 := h8.2.1 k hk.1 (by omega)
  obtain ⟨p1, p2, p3⟩ := pr k hk.1 hk.2
  have e3 : X 1105 k / 8 = X 1028 k := by omega
  rw [q_L_runs_0]
  simp (disch := first | assumption | omega) only [↓reduceIte, l_0, l_1, l_2, l_3, l_4, l_5, l_6, l_7, l_8, l_9, l_10, l_12, l_16, l_24, l_31, l_32, l_48, l_96, l_99, l_100, l_150, l_180, l_200, l_240, l_255, l_260, l_384, l_400, l_999, l_5000, l_9999, l_1000000, l_1000000000, l_11, l_13, l_14, l_15, l_17, l_18, l_19, l_20, l_21, l_22, l_23, l_25, l_26, l_28, l_30, l_34, l_38, l_42, l_44, l_54, l_60, l_64, l_81, l_90, l_101, l_103, l_110, l_120, l_128, l_140, l_256, l_401, l_403, l_450, l_512, l_853, l_983, l_1000, l_1001, l_2048, l_3000000, l_2000000, l_4096, l_5001, l_5002, l_10000, l_10001, l_32767, l_32768, l_60000, l_2147483647, zJ_lt, zJ_le, zJ_eq, zJ_add, zJ_sub, zJ_mul, zJ_neg, zJ_dv, t_I, t_Ie, t_R, t_Re, t_N, t_Nn, t_V, t_Ve, t_b, t_x, t_w, e_0, e_1, e_2, e_3, ↓t_0, ↓t_1, t_00, t_11, if_true, if_false, ite_not, not_false_eq_true, not_true_eq_false, Int.reduceEq, Int.reduceLT, Int.reduceLE, Int.reduceNeg, Nat.reduceEqDiff, Bool.false_eq_true, le_ hL, lo_ hL, lh_ hL, p3, ph.2.2.2, e3]
  unfold zclk
  by_cases k1 : 0 ≤ X 1029 k
  · simp (disch := first | assumption | omega) only [k1, ↓reduceIte, l_0, l_1, l_2, l_3, l_4, l_5, l_6, l_7, l_8, l_9, l_10, l_12, l_16, l_24, l_31, l_32, l_48, l_96, l_99, l_100, l_150, l_180, l_200, l_240, l_255, l_260, l_384, l_400, l_999, l_5000, l_9999, l_1000000, l_1000000000, l_11, l_13, l_14, l_15, l_17, l_18, l_19, l_20, l_21, l_22, l_23, l_25, l_26, l_28, l_30, l_34, l_38, l_42, l_44, l_54, l_60, l_64, l_81, l_90, l_101, l_103, l_110, l_120, l_128, l_140, l_256, l_401, l_403, l_450, l_512, l_853, l_983, l_1000, l_1001, l_2048, l_3000000, l_2000000, l_4096, l_5001, l_5002, l_10000, l_10001, l_32767, l_32768, l_60000, l_2147483647, zJ_lt, zJ_le, zJ_eq, zJ_add, zJ_sub, zJ_mul, zJ_neg, zJ_dv, t_I, t_Ie, t_R, t_Re, t_N, t_Nn, t_V, t_Ve, t_b, t_x, t_w, e_0, e_1, e_2, e_3, ↓t_0, ↓t_1, t_00, t_11, if_true, if_false, ite_not, not_false_eq_true, not_true_eq_false, Int.reduceEq, Int.reduceLT, Int.reduceLE, Int.reduceNeg, Nat.reduceEqDiff, Bool.false_eq_true]
    rw [q_L_runs_25]
    by_cases k2 : 0 ≤ X 1028 k - (X 424 0 - X 1029 k)
    · simp (disch := first | assumption | omega) only [k2, ↓reduceIte, l_0, l_1, l_2, l_3, l_4, l_5, l_6, l_7, l_8, l_9, l_10, l_12, l_16, l_24, l_31, l_32, l_48, l_96, l_99, l_100, l_150, l_180, l_200, l_240, l_255, l_260, l_384, l_400, l_999, l_5000, l_9999, l_1000000, l_1000000000, l_11, l_13, l_14, l_15, l_17, l_18, l_19, l_20, l_21, l_22, l_23, l_25, l_26, l_28, l_30, l_34, l_38, l_42, l_44, l_54, l_60, l_64, l_81, l_90, l_101, l_103, l_110, l_120, l_128, l_140, l_256, l_401, l_403, l_450, l_512, l_853, l_983, l_1000, l_1001, l_2048, l_3000000, l_2000000, l_4096, l_5001, l_5002, l_10000, l_10001, l_32767, l_32768, l_60000, l_2147483647, zJ_lt, zJ_le, zJ_eq, zJ_add, zJ_sub, zJ_mul, zJ_neg, zJ_dv, t_I, t_Ie, t_R, t_Re, t_N, t_Nn, t_V, t_Ve, t_b, t_x, t_w, e_0, e_1, e_2, e_3, ↓t_0, ↓t_1, t_00, t_11, if_true, if_false, ite_not, not_false_eq_true, not_true_eq_false, Int.reduceEq, Int.reduceLT, Int.reduceLE, Int.reduceNeg, Nat.reduceEqDiff, Bool.false_eq_true]
      rw [if_neg (by omega)]
    · simp (disch := first | assumption | omega) only [k2, ↓reduceIte, l_0, l_1, l_2, l_3, l_4, l_5, l_6, l_7, l_8, l_9, l_10, l_12, l_16, l_24, l_31, l_32, l_48, l_96, l_99, l_100, l_150, l_180, l_200, l_240, l_255, l_260, l_384, l_400, l_999, l_5000, l_9999, l_1000000, l_1000000000, l_11, l_13, l_14, l_15, l_17, l_18, l_19, l_20, l_21, l_22, l_23, l_25, l_26, l_28, l_30, l_34, l_38, l_42, l_44, l_54, l_60, l_64, l_81, l_90, l_101, l_103, l_110, l_120, l_128, l_140, l_256, l_401, l_403, l_450, l_512, l_853, l_983, l_1000, l_1001, l_2048, l_3000000, l_2000000, l_4096, l_5001, l_5002, l_10000, l_10001, l_32767, l_32768, l_60000, l_2147483647, zJ_lt, zJ_le, zJ_eq, zJ_add, zJ_sub, zJ_mul, zJ_neg, zJ_dv, t_I, t_Ie, t_R, t_Re, t_N, t_Nn, t_V, t_Ve, t_b, t_x, t_w, e_0, e_1, e_2, e_3, ↓t_0, ↓t_1, t_00, t_11, if_true, if_false, ite_not, not_false_eq_true, not_true_eq_false, Int.reduceEq, Int.reduceLT, Int.reduceLE, Int.reduceNeg, Nat.reduceEqDiff, Bool.false_eq_true]
      rw [if_pos (by omega)]
  · simp (disch := first | assumption | omega) only [k1, ↓reduceIte, l_0, l_1, l_2, l_3, l_4, l_5, l_6, l_7, l_8, l_9, l_10, l_12, l_16, l_24, l_31, l_32, l_48, l_96, l_99, l_100, l_150, l_180, l_200, l_240, l_255, l_260, l_384, l_400, l_999, l_5000, l_9999, l_1000000, l_1000000000, l_11, l_13, l_14, l_15, l_17, l_18, l_19, l_20, l_21, l_22, l_23, l_25, l_26, l_28, l_30, l_34, l_38, l_42, l_44, l_54, l_60, l_64, l_81, l_90, l_101, l_103, l_110, l_120, l_128, l_140, l_256, l_401, l_403, l_450, l_512, l_853, l_983, l_1000, l_1001, l_2048, l_3000000, l_2000000, l_4096, l_5001, l_5002, l_10000, l_10001, l_32767, l_32768, l_60000, l_2147483647, zJ_lt, zJ_le, zJ_eq, zJ_add, zJ_sub, zJ_mul, zJ_neg, zJ_dv, t_I, t_Ie, t_R, t_Re, t_N, t_Nn, t_V, t_Ve, t_b, t_x, t_w, e_0, e_1, e_2, e_3, ↓t_0, ↓t_1, t_00, t_11, if_true, if_false, ite_not, not_false_eq_true, not_true_eq_false, Int.reduceEq, Int.reduceLT, Int.reduceLE, Int.reduceNeg, Nat.reduceEqDiff, Bool.false_eq_true]
    rw [q_L_runs_25]
    simp (disch := first | assumption | omega) only [↓reduceIte, l_0, l_1, l_2, l_3, l_4, l_5, l_6, l_7, l_8, l_9, l_10, l_12, l_16, l_24, l_31, l_32, l_48, l_96, l_99, l_100, l_150, l_180, l_200, l_240, l_255, l_260, l_384, l_400, l_999, l_5000, l_9999, l_1000000, l_1000000000, l_11, l_13, l_14, l_15, l_17, l_18, l_19, l_20, l_21, l_22, l_23, l_25, l_26, l_28, l_30, l_34, l_38, l_42, l_44, l_54, l_60, l_64, l_81, l_90, l_101, l_103, l_110, l_120, l_128, l_140, l_256, l_401, l_403, l_450, l_512, l_853, l_983, l_1000, l_1001, l_2048, l_3000000, l_2000000, l_4096, l_5001, l_5002, l_10000, l_10001, l_32767, l_32768, l_60000, l_2147483647, zJ_lt, zJ_le, zJ_eq, zJ_add, zJ_sub, zJ_mul, zJ_neg, zJ_dv, t_I, t_Ie, t_R, t_Re, t_N, t_Nn, t_V, t_Ve, t_b, t_x, t_w, e_0, e_1, e_2, e_3, ↓t_0, ↓t_1, t_00, t_11, if_true, if_false, ite_not, not_false_eq_true, not_true_eq_false, Int.reduceEq, Int.reduceLT, Int.reduceLE, Int.reduceNeg, Nat.reduceEqDiff, Bool.false_eq_true]
    rw [if_pos (by omega)]
theorem L_gives (hZ : zLA G t Y n X) (hk : 0 ≤ k ∧ k < X 425 0) : ev_ G 214 0 [.ref (wA Y 15 605), .ref (wA Y 15 606), .ref (wA Y 15 607), .ref (wA Y 15 608), .int (zJ k)] [] (wd Y n s X) = some (.inl (some (.int (zJ (zB (0 < X 1027 k ∧ zclk (X 1029 k + 1) (X 1028 k) (X 1029 k) (X 424 0) ≠ -1))))), wd Y n s X) := by
  have hr := L_runs (s := s) hZ hk
  obtain ⟨hY, hG, hI, pg, pb, pc, pw, pr, ph, ps, pf⟩ := hZ
  have hL := wY_A hY
  have hQ3 := hY.2.2.2.2.1
  have h8 := hI.2.2.2.2.2.2.2.1
  have h9 := hI.2.2.2.2.2.2.2.2.1
  unfold iM at h9
  have r1 := h8.1
  have r2 := h8.2.1 k hk.1 (by omega)
  obtain ⟨p1, p2, p3⟩ := pr k hk.1 hk.2
  have hz : -1 ≤ zclk (X 1029 k + 1) (X 1028 k) (X 1029 k) (X 424 0) ∧ zclk (X 1029 k + 1) (X 1028 k) (X 1029 k) (X 424 0) < 20000 := by
    unfold zclk
    split <;> omega
  rw [q_L_gives_0, hr, t_I]
  generalize zclk (X 1029 k + 1) (X 1028 k) (X 1029 k) (X 424 0) = z at hz
  by_cases k1 : z < 0
  · simp (disch := first | assumption | omega) only [k1, ↓reduceIte, l_0, l_1, l_2, l_3, l_4, l_5, l_6, l_7, l_8, l_9, l_10, l_12, l_16, l_24, l_31, l_32, l_48, l_96, l_99, l_100, l_150, l_180, l_200, l_240, l_255, l_260, l_384, l_400, l_999, l_5000, l_9999, l_1000000, l_1000000000, l_11, l_13, l_14, l_15, l_17, l_18, l_19, l_20, l_21, l_22, l_23, l_25, l_26, l_28, l_30, l_34, l_38, l_42, l_44, l_54, l_60, l_64, l_81, l_90, l_101, l_103, l_110, l_120, l_128, l_140, l_256, l_401, l_403, l_450, l_512, l_853, l_983, l_1000, l_1001, l_2048, l_3000000, l_2000000, l_4096, l_5001, l_5002, l_10000, l_10001, l_32767, l_32768, l_60000, l_2147483647, zJ_lt, zJ_le, zJ_eq, zJ_add, zJ_sub, zJ_mul, zJ_neg, zJ_dv, t_I, t_Ie, t_R, t_Re, t_N, t_Nn, t_V, t_Ve, t_b, t_x, t_w, e_0, e_1, e_2, e_3, ↓t_0, ↓t_1, t_00, t_11, if_true, if_false, ite_not, not_false_eq_true, not_true_eq_false, Int.reduceEq, Int.reduceLT, Int.reduceLE, Int.reduceNeg, Nat.reduceEqDiff, Bool.false_eq_true]
    rw [zB_0 (by omega)]
  · by_cases k2 : X 1027 k ≤ 0
    · simp (disch := first | assumption | omega) only [k1, k2, ↓reduceIte, l_0, l_1, l_2, l_3, l_4, l_5, l_6, l_7, l_8, l_9, l_10, l_12, l_16, l_24, l_31, l_32, l_48, l_96, l_99, l_100, l_150, l_180, l_200, l_240, l_255, l_260, l_384, l_400, l_999, l_5000, l_9999, l_1000000, l_1000000000, l_11, l_13, l_14, l_15, l_17, l_18, l_19, l_20, l_21, l_22, l_23, l_25, l_26, l_28, l_30, l_34, l_38, l_42, l_44, l_54, l_60, l_64, l_81, l_90, l_101, l_103, l_110, l_120, l_128, l_140, l_256, l_401, l_403, l_450, l_512, l_853, l_983, l_1000, l_1001, l_2048, l_3000000, l_2000000, l_4096, l_5001, l_5002, l_10000, l_10001, l_32767, l_32768, l_60000, l_2147483647, zJ_lt, zJ_le, zJ_eq, zJ_add, zJ_sub, zJ_mul, zJ_neg, zJ_dv, t_I, t_Ie, t_R, t_Re, t_N, t_Nn, t_V, t_Ve, t_b, t_x, t_w, e_0, e_1, e_2, e_3, ↓t_0, ↓t_1, t_00, t_11, if_true, if_false, ite_not, not_false_eq_true, not_true_eq_false, Int.reduceEq, Int.reduceLT, Int.reduceLE, Int.reduceNeg, Nat.reduceEqDiff, Bool.false_eq_true, ln_ hL, p2]
      rw [zB_0 (by omega)]
    · simp (disch := first | assumption | omega) only [k1, k2, ↓reduceIte, l_0, l_1, l_2, l_3, l_4, l_5, l_6, l_7, l_8, l_9, l_10, l_12, l_16, l_24, l_31, l_32, l_48, l_96, l_99, l_100, l_150, l_180, l_200, l_240, l_255, l_260, l_384, l_400, l_999, l_5000, l_9999, l_1000000, l_1000000000, l_11, l_13, l_14, l_15, l_17, l_18, l_19, l_20, l_21, l_22, l_23, l_25, l_26, l_28, l_30, l_34, l_38, l_42, l_44, l_54, l_60, l_64, l_81, l_90, l_101, l_103, l_110, l_120, l_128, l_140, l_256, l_401, l_403, l_450, l_512, l_853, l_983, l_1000, l_1001, l_2048, l_3000000, l_2000000, l_4096, l_5001, l_5002, l_10000, l_10001, l_32767, l_32768, l_60000, l_2147483647, zJ_lt, zJ_le, zJ_eq, zJ_add, zJ_sub, zJ_mul, zJ_neg, zJ_dv, t_I, t_Ie, t_R, t_Re, t_N, t_Nn, t_V, t_Ve, t_b, t_x, t_w, e_0, e_1, e_2, e_3, ↓t_0, ↓t_1, t_00, t_11, if_true, if_false, ite_not, not_false_eq_true, not_true_eq_false, Int.reduceEq, Int.reduceLT, Int.reduceLE, Int.reduceNeg, Nat.reduceEqDiff, Bool.false_eq_true, ln_ hL, p2]
      rw [zB_1 (by omega)]
/-- the crimper's window -/
theorem L_windowR (hY : wY Y n) (pg : X 1113 7 = X 422 0) (pf : pF X) (hf : ∀ k, 0 ≤ k → k < 8 → 0 ≤ X 1023 k ∧ X 1023 k < 10000) (hm : q = min (X 422 0) 8) (h422 : 0 ≤ X 422 0 ∧ X 422 0 < 10000) : ∀ (m : Nat) (k a : Int), 0 ≤ k → k + m = q → 0 ≤ a → a + 10000 * m ≤ 100000 → ev_ G 215 24 [.ref (wA Y 15 612), .ref (wA Y 15 613), .int (zJ q), .int (zJ a), .int (zJ k)] [] (wd Y n s X) = some (.inl (some (.int (zJ (if X 422 0 < 3 then 0 else (a + zsm (X 1023) k m) / q)))), wd Y n s X) := by
  have hL := wY_A hY
  intro m
  induction m with
  | zero =>
    intro k a h0 he ha ha'
    have e1 : q ≤ k := by omega
    rw [q_L_window_24]
    rw [show zsm (X 1023) k 0 = 0 from rfl, Int.add_zero]
    by_cases k1 : X 422 0 < 3
    · have k2 : ¬3 ≤ X 422 0 := by omega
      simp (disch := first | assumption | omega) only [↓reduceIte, l_0, l_1, l_2, l_3, l_4, l_5, l_6, l_7, l_8, l_9, l_10, l_12, l_16, l_24, l_31, l_32, l_48, l_96, l_99, l_100, l_150, l_180, l_200, l_240, l_255, l_260, l_384, l_400, l_999, l_5000, l_9999, l_1000000, l_1000000000, l_11, l_13, l_14, l_15, l_17, l_18, l_19, l_20, l_21, l_22, l_23, l_25, l_26, l_28, l_30, l_34, l_38, l_42, l_44, l_54, l_60, l_64, l_81, l_90, l_101, l_103, l_110, l_120, l_128, l_140, l_256, l_401, l_403, l_450, l_512, l_853, l_983, l_1000, l_1001, l_2048, l_3000000, l_2000000, l_4096, l_5001, l_5002, l_10000, l_10001, l_32767, l_32768, l_60000, l_2147483647, zJ_lt, zJ_le, zJ_eq, zJ_add, zJ_sub, zJ_mul, zJ_neg, zJ_dv, t_I, t_Ie, t_R, t_Re, t_N, t_Nn, t_V, t_Ve, t_b, t_x, t_w, e_0, e_1, e_2, e_3, ↓t_0, ↓t_1, t_00, t_11, if_true, if_false, ite_not, not_false_eq_true, not_true_eq_false, Int.reduceEq, Int.reduceLT, Int.reduceLE, Int.reduceNeg, Nat.reduceEqDiff, Bool.false_eq_true, lg_ hL, pg, e1, k1, k2]
    · have k2 : 3 ≤ X 422 0 := by omega
      have k3 : ¬q = 0 := by omega
      simp (disch := first | assumption | omega) only [↓reduceIte, l_0, l_1, l_2, l_3, l_4, l_5, l_6, l_7, l_8, l_9, l_10, l_12, l_16, l_24, l_31, l_32, l_48, l_96, l_99, l_100, l_150, l_180, l_200, l_240, l_255, l_260, l_384, l_400, l_999, l_5000, l_9999, l_1000000, l_1000000000, l_11, l_13, l_14, l_15, l_17, l_18, l_19, l_20, l_21, l_22, l_23, l_25, l_26, l_28, l_30, l_34, l_38, l_42, l_44, l_54, l_60, l_64, l_81, l_90, l_101, l_103, l_110, l_120, l_128, l_140, l_256, l_401, l_403, l_450, l_512, l_853, l_983, l_1000, l_1001, l_2048, l_3000000, l_2000000, l_4096, l_5001, l_5002, l_10000, l_10001, l_32767, l_32768, l_60000, l_2147483647, zJ_lt, zJ_le, zJ_eq, zJ_add, zJ_sub, zJ_mul, zJ_neg, zJ_dv, t_I, t_Ie, t_R, t_Re, t_N, t_Nn, t_V, t_Ve, t_b, t_x, t_w, e_0, e_1, e_2, e_3, ↓t_0, ↓t_1, t_00, t_11, if_true, if_false, ite_not, not_false_eq_true, not_true_eq_false, Int.reduceEq, Int.reduceLT, Int.reduceLE, Int.reduceNeg, Nat.reduceEqDiff, Bool.false_eq_true, lg_ hL, pg, e1, k1, k2, k3]
  | succ m ih =>
    intro k a h0 he ha ha'
    have e1 : ¬q ≤ k := by omega
    have b := hf k h0 (by omega)
    have hz : zsm (X 1023) k (m + 1) = X 1023 k + zsm (X 1023) (k + 1) m := rfl
    rw [q_L_window_24]
    simp (disch := first | assumption | omega) only [↓reduceIte, l_0, l_1, l_2, l_3, l_4, l_5, l_6, l_7, l_8, l_9, l_10, l_12, l_16, l_24, l_31, l_32, l_48, l_96, l_99, l_100, l_150, l_180, l_200, l_240, l_255, l_260, l_384, l_400, l_999, l_5000, l_9999, l_1000000, l_1000000000, l_11, l_13, l_14, l_15, l_17, l_18, l_19, l_20, l_21, l_22, l_23, l_25, l_26, l_28, l_30, l_34, l_38, l_42, l_44, l_54, l_60, l_64, l_81, l_90, l_101, l_103, l_110, l_120, l_128, l_140, l_256, l_401, l_403, l_450, l_512, l_853, l_983, l_1000, l_1001, l_2048, l_3000000, l_2000000, l_4096, l_5001, l_5002, l_10000, l_10001, l_32767, l_32768, l_60000, l_2147483647, zJ_lt, zJ_le, zJ_eq, zJ_add, zJ_sub, zJ_mul, zJ_neg, zJ_dv, t_I, t_Ie, t_R, t_Re, t_N, t_Nn, t_V, t_Ve, t_b, t_x, t_w, e_0, e_1, e_2, e_3, ↓t_0, ↓t_1, t_00, t_11, if_true, if_false, ite_not, not_false_eq_true, not_true_eq_false, Int.reduceEq, Int.reduceLT, Int.reduceLE, Int.reduceNeg, Nat.reduceEqDiff, Bool.false_eq_true, lf_ hL, e1, pf k h0 (by omega)]
    rw [ih _ _ (by omega) (by omega) (by omega) (by omega), hz, Int.add_assoc]
theorem L_window (hZ : zLA G t Y n X) (ht : t < 1000) : ev_ G 215 0 [.ref (wA Y 15 612), .ref (wA Y 15 613), zU, zU, zU] [] (wd Y n s X) = some (.inl (some (.int (zJ (zwin X)))), wd Y n s X) := by
  obtain ⟨hY, hG, hI, pg, pb, pc, pw, pr, ph, ps, pf⟩ := hZ
  have hL := wY_A hY
  have h7 := hI.2.2.2.2.2.2.1
  obtain ⟨w1, w2, w3⟩ := zwin_e h7
  unfold iD at h7
  obtain ⟨d1, d2, d3, d4, d5, d6⟩ := h7
  have hf : ∀ k, 0 ≤ k → k < 8 → 0 ≤ X 1023 k ∧ X 1023 k < 10000 := fun k a b => by
    have := d5 k a b
    omega
  rw [q_L_window_0, ← w1]
  unfold zwin2
  by_cases k1 : 8 ≤ X 422 0
  · simp (disch := first | assumption | omega) only [↓reduceIte, l_0, l_1, l_2, l_3, l_4, l_5, l_6, l_7, l_8, l_9, l_10, l_12, l_16, l_24, l_31, l_32, l_48, l_96, l_99, l_100, l_150, l_180, l_200, l_240, l_255, l_260, l_384, l_400, l_999, l_5000, l_9999, l_1000000, l_1000000000, l_11, l_13, l_14, l_15, l_17, l_18, l_19, l_20, l_21, l_22, l_23, l_25, l_26, l_28, l_30, l_34, l_38, l_42, l_44, l_54, l_60, l_64, l_81, l_90, l_101, l_103, l_110, l_120, l_128, l_140, l_256, l_401, l_403, l_450, l_512, l_853, l_983, l_1000, l_1001, l_2048, l_3000000, l_2000000, l_4096, l_5001, l_5002, l_10000, l_10001, l_32767, l_32768, l_60000, l_2147483647, zJ_lt, zJ_le, zJ_eq, zJ_add, zJ_sub, zJ_mul, zJ_neg, zJ_dv, t_I, t_Ie, t_R, t_Re, t_N, t_Nn, t_V, t_Ve, t_b, t_x, t_w, e_0, e_1, e_2, e_3, ↓t_0, ↓t_1, t_00, t_11, if_true, if_false, ite_not, not_false_eq_true, not_true_eq_false, Int.reduceEq, Int.reduceLT, Int.reduceLE, Int.reduceNeg, Nat.reduceEqDiff, Bool.false_eq_true, lg_ hL, pg.2.2.2.2.2.2.1, k1]
    rw [L_windowR hY pg.2.2.2.2.2.2.1 pf hf (q := 8) (by omega) (by omega) 8 0 0 (by decide) (by decide) (by decide) (by decide), Int.zero_add, show min (X 422 0) 8 = 8 by omega]
    rfl
  · simp (disch := first | assumption | omega) only [↓reduceIte, l_0, l_1, l_2, l_3, l_4, l_5, l_6, l_7, l_8, l_9, l_10, l_12, l_16, l_24, l_31, l_32, l_48, l_96, l_99, l_100, l_150, l_180, l_200, l_240, l_255, l_260, l_384, l_400, l_999, l_5000, l_9999, l_1000000, l_1000000000, l_11, l_13, l_14, l_15, l_17, l_18, l_19, l_20, l_21, l_22, l_23, l_25, l_26, l_28, l_30, l_34, l_38, l_42, l_44, l_54, l_60, l_64, l_81, l_90, l_101, l_103, l_110, l_120, l_128, l_140, l_256, l_401, l_403, l_450, l_512, l_853, l_983, l_1000, l_1001, l_2048, l_3000000, l_2000000, l_4096, l_5001, l_5002, l_10000, l_10001, l_32767, l_32768, l_60000, l_2147483647, zJ_lt, zJ_le, zJ_eq, zJ_add, zJ_sub, zJ_mul, zJ_neg, zJ_dv, t_I, t_Ie, t_R, t_Re, t_N, t_Nn, t_V, t_Ve, t_b, t_x, t_w, e_0, e_1, e_2, e_3, ↓t_0, ↓t_1, t_00, t_11, if_true, if_false, ite_not, not_false_eq_true, not_true_eq_false, Int.reduceEq, Int.reduceLT, Int.reduceLE, Int.reduceNeg, Nat.reduceEqDiff, Bool.false_eq_true, lg_ hL, pg.2.2.2.2.2.2.1, k1]
    rw [L_windowR hY pg.2.2.2.2.2.2.1 pf hf (q := X 422 0) (by omega) (by omega) (X 422 0).toNat 0 0 (by decide) (by omega) (by decide) (by omega), Int.zero_add, show min (X 422 0) 8 = X 422 0 by omega]
/-- a slot's number of the law -/
theorem pS_r (hZ : zLA G t Y n X) (hk : 0 ≤ k ∧ k < 32) : (X 1109 k % 64 = X 1038 k + 1) ∧ (X 1109 k / 64 % 32 = X 1041 k + 4 * X 1042 k + 8 * X 1043 k) ∧ (X 1109 k / 64 % 32 % 4 = X 1041 k) ∧ (X 1109 k / 64 % 32 / 4 % 2 = X 1042 k) ∧ (X 1109 k / 64 % 32 / 8 % 2 = X 1043 k) ∧ (X 1109 k / 2048 - 1 = X 1040 k) ∧ (0 ≤ X 1109 k ∧ X 1109 k < 10000) ∧ (-1 ≤ X 1038 k ∧ X 1038 k < 12) ∧ (0 ≤ X 1041 k ∧ X 1041 k < 4) ∧ (0 ≤ X 1042 k ∧ X 1042 k ≤ 1) ∧ (0 ≤ X 1043 k ∧ X 1043 k ≤ 1) := by
  obtain ⟨hY, hG, hI, pg, pb, pc, pw, pr, ph, ps, pf⟩ := hZ
  obtain ⟨c1, c2, c3, c4, c5, c6⟩ := hI.2.2.2.2.2.2.2.2.2.2.2
  have a := c4 k hk.1 (by omega)
  have b := ps.1 k hk.1 hk.2
  omega
/-- the faults of a board -/
theorem L_faultsR (hZ : zLA G t Y n X) (hb : 0 ≤ p ∧ p < 4) (hf : 0 ≤ q ∧ q ≤ 1) : ∀ (m : Nat) (k a : Int) (u : Value), 8 * p ≤ k → k + m = 8 * p + 8 → ev_ G 216 8 [.ref (wA Y 15 609), .int (zJ p), .int (zJ q), .int (zJ a), .int (zJ k), u] [] (wd Y n s X) = some (.inl (some (.int (zJ (a + zsm (fun m => zB (X 1041 m ≠ 0 ∧ X 1042 m = q)) k m)))), wd Y n s X) := by
  have hZ' := hZ
  obtain ⟨hY, hG, hI, pg, pb, pc, pw, pr, ph, ps, pf⟩ := hZ
  have hL := wY_A hY
  intro m
  induction m with
  | zero =>
    intro k a u h0 he
    have e1 : 8 * p + 8 ≤ k := by omega
    rw [q_L_faults_8]
    simp (disch := first | assumption | omega) only [↓reduceIte, l_0, l_1, l_2, l_3, l_4, l_5, l_6, l_7, l_8, l_9, l_10, l_12, l_16, l_24, l_31, l_32, l_48, l_96, l_99, l_100, l_150, l_180, l_200, l_240, l_255, l_260, l_384, l_400, l_999, l_5000, l_9999, l_1000000, l_1000000000, l_11, l_13, l_14, l_15, l_17, l_18, l_19, l_20, l_21, l_22, l_23, l_25, l_26, l_28, l_30, l_34, l_38, l_42, l_44, l_54, l_60, l_64, l_81, l_90, l_101, l_103, l_110, l_120, l_128, l_140, l_256, l_401, l_403, l_450, l_512, l_853, l_983, l_1000, l_1001, l_2048, l_3000000, l_2000000, l_4096, l_5001, l_5002, l_10000, l_10001, l_32767, l_32768, l_60000, l_2147483647, zJ_lt, zJ_le, zJ_eq, zJ_add, zJ_sub, zJ_mul, zJ_neg, zJ_dv, t_I, t_Ie, t_R, t_Re, t_N, t_Nn, t_V, t_Ve, t_b, t_x, t_w, e_0, e_1, e_2, e_3, ↓t_0, ↓t_1, t_00, t_11, if_true, if_false, ite_not, not_false_eq_true, not_true_eq_false, Int.reduceEq, Int.reduceLT, Int.reduceLE, Int.reduceNeg, Nat.reduceEqDiff, Bool.false_eq_true, e1]
    rw [show zsm (fun m => zB (X 1041 m ≠ 0 ∧ X 1042 m = q)) k 0 = 0 from rfl, Int.add_zero]
  | succ m ih =>
    intro k a u h0 he
    have e1 : ¬8 * p + 8 ≤ k := by omega
    obtain ⟨r1, r2, r3, r4, r5, r6, r7, r8, r9, r10, r11⟩ := pS_r hZ' (k := k) (by omega)
    have hz : zsm (fun m => zB (X 1041 m ≠ 0 ∧ X 1042 m = q)) k (m + 1) = zB (X 1041 k ≠ 0 ∧ X 1042 k = q) + zsm (fun m => zB (X 1041 m ≠ 0 ∧ X 1042 m = q)) (k + 1) m := rfl
    rw [q_L_faults_8]
    simp (disch := first | assumption | omega) only [↓reduceIte, l_0, l_1, l_2, l_3, l_4, l_5, l_6, l_7, l_8, l_9, l_10, l_12, l_16, l_24, l_31, l_32, l_48, l_96, l_99, l_100, l_150, l_180, l_200, l_240, l_255, l_260, l_384, l_400, l_999, l_5000, l_9999, l_1000000, l_1000000000, l_11, l_13, l_14, l_15, l_17, l_18, l_19, l_20, l_21, l_22, l_23, l_25, l_26, l_28, l_30, l_34, l_38, l_42, l_44, l_54, l_60, l_64, l_81, l_90, l_101, l_103, l_110, l_120, l_128, l_140, l_256, l_401, l_403, l_450, l_512, l_853, l_983, l_1000, l_1001, l_2048, l_3000000, l_2000000, l_4096, l_5001, l_5002, l_10000, l_10001, l_32767, l_32768, l_60000, l_2147483647, zJ_lt, zJ_le, zJ_eq, zJ_add, zJ_sub, zJ_mul, zJ_neg, zJ_dv, t_I, t_Ie, t_R, t_Re, t_N, t_Nn, t_V, t_Ve, t_b, t_x, t_w, e_0, e_1, e_2, e_3, ↓t_0, ↓t_1, t_00, t_11, if_true, if_false, ite_not, not_false_eq_true, not_true_eq_false, Int.reduceEq, Int.reduceLT, Int.reduceLE, Int.reduceNeg, Nat.reduceEqDiff, Bool.false_eq_true, zem, e1, ls_ hL, r2, r3, r4]
    rw [show (X 1041 k + 4 * X 1042 k + 8 * X 1043 k) % 4 = X 1041 k by omega, show (X 1041 k + 4 * X 1042 k + 8 * X 1043 k) / 4 % 2 = X 1042 k by omega]
    by_cases k1 : X 1041 k ≤ 0
    · simp (disch := first | assumption | omega) only [↓reduceIte, l_0, l_1, l_2, l_3, l_4, l_5, l_6, l_7, l_8, l_9, l_10, l_12, l_16, l_24, l_31, l_32, l_48, l_96, l_99, l_100, l_150, l_180, l_200, l_240, l_255, l_260, l_384, l_400, l_999, l_5000, l_9999, l_1000000, l_1000000000, l_11, l_13, l_14, l_15, l_17, l_18, l_19, l_20, l_21, l_22, l_23, l_25, l_26, l_28, l_30, l_34, l_38, l_42, l_44, l_54, l_60, l_64, l_81, l_90, l_101, l_103, l_110, l_120, l_128, l_140, l_256, l_401, l_403, l_450, l_512, l_853, l_983, l_1000, l_1001, l_2048, l_3000000, l_2000000, l_4096, l_5001, l_5002, l_10000, l_10001, l_32767, l_32768, l_60000, l_2147483647, zJ_lt, zJ_le, zJ_eq, zJ_add, zJ_sub, zJ_mul, zJ_neg, zJ_dv, t_I, t_Ie, t_R, t_Re, t_N, t_Nn, t_V, t_Ve, t_b, t_x, t_w, e_0, e_1, e_2, e_3, ↓t_0, ↓t_1, t_00, t_11, if_true, if_false, ite_not, not_false_eq_true, not_true_eq_false, Int.reduceEq, Int.reduceLT, Int.reduceLE, Int.reduceNeg, Nat.reduceEqDiff, Bool.false_eq_true, k1]
      rw [ih _ _ _ (by omega) (by omega), hz, zB_0 (fun g => g.1 (by omega)), Int.add_zero, Int.zero_add]
    · by_cases k2 : X 1042 k = q
      · simp (disch := first | assumption | omega) only [↓reduceIte, l_0, l_1, l_2, l_3, l_4, l_5, l_6, l_7, l_8, l_9, l_10, l_12, l_16, l_24, l_31, l_32, l_48, l_96, l_99, l_100, l_150, l_180, l_200, l_240, l_255, l_260, l_384, l_400, l_999, l_5000, l_9999, l_1000000, l_1000000000, l_11, l_13, l_14, l_15, l_17, l_18, l_19, l_20, l_21, l_22, l_23, l_25, l_26, l_28, l_30, l_34, l_38, l_42, l_44, l_54, l_60, l_64, l_81, l_90, l_101, l_103, l_110, l_120, l_128, l_140, l_256, l_401, l_403, l_450, l_512, l_853, l_983, l_1000, l_1001, l_2048, l_3000000, l_2000000, l_4096, l_5001, l_5002, l_10000, l_10001, l_32767, l_32768, l_60000, l_2147483647, zJ_lt, zJ_le, zJ_eq, zJ_add, zJ_sub, zJ_mul, zJ_neg, zJ_dv, t_I, t_Ie, t_R, t_Re, t_N, t_Nn, t_V, t_Ve, t_b, t_x, t_w, e_0, e_1, e_2, e_3, ↓t_0, ↓t_1, t_00, t_11, if_true, if_false, ite_not, not_false_eq_true, not_true_eq_false, Int.reduceEq, Int.reduceLT, Int.reduceLE, Int.reduceNeg, Nat.reduceEqDiff, Bool.false_eq_true, k1, k2]
        rw [ih _ _ _ (by omega) (by omega), hz, zB_1 ⟨by omega, k2⟩, Int.add_assoc]
      · simp (disch := first | assumption | omega) only [↓reduceIte, l_0, l_1, l_2, l_3, l_4, l_5, l_6, l_7, l_8, l_9, l_10, l_12, l_16, l_24, l_31, l_32, l_48, l_96, l_99, l_100, l_150, l_180, l_200, l_240, l_255, l_260, l_384, l_400, l_999, l_5000, l_9999, l_1000000, l_1000000000, l_11, l_13, l_14, l_15, l_17, l_18, l_19, l_20, l_21, l_22, l_23, l_25, l_26, l_28, l_30, l_34, l_38, l_42, l_44, l_54, l_60, l_64, l_81, l_90, l_101, l_103, l_110, l_120, l_128, l_140, l_256, l_401, l_403, l_450, l_512, l_853, l_983, l_1000, l_1001, l_2048, l_3000000, l_2000000, l_4096, l_5001, l_5002, l_10000, l_10001, l_32767, l_32768, l_60000, l_2147483647, zJ_lt, zJ_le, zJ_eq, zJ_add, zJ_sub, zJ_mul, zJ_neg, zJ_dv, t_I, t_Ie, t_R, t_Re, t_N, t_Nn, t_V, t_Ve, t_b, t_x, t_w, e_0, e_1, e_2, e_3, ↓t_0, ↓t_1, t_00, t_11, if_true, if_false, ite_not, not_false_eq_true, not_true_eq_false, Int.reduceEq, Int.reduceLT, Int.reduceLE, Int.reduceNeg, Nat.reduceEqDiff, Bool.false_eq_true, k1, k2]
        rw [ih _ _ _ (by omega) (by omega), hz, zB_0 (fun g => k2 g.2), Int.add_zero, Int.zero_add]
theorem L_faults (hZ : zLA G t Y n X) (hb : 0 ≤ p ∧ p < 4) (hf : 0 ≤ q ∧ q ≤ 1) : ev_ G 216 0 [.ref (wA Y 15 609), .int (zJ p), .int (zJ q), zU, zU, zU] [] (wd Y n s X) = some (.inl (some (.int (zJ (zfm X p q)))), wd Y n s X) := by
  rw [q_L_faults_0, l_0, l_8, zJ_mul, L_faultsR hZ hb hf 8 (8 * p) 0 _ (by omega) (by omega), Int.zero_add]
  rfl
/-- the pairs that fit and aren't mates -/
theorem pC_r (hZ : zLA G t Y n X) (hk : 0 ≤ k ∧ k < X 405 0) : X 405 0 ≤ 8 ∧ (0 ≤ X 1102 k ∧ X 1102 k < 100000) ∧ (X 1102 k % 8 = X 1006 k) ∧ (X 1102 k / 8 % 16 = X 1007 k) ∧ (X 1102 k / 8 % 256 = X 1007 k + 16 * X 1008 k) ∧ (X 1102 k / 8 = X 1007 k + 16 * X 1008 k + 256 * (X 1009 k + 1)) ∧ (X 1102 k / 2048 - 1 = X 1009 k) ∧ (0 ≤ X 1006 k ∧ X 1006 k < 8) ∧ (0 ≤ X 1007 k ∧ X 1007 k ≤ 8) ∧ (0 ≤ X 1008 k ∧ X 1008 k ≤ 9) ∧ -1 ≤ X 1009 k ∧ X 1009 k < 8 := by
  obtain ⟨hY, hG, hI, pg, pb, pc, pw, pr, ph, ps, pf⟩ := hZ
  have h2 := hI.2.1
  have hQ1 := hY.2.2.1
  have z1 := h2.1
  have a := h2.2.1 k hk.1 (by omega)
  have b := pc k hk.1 hk.2
  omega
theorem L_wrongI (hZ : zLA G t Y n X) (hk : 0 ≤ k ∧ k < X 405 0) : ∀ (m : Nat) (h a : Int), k < h → h + m = X 405 0 → ev_ G 212 16 [.ref (wA Y 15 602), .ref (wA Y 15 613), .int (zJ a), .int (zJ k), .int (zJ h)] [] (wd Y n s X) = ev_ G 212 4 [.ref (wA Y 15 602), .ref (wA Y 15 613), .int (zJ (a + zsm (fun h => zB ((X 1007 k = X 1007 h ∧ X 1008 k = X 1008 h) ∧ X 1009 k ≠ h)) h m)), .int (zJ (k + 1)), .int (zJ (X 405 0))] [] (wd Y n s X) := by
  have hZ' := hZ
  obtain ⟨hY, hG, hI, pg, pb, pc, pw, pr, ph, ps, pf⟩ := hZ
  have hL := wY_A hY
  obtain ⟨n8, s1, s2, s3, s4, s5, s6, s7, s8, s9, s10⟩ := pC_r hZ' hk
  intro m
  induction m with
  | zero =>
    intro h a h0 he
    have e0 : h = X 405 0 := by omega
    have e1 : X 405 0 ≤ h := by omega
    rw [q_L_wrong_16]
    simp (disch := first | assumption | omega) only [↓reduceIte, l_0, l_1, l_2, l_3, l_4, l_5, l_6, l_7, l_8, l_9, l_10, l_12, l_16, l_24, l_31, l_32, l_48, l_96, l_99, l_100, l_150, l_180, l_200, l_240, l_255, l_260, l_384, l_400, l_999, l_5000, l_9999, l_1000000, l_1000000000, l_11, l_13, l_14, l_15, l_17, l_18, l_19, l_20, l_21, l_22, l_23, l_25, l_26, l_28, l_30, l_34, l_38, l_42, l_44, l_54, l_60, l_64, l_81, l_90, l_101, l_103, l_110, l_120, l_128, l_140, l_256, l_401, l_403, l_450, l_512, l_853, l_983, l_1000, l_1001, l_2048, l_3000000, l_2000000, l_4096, l_5001, l_5002, l_10000, l_10001, l_32767, l_32768, l_60000, l_2147483647, zJ_lt, zJ_le, zJ_eq, zJ_add, zJ_sub, zJ_mul, zJ_neg, zJ_dv, t_I, t_Ie, t_R, t_Re, t_N, t_Nn, t_V, t_Ve, t_b, t_x, t_w, e_0, e_1, e_2, e_3, ↓t_0, ↓t_1, t_00, t_11, if_true, if_false, ite_not, not_false_eq_true, not_true_eq_false, Int.reduceEq, Int.reduceLT, Int.reduceLE, Int.reduceNeg, Nat.reduceEqDiff, Bool.false_eq_true, lg_ hL, pg.2.1, e1]
    rw [show zsm (fun h => zB ((X 1007 k = X 1007 h ∧ X 1008 k = X 1008 h) ∧ X 1009 k ≠ h)) h 0 = 0 from rfl, Int.add_zero, e0]
  | succ m ih =>
    intro h a h0 he
    have e1 : ¬X 405 0 ≤ h := by omega
    obtain ⟨-, r1, r2, r3, r4, r5, r6, r7, r8, r9, r10⟩ := pC_r hZ' (k := h) (by omega)
    have hz : zsm (fun h => zB ((X 1007 k = X 1007 h ∧ X 1008 k = X 1008 h) ∧ X 1009 k ≠ h)) h (m + 1) = zB ((X 1007 k = X 1007 h ∧ X 1008 k = X 1008 h) ∧ X 1009 k ≠ h) + zsm (fun h => zB ((X 1007 k = X 1007 h ∧ X 1008 k = X 1008 h) ∧ X 1009 k ≠ h)) (h + 1) m := rfl
    rw [q_L_wrong_16]
    simp (disch := first | assumption | omega) only [↓reduceIte, l_0, l_1, l_2, l_3, l_4, l_5, l_6, l_7, l_8, l_9, l_10, l_12, l_16, l_24, l_31, l_32, l_48, l_96, l_99, l_100, l_150, l_180, l_200, l_240, l_255, l_260, l_384, l_400, l_999, l_5000, l_9999, l_1000000, l_1000000000, l_11, l_13, l_14, l_15, l_17, l_18, l_19, l_20, l_21, l_22, l_23, l_25, l_26, l_28, l_30, l_34, l_38, l_42, l_44, l_54, l_60, l_64, l_81, l_90, l_101, l_103, l_110, l_120, l_128, l_140, l_256, l_401, l_403, l_450, l_512, l_853, l_983, l_1000, l_1001, l_2048, l_3000000, l_2000000, l_4096, l_5001, l_5002, l_10000, l_10001, l_32767, l_32768, l_60000, l_2147483647, zJ_lt, zJ_le, zJ_eq, zJ_add, zJ_sub, zJ_mul, zJ_neg, zJ_dv, t_I, t_Ie, t_R, t_Re, t_N, t_Nn, t_V, t_Ve, t_b, t_x, t_w, e_0, e_1, e_2, e_3, ↓t_0, ↓t_1, t_00, t_11, if_true, if_false, ite_not, not_false_eq_true, not_true_eq_false, Int.reduceEq, Int.reduceLT, Int.reduceLE, Int.reduceNeg, Nat.reduceEqDiff, Bool.false_eq_true, zem, lg_ hL, pg.2.1, e1, lc_ hL, r4, s4, s6]
    by_cases k1 : X 1007 k + 16 * X 1008 k = X 1007 h + 16 * X 1008 h
    · by_cases k2 : X 1009 k = h
      · have k3 : (X 1009 k = h) = True := eq_true k2
        simp (disch := first | assumption | omega) only [↓reduceIte, l_0, l_1, l_2, l_3, l_4, l_5, l_6, l_7, l_8, l_9, l_10, l_12, l_16, l_24, l_31, l_32, l_48, l_96, l_99, l_100, l_150, l_180, l_200, l_240, l_255, l_260, l_384, l_400, l_999, l_5000, l_9999, l_1000000, l_1000000000, l_11, l_13, l_14, l_15, l_17, l_18, l_19, l_20, l_21, l_22, l_23, l_25, l_26, l_28, l_30, l_34, l_38, l_42, l_44, l_54, l_60, l_64, l_81, l_90, l_101, l_103, l_110, l_120, l_128, l_140, l_256, l_401, l_403, l_450, l_512, l_853, l_983, l_1000, l_1001, l_2048, l_3000000, l_2000000, l_4096, l_5001, l_5002, l_10000, l_10001, l_32767, l_32768, l_60000, l_2147483647, zJ_lt, zJ_le, zJ_eq, zJ_add, zJ_sub, zJ_mul, zJ_neg, zJ_dv, t_I, t_Ie, t_R, t_Re, t_N, t_Nn, t_V, t_Ve, t_b, t_x, t_w, e_0, e_1, e_2, e_3, ↓t_0, ↓t_1, t_00, t_11, if_true, if_false, ite_not, not_false_eq_true, not_true_eq_false, Int.reduceEq, Int.reduceLT, Int.reduceLE, Int.reduceNeg, Nat.reduceEqDiff, Bool.false_eq_true, k1, k3, s6]
        rw [ih _ _ (by omega) (by omega), hz, zB_0 (fun g => g.2 k2), Int.add_zero, Int.zero_add]
      · simp (disch := first | assumption | omega) only [↓reduceIte, l_0, l_1, l_2, l_3, l_4, l_5, l_6, l_7, l_8, l_9, l_10, l_12, l_16, l_24, l_31, l_32, l_48, l_96, l_99, l_100, l_150, l_180, l_200, l_240, l_255, l_260, l_384, l_400, l_999, l_5000, l_9999, l_1000000, l_1000000000, l_11, l_13, l_14, l_15, l_17, l_18, l_19, l_20, l_21, l_22, l_23, l_25, l_26, l_28, l_30, l_34, l_38, l_42, l_44, l_54, l_60, l_64, l_81, l_90, l_101, l_103, l_110, l_120, l_128, l_140, l_256, l_401, l_403, l_450, l_512, l_853, l_983, l_1000, l_1001, l_2048, l_3000000, l_2000000, l_4096, l_5001, l_5002, l_10000, l_10001, l_32767, l_32768, l_60000, l_2147483647, zJ_lt, zJ_le, zJ_eq, zJ_add, zJ_sub, zJ_mul, zJ_neg, zJ_dv, t_I, t_Ie, t_R, t_Re, t_N, t_Nn, t_V, t_Ve, t_b, t_x, t_w, e_0, e_1, e_2, e_3, ↓t_0, ↓t_1, t_00, t_11, if_true, if_false, ite_not, not_false_eq_true, not_true_eq_false, Int.reduceEq, Int.reduceLT, Int.reduceLE, Int.reduceNeg, Nat.reduceEqDiff, Bool.false_eq_true, k1, k2, s6]
        rw [ih _ _ (by omega) (by omega), hz, zB_1 ⟨by omega, k2⟩, Int.add_assoc]
    · simp (disch := first | assumption | omega) only [↓reduceIte, l_0, l_1, l_2, l_3, l_4, l_5, l_6, l_7, l_8, l_9, l_10, l_12, l_16, l_24, l_31, l_32, l_48, l_96, l_99, l_100, l_150, l_180, l_200, l_240, l_255, l_260, l_384, l_400, l_999, l_5000, l_9999, l_1000000, l_1000000000, l_11, l_13, l_14, l_15, l_17, l_18, l_19, l_20, l_21, l_22, l_23, l_25, l_26, l_28, l_30, l_34, l_38, l_42, l_44, l_54, l_60, l_64, l_81, l_90, l_101, l_103, l_110, l_120, l_128, l_140, l_256, l_401, l_403, l_450, l_512, l_853, l_983, l_1000, l_1001, l_2048, l_3000000, l_2000000, l_4096, l_5001, l_5002, l_10000, l_10001, l_32767, l_32768, l_60000, l_2147483647, zJ_lt, zJ_le, zJ_eq, zJ_add, zJ_sub, zJ_mul, zJ_neg, zJ_dv, t_I, t_Ie, t_R, t_Re, t_N, t_Nn, t_V, t_Ve, t_b, t_x, t_w, e_0, e_1, e_2, e_3, ↓t_0, ↓t_1, t_00, t_11, if_true, if_false, ite_not, not_false_eq_true, not_true_eq_false, Int.reduceEq, Int.reduceLT, Int.reduceLE, Int.reduceNeg, Nat.reduceEqDiff, Bool.false_eq_true, k1]
      rw [ih _ _ (by omega) (by omega), hz, zB_0 (fun g => k1 (by omega)), Int.add_zero, Int.zero_add]
theorem L_wrongR (hZ : zLA G t Y n X) : ∀ (m : Nat) (k a : Int) (u : Value), 0 ≤ k → k + m = X 405 0 → ev_ G 212 4 [.ref (wA Y 15 602), .ref (wA Y 15 613), .int (zJ a), .int (zJ k), u] [] (wd Y n s X) = some (.inl (some (.int (zJ (a + zsm (fun k => zsm (fun h => zB ((X 1007 k = X 1007 h ∧ X 1008 k = X 1008 h) ∧ X 1009 k ≠ h)) (k + 1) (X 405 0 - (k + 1)).toNat) k m)))), wd Y n s X) := by
  have hZ' := hZ
  obtain ⟨hY, hG, hI, pg, pb, pc, pw, pr, ph, ps, pf⟩ := hZ
  have hL := wY_A hY
  have hn8 : X 405 0 ≤ 8 := by
    have := hI.2.1.1
    have := hY.2.2.1
    omega
  intro m
  induction m with
  | zero =>
    intro k a u h0 he
    have e1 : X 405 0 ≤ k := by omega
    rw [q_L_wrong_4]
    simp (disch := first | assumption | omega) only [↓reduceIte, l_0, l_1, l_2, l_3, l_4, l_5, l_6, l_7, l_8, l_9, l_10, l_12, l_16, l_24, l_31, l_32, l_48, l_96, l_99, l_100, l_150, l_180, l_200, l_240, l_255, l_260, l_384, l_400, l_999, l_5000, l_9999, l_1000000, l_1000000000, l_11, l_13, l_14, l_15, l_17, l_18, l_19, l_20, l_21, l_22, l_23, l_25, l_26, l_28, l_30, l_34, l_38, l_42, l_44, l_54, l_60, l_64, l_81, l_90, l_101, l_103, l_110, l_120, l_128, l_140, l_256, l_401, l_403, l_450, l_512, l_853, l_983, l_1000, l_1001, l_2048, l_3000000, l_2000000, l_4096, l_5001, l_5002, l_10000, l_10001, l_32767, l_32768, l_60000, l_2147483647, zJ_lt, zJ_le, zJ_eq, zJ_add, zJ_sub, zJ_mul, zJ_neg, zJ_dv, t_I, t_Ie, t_R, t_Re, t_N, t_Nn, t_V, t_Ve, t_b, t_x, t_w, e_0, e_1, e_2, e_3, ↓t_0, ↓t_1, t_00, t_11, if_true, if_false, ite_not, not_false_eq_true, not_true_eq_false, Int.reduceEq, Int.reduceLT, Int.reduceLE, Int.reduceNeg, Nat.reduceEqDiff, Bool.false_eq_true, lg_ hL, pg.2.1, e1]
    rw [show zsm (fun k => zsm (fun h => zB ((X 1007 k = X 1007 h ∧ X 1008 k = X 1008 h) ∧ X 1009 k ≠ h)) (k + 1) (X 405 0 - (k + 1)).toNat) k 0 = 0 from rfl, Int.add_zero]
  | succ m ih =>
    intro k a u h0 he
    have e1 : ¬X 405 0 ≤ k := by omega
    rw [q_L_wrong_4]
    simp (disch := first | assumption | omega) only [↓reduceIte, l_0, l_1, l_2, l_3, l_4, l_5, l_6, l_7, l_8, l_9, l_10, l_12, l_16, l_24, l_31, l_32, l_48, l_96, l_99, l_100, l_150, l_180, l_200, l_240, l_255, l_260, l_384, l_400, l_999, l_5000, l_9999, l_1000000, l_1000000000, l_11, l_13, l_14, l_15, l_17, l_18, l_19, l_20, l_21, l_22, l_23, l_25, l_26, l_28, l_30, l_34, l_38, l_42, l_44, l_54, l_60, l_64, l_81, l_90, l_101, l_103, l_110, l_120, l_128, l_140, l_256, l_401, l_403, l_450, l_512, l_853, l_983, l_1000, l_1001, l_2048, l_3000000, l_2000000, l_4096, l_5001, l_5002, l_10000, l_10001, l_32767, l_32768, l_60000, l_2147483647, zJ_lt, zJ_le, zJ_eq, zJ_add, zJ_sub, zJ_mul, zJ_neg, zJ_dv, t_I, t_Ie, t_R, t_Re, t_N, t_Nn, t_V, t_Ve, t_b, t_x, t_w, e_0, e_1, e_2, e_3, ↓t_0, ↓t_1, t_00, t_11, if_true, if_false, ite_not, not_false_eq_true, not_true_eq_false, Int.reduceEq, Int.reduceLT, Int.reduceLE, Int.reduceNeg, Nat.reduceEqDiff, Bool.false_eq_true, lg_ hL, pg.2.1, e1]
    rw [L_wrongI hZ' ⟨h0, by omega⟩ (X 405 0 - (k + 1)).toNat (k + 1) a (by omega) (by omega), ih _ _ _ (by omega) (by omega), Int.add_assoc]
    rfl
theorem L_wrong (hZ : zLA G t Y n X) : ev_ G 212 0 [.ref (wA Y 15 602), .ref (wA Y 15 613), zU, zU, zU] [] (wd Y n s X) = some (.inl (some (.int (zJ (zmt X X (X 405 0))))), wd Y n s X) := by
  have h0 : 0 ≤ X 405 0 := by
    have := hZ.2.2.1.2.1.1
    have := hZ.1.2.2.1
    omega
  rw [q_L_wrong_0, l_0, L_wrongR hZ (X 405 0).toNat 0 0 _ (by decide) (by omega), Int.zero_add]
  rfl
end ZL
