/-! THE LAW, 14: boards -/
theorem zsm_z {f : Int → Int} (h : ∀ i, 0 ≤ f i) : ∀ (m : Nat) (k : Int), zsm f k m ≤ 0 → ∀ j, k ≤ j → j < k + m → f j = 0 := by
  intro m
  induction m with
  | zero => intro k _ j a b; omega
  | succ m ih =>
    intro k hs j a b
    have e : zsm f k (m + 1) = f k + zsm f (k + 1) m := rfl
    have h1 : 0 ≤ zsm f (k + 1) m := by
      clear ih hs e b
      generalize k + 1 = i
      induction m generalizing i with
      | zero => exact Int.le_refl _
      | succ m ih =>
        have := ih (i + 1)
        have := h i
        show 0 ≤ f i + zsm f (i + 1) m
        omega
    have h2 := h k
    by_cases hj : j = k
    · rw [hj]; omega
    · exact ih (k + 1) (by omega) j (by omega) (by omega)
section ZL
variable {Y : zLy} {n s : Nat} {X : zX} {G : Nat × Nat} {X' : zX} {t p q r k j b c e : Int} {E : List Int}
theorem B_board (hZ : zLA G t Y n X) (h4 : X 434 0 < 4) : zgL G t Y n s (ev_ G 221 0 [.ref (wA Y 13 0), .ref (wA Y 15 605), .ref (wA Y 15 606), .ref (wA Y 15 607), .ref (wA Y 15 608), .ref (wA Y 15 609), .ref (wA Y 15 610), .ref (wA Y 15 611), .ref (wA Y 15 613), .int (zJ 0), .int (zJ q), .int (zJ r), zU, zU, zU, zU, zU, zU, zU, zU, zU, zU] [] (wd Y n s X)) := by
  have hZ' := hZ
  obtain ⟨hY, hG, hI, hK⟩ := hZ
  obtain ⟨pg, pb, pc, pw, pr, ph, ps, pf⟩ := id hK
  have hL := wY_A hY
  have hn4 := pg.2.2.2.2.2.2.2
  have h12 := hI.2.2.2.2.2.2.2.2.2.2.2
  have h8 := hI.2.2.2.2.2.2.2.1
  have hR : 0 ≤ X 425 0 ∧ X 425 0 ≤ 12 := by
    have := h8.1
    have := hY.2.2.2.2.1
    omega
  have z4 := h12.1
  have hQ4 := hY.2.2.2.2.2.1
  have e1 : ¬4 ≤ X 434 0 := by omega
  rw [q_L_isBoard_0]
  simp (disch := first | assumption | omega) only [↓reduceIte, l_0, l_1, l_2, l_3, l_4, l_5, l_6, l_7, l_8, l_9, l_10, l_12, l_16, l_24, l_31, l_32, l_48, l_96, l_99, l_100, l_150, l_180, l_200, l_240, l_255, l_260, l_384, l_400, l_999, l_5000, l_9999, l_1000000, l_1000000000, l_11, l_13, l_14, l_15, l_17, l_18, l_19, l_20, l_21, l_22, l_23, l_25, l_26, l_28, l_30, l_34, l_38, l_42, l_44, l_54, l_60, l_64, l_81, l_90, l_101, l_103, l_110, l_120, l_128, l_140, l_256, l_401, l_403, l_450, l_512, l_853, l_983, l_1000, l_1001, l_2048, l_3000000, l_2000000, l_4096, l_5001, l_5002, l_10000, l_10001, l_32767, l_32768, l_60000, l_2147483647, zJ_lt, zJ_le, zJ_eq, zJ_add, zJ_sub, zJ_mul, zJ_neg, zJ_dv, t_I, t_Ie, t_R, t_Re, t_N, t_Nn, t_V, t_Ve, t_b, t_x, t_w, e_0, e_1, e_2, e_3, ↓t_0, ↓t_1, t_00, t_11, if_true, if_false, ite_not, not_false_eq_true, not_true_eq_false, Int.reduceEq, Int.reduceLT, Int.reduceLE, Int.reduceNeg, Nat.reduceEqDiff, Bool.false_eq_true, lg_ hL, pg.2.2.2.2.1, e1, sg_ hL]
  generalize hX' : wu X 1113 5 (X 434 0 + 1) = X'
  have sX : zsame [1113] X X' := by
    rw [← hX']
    exact same_u (by decide) same_r
  have gl : ∀ f, f < 1100 → X' f = X f := fun f hf => sX f (by simp; omega)
  have hI' := iAll_l gl hY.2.2.2.1.2 hY.2.2.2.2.2.1.2 hI
  refine zgL_d hG (d_board hY hG hI') (fun Y2 n2 m2 X2 code ans v hD h0 hE hl hY2 hG2 hI2 hle => ?_)
  unfold dBoard at hD
  rw [gl 434 (by decide)] at hD
  obtain ⟨ev, e1, e2, e7⟩ := (zd1_v hD h0 hE).2 (by omega)
  have s2 := same_t (same_m (F := [1113, 20, 220, 221, 222, 223, 224, 225, 226, 227, 40, 41, 42, 509, 510, 511, 512, 513, 514, 515, 516, 517, 518, 519, 520, 444, 434]) sX (by decide)) (same_m e7 (by decide))
  have g13 : ∀ j, X2 1113 j = if j = 5 then X 434 0 + 1 else X 1113 j := fun j => by
    rw [hl 1113 (by decide), ← hX', wu_v]
  have z := fun f (hf : f ∉ _) => congrFun (s2 f hf) 0
  refine ⟨⟨?_, pB_c pb (same_g s2 (by decide)), pC_c pc (same_g s2 (by decide)), pW_c pw (same_g s2 (by decide)), pR_c pr (same_g s2 (by decide)), pH_c ph (same_g s2 (by decide)), pS_c ps (same_g s2 (by decide)), pF_c pf (same_g s2 (by decide))⟩, fun _ => ?_⟩
  ·
    refine pG_v pg ?_ ?_ ?_ ?_ ?_ ?_ ?_ ?_
    · rw [g13, if_neg (by decide), z 400 (by decide), pg.1]
    · rw [g13, if_neg (by decide), z 405 (by decide), pg.2.1]
    · rw [g13, if_neg (by decide), z 410 (by decide), pg.2.2.1]
    · rw [g13, if_neg (by decide), z 425 (by decide), pg.2.2.2.1]
    · rw [g13, if_pos rfl, e2]
    · rw [g13, if_neg (by decide), z 421 (by decide), pg.2.2.2.2.2.1]
    · rw [g13, if_neg (by decide), z 422 (by decide), pg.2.2.2.2.2.2.1]
    · rw [e2]; omega
  · have hLv := wY_A hY2
    rw [wA_l hle hL (j := 613) (by decide) (by decide)]
    simp (disch := first | assumption | omega) only [↓reduceIte, l_0, l_1, l_2, l_3, l_4, l_5, l_6, l_7, l_8, l_9, l_10, l_12, l_16, l_24, l_31, l_32, l_48, l_96, l_99, l_100, l_150, l_180, l_200, l_240, l_255, l_260, l_384, l_400, l_999, l_5000, l_9999, l_1000000, l_1000000000, l_11, l_13, l_14, l_15, l_17, l_18, l_19, l_20, l_21, l_22, l_23, l_25, l_26, l_28, l_30, l_34, l_38, l_42, l_44, l_54, l_60, l_64, l_81, l_90, l_101, l_103, l_110, l_120, l_128, l_140, l_256, l_401, l_403, l_450, l_512, l_853, l_983, l_1000, l_1001, l_2048, l_3000000, l_2000000, l_4096, l_5001, l_5002, l_10000, l_10001, l_32767, l_32768, l_60000, l_2147483647, zJ_lt, zJ_le, zJ_eq, zJ_add, zJ_sub, zJ_mul, zJ_neg, zJ_dv, t_I, t_Ie, t_R, t_Re, t_N, t_Nn, t_V, t_Ve, t_b, t_x, t_w, e_0, e_1, e_2, e_3, ↓t_0, ↓t_1, t_00, t_11, if_true, if_false, ite_not, not_false_eq_true, not_true_eq_false, Int.reduceEq, Int.reduceLT, Int.reduceLE, Int.reduceNeg, Nat.reduceEqDiff, Bool.false_eq_true, ev, e1, lg_ hLv, g13, Int.add_sub_cancel]
theorem B_47 (hZ : zLA G t Y n X) (h1 : 0 ≤ q ∧ q < 60000) (h2 : 0 ≤ r ∧ r < 60000) : ∃ b c e : Int, (0 ≤ b ∧ b ≤ X 434 0) ∧ (0 ≤ c ∧ c ≤ 8) ∧ (0 ≤ e ∧ e ≤ X 425 0) ∧ ev_ G 221 47 [.ref (wA Y 13 0), .ref (wA Y 15 605), .ref (wA Y 15 606), .ref (wA Y 15 607), .ref (wA Y 15 608), .ref (wA Y 15 609), .ref (wA Y 15 610), .ref (wA Y 15 611), .ref (wA Y 15 613), .int (zJ k), .int (zJ q), .int (zJ r), zU, zU, zU, zU, zU, zU, zU, zU, zU, zU] [] (wd Y n s X) = ev_ G 221 166 [.ref (wA Y 13 0), .ref (wA Y 15 605), .ref (wA Y 15 606), .ref (wA Y 15 607), .ref (wA Y 15 608), .ref (wA Y 15 609), .ref (wA Y 15 610), .ref (wA Y 15 611), .ref (wA Y 15 613), .int (zJ k), .int (zJ q), .int (zJ r), .int (zJ b), .int (zJ c), .int (zJ e), .int (zJ (zB (b < X 434 0))), .int (zJ (zB (b < X 434 0 ∧ c < 8))), .int (zJ (zB ((b < X 434 0 ∧ c < 8) ∧ e < X 425 0))), zU, zU, zU, zU] [.int (zJ (if b < X 434 0 ∧ c < 8 then 8 * b + c else 0))] (wd Y n s X) := by
  have hZ' := hZ
  obtain ⟨hY, hG, hI, hK⟩ := hZ
  obtain ⟨pg, pb, pc, pw, pr, ph, ps, pf⟩ := id hK
  have hL := wY_A hY
  have hn4 := pg.2.2.2.2.2.2.2
  have h12 := hI.2.2.2.2.2.2.2.2.2.2.2
  have h8 := hI.2.2.2.2.2.2.2.1
  have hR : 0 ≤ X 425 0 ∧ X 425 0 ≤ 12 := by
    have := h8.1
    have := hY.2.2.2.2.1
    omega
  have z4 := h12.1
  have hQ4 := hY.2.2.2.2.2.1
  have e0 : ¬X 425 0 + 1 = 0 := by omega
  have e5 : ¬X 434 0 + 1 = 0 := by omega
  have b1 : 0 ≤ q % (X 434 0 + 1) ∧ q % (X 434 0 + 1) < X 434 0 + 1 := ⟨Int.emod_nonneg _ e5, Int.emod_lt_of_pos _ (by omega)⟩
  have b2 : 0 ≤ r / 9 % (X 425 0 + 1) ∧ r / 9 % (X 425 0 + 1) < X 425 0 + 1 := ⟨Int.emod_nonneg _ e0, Int.emod_lt_of_pos _ (by omega)⟩
  obtain ⟨c, hc, s1⟩ : ∃ c : Int, (0 ≤ c ∧ c ≤ 8) ∧ ev_ G 221 47 [.ref (wA Y 13 0), .ref (wA Y 15 605), .ref (wA Y 15 606), .ref (wA Y 15 607), .ref (wA Y 15 608), .ref (wA Y 15 609), .ref (wA Y 15 610), .ref (wA Y 15 611), .ref (wA Y 15 613), .int (zJ k), .int (zJ q), .int (zJ r), zU, zU, zU, zU, zU, zU, zU, zU, zU, zU] [] (wd Y n s X) = ev_ G 221 77 [.ref (wA Y 13 0), .ref (wA Y 15 605), .ref (wA Y 15 606), .ref (wA Y 15 607), .ref (wA Y 15 608), .ref (wA Y 15 609), .ref (wA Y 15 610), .ref (wA Y 15 611), .ref (wA Y 15 613), .int (zJ k), .int (zJ q), .int (zJ r), .int (zJ (q % (X 434 0 + 1))), zU, zU, zU, zU, zU, zU, zU, zU, zU] [.int (zJ c)] (wd Y n s X) := by
    rw [q_L_isBoard_47]
    by_cases k1 : r % 9 = 8
    · refine ⟨8, by omega, ?_⟩
      simp (disch := first | assumption | omega) only [↓reduceIte, l_0, l_1, l_2, l_3, l_4, l_5, l_6, l_7, l_8, l_9, l_10, l_12, l_16, l_24, l_31, l_32, l_48, l_96, l_99, l_100, l_150, l_180, l_200, l_240, l_255, l_260, l_384, l_400, l_999, l_5000, l_9999, l_1000000, l_1000000000, l_11, l_13, l_14, l_15, l_17, l_18, l_19, l_20, l_21, l_22, l_23, l_25, l_26, l_28, l_30, l_34, l_38, l_42, l_44, l_54, l_60, l_64, l_81, l_90, l_101, l_103, l_110, l_120, l_128, l_140, l_256, l_401, l_403, l_450, l_512, l_853, l_983, l_1000, l_1001, l_2048, l_3000000, l_2000000, l_4096, l_5001, l_5002, l_10000, l_10001, l_32767, l_32768, l_60000, l_2147483647, zJ_lt, zJ_le, zJ_eq, zJ_add, zJ_sub, zJ_mul, zJ_neg, zJ_dv, t_I, t_Ie, t_R, t_Re, t_N, t_Nn, t_V, t_Ve, t_b, t_x, t_w, e_0, e_1, e_2, e_3, ↓t_0, ↓t_1, t_00, t_11, if_true, if_false, ite_not, not_false_eq_true, not_true_eq_false, Int.reduceEq, Int.reduceLT, Int.reduceLE, Int.reduceNeg, Nat.reduceEqDiff, Bool.false_eq_true, zem, lg_ hL, pg.2.2.2.2.1, e5, k1]
    · refine ⟨r % 4, by omega, ?_⟩
      simp (disch := first | assumption | omega) only [↓reduceIte, l_0, l_1, l_2, l_3, l_4, l_5, l_6, l_7, l_8, l_9, l_10, l_12, l_16, l_24, l_31, l_32, l_48, l_96, l_99, l_100, l_150, l_180, l_200, l_240, l_255, l_260, l_384, l_400, l_999, l_5000, l_9999, l_1000000, l_1000000000, l_11, l_13, l_14, l_15, l_17, l_18, l_19, l_20, l_21, l_22, l_23, l_25, l_26, l_28, l_30, l_34, l_38, l_42, l_44, l_54, l_60, l_64, l_81, l_90, l_101, l_103, l_110, l_120, l_128, l_140, l_256, l_401, l_403, l_450, l_512, l_853, l_983, l_1000, l_1001, l_2048, l_3000000, l_2000000, l_4096, l_5001, l_5002, l_10000, l_10001, l_32767, l_32768, l_60000, l_2147483647, zJ_lt, zJ_le, zJ_eq, zJ_add, zJ_sub, zJ_mul, zJ_neg, zJ_dv, t_I, t_Ie, t_R, t_Re, t_N, t_Nn, t_V, t_Ve, t_b, t_x, t_w, e_0, e_1, e_2, e_3, ↓t_0, ↓t_1, t_00, t_11, if_true, if_false, ite_not, not_false_eq_true, not_true_eq_false, Int.reduceEq, Int.reduceLT, Int.reduceLE, Int.reduceNeg, Nat.reduceEqDiff, Bool.false_eq_true, zem, lg_ hL, pg.2.2.2.2.1, e5, k1]
  have s2 : ev_ G 221 77 [.ref (wA Y 13 0), .ref (wA Y 15 605), .ref (wA Y 15 606), .ref (wA Y 15 607), .ref (wA Y 15 608), .ref (wA Y 15 609), .ref (wA Y 15 610), .ref (wA Y 15 611), .ref (wA Y 15 613), .int (zJ k), .int (zJ q), .int (zJ r), .int (zJ (q % (X 434 0 + 1))), zU, zU, zU, zU, zU, zU, zU, zU, zU] [.int (zJ c)] (wd Y n s X) = ev_ G 221 107 [.ref (wA Y 13 0), .ref (wA Y 15 605), .ref (wA Y 15 606), .ref (wA Y 15 607), .ref (wA Y 15 608), .ref (wA Y 15 609), .ref (wA Y 15 610), .ref (wA Y 15 611), .ref (wA Y 15 613), .int (zJ k), .int (zJ q), .int (zJ r), .int (zJ (q % (X 434 0 + 1))), .int (zJ c), .int (zJ (r / 9 % (X 425 0 + 1))), zU, zU, zU, zU, zU, zU, zU] [.int (zJ (zB (q % (X 434 0 + 1) < X 434 0)))] (wd Y n s X) := by
    rw [q_L_isBoard_77]
    by_cases k1 : X 434 0 ≤ q % (X 434 0 + 1)
    · rw [zB_0 (by omega)]
      simp (disch := first | assumption | omega) only [↓reduceIte, l_0, l_1, l_2, l_3, l_4, l_5, l_6, l_7, l_8, l_9, l_10, l_12, l_16, l_24, l_31, l_32, l_48, l_96, l_99, l_100, l_150, l_180, l_200, l_240, l_255, l_260, l_384, l_400, l_999, l_5000, l_9999, l_1000000, l_1000000000, l_11, l_13, l_14, l_15, l_17, l_18, l_19, l_20, l_21, l_22, l_23, l_25, l_26, l_28, l_30, l_34, l_38, l_42, l_44, l_54, l_60, l_64, l_81, l_90, l_101, l_103, l_110, l_120, l_128, l_140, l_256, l_401, l_403, l_450, l_512, l_853, l_983, l_1000, l_1001, l_2048, l_3000000, l_2000000, l_4096, l_5001, l_5002, l_10000, l_10001, l_32767, l_32768, l_60000, l_2147483647, zJ_lt, zJ_le, zJ_eq, zJ_add, zJ_sub, zJ_mul, zJ_neg, zJ_dv, t_I, t_Ie, t_R, t_Re, t_N, t_Nn, t_V, t_Ve, t_b, t_x, t_w, e_0, e_1, e_2, e_3, ↓t_0, ↓t_1, t_00, t_11, if_true, if_false, ite_not, not_false_eq_true, not_true_eq_false, Int.reduceEq, Int.reduceLT, Int.reduceLE, Int.reduceNeg, Nat.reduceEqDiff, Bool.false_eq_true, zem, lg_ hL, pg.2.2.2.2.1, pg.2.2.2.1, e0, k1]
    · rw [zB_1 (by omega)]
      simp (disch := first | assumption | omega) only [↓reduceIte, l_0, l_1, l_2, l_3, l_4, l_5, l_6, l_7, l_8, l_9, l_10, l_12, l_16, l_24, l_31, l_32, l_48, l_96, l_99, l_100, l_150, l_180, l_200, l_240, l_255, l_260, l_384, l_400, l_999, l_5000, l_9999, l_1000000, l_1000000000, l_11, l_13, l_14, l_15, l_17, l_18, l_19, l_20, l_21, l_22, l_23, l_25, l_26, l_28, l_30, l_34, l_38, l_42, l_44, l_54, l_60, l_64, l_81, l_90, l_101, l_103, l_110, l_120, l_128, l_140, l_256, l_401, l_403, l_450, l_512, l_853, l_983, l_1000, l_1001, l_2048, l_3000000, l_2000000, l_4096, l_5001, l_5002, l_10000, l_10001, l_32767, l_32768, l_60000, l_2147483647, zJ_lt, zJ_le, zJ_eq, zJ_add, zJ_sub, zJ_mul, zJ_neg, zJ_dv, t_I, t_Ie, t_R, t_Re, t_N, t_Nn, t_V, t_Ve, t_b, t_x, t_w, e_0, e_1, e_2, e_3, ↓t_0, ↓t_1, t_00, t_11, if_true, if_false, ite_not, not_false_eq_true, not_true_eq_false, Int.reduceEq, Int.reduceLT, Int.reduceLE, Int.reduceNeg, Nat.reduceEqDiff, Bool.false_eq_true, zem, lg_ hL, pg.2.2.2.2.1, pg.2.2.2.1, e0, k1]
  refine ⟨q % (X 434 0 + 1), c, r / 9 % (X 425 0 + 1), by omega, hc, by omega, ?_⟩
  rw [s1, s2]
  generalize q % (X 434 0 + 1) = b at b1
  generalize r / 9 % (X 425 0 + 1) = e at b2
  rw [q_L_isBoard_107]
  by_cases k1 : b < X 434 0
  · by_cases k2 : c < 8
    · have k2' : ¬8 ≤ c := by omega
      rw [zB_1 k1, zB_1 (show b < X 434 0 ∧ c < 8 from ⟨k1, k2⟩), if_pos (show b < X 434 0 ∧ c < 8 from ⟨k1, k2⟩)]
      simp (disch := first | assumption | omega) only [↓reduceIte, l_0, l_1, l_2, l_3, l_4, l_5, l_6, l_7, l_8, l_9, l_10, l_12, l_16, l_24, l_31, l_32, l_48, l_96, l_99, l_100, l_150, l_180, l_200, l_240, l_255, l_260, l_384, l_400, l_999, l_5000, l_9999, l_1000000, l_1000000000, l_11, l_13, l_14, l_15, l_17, l_18, l_19, l_20, l_21, l_22, l_23, l_25, l_26, l_28, l_30, l_34, l_38, l_42, l_44, l_54, l_60, l_64, l_81, l_90, l_101, l_103, l_110, l_120, l_128, l_140, l_256, l_401, l_403, l_450, l_512, l_853, l_983, l_1000, l_1001, l_2048, l_3000000, l_2000000, l_4096, l_5001, l_5002, l_10000, l_10001, l_32767, l_32768, l_60000, l_2147483647, zJ_lt, zJ_le, zJ_eq, zJ_add, zJ_sub, zJ_mul, zJ_neg, zJ_dv, t_I, t_Ie, t_R, t_Re, t_N, t_Nn, t_V, t_Ve, t_b, t_x, t_w, e_0, e_1, e_2, e_3, ↓t_0, ↓t_1, t_00, t_11, if_true, if_false, ite_not, not_false_eq_true, not_true_eq_false, Int.reduceEq, Int.reduceLT, Int.reduceLE, Int.reduceNeg, Nat.reduceEqDiff, Bool.false_eq_true, k2']
      rw [q_L_isBoard_126]
      by_cases k3 : e < X 425 0
      · have k3' : ¬X 425 0 ≤ e := by omega
        rw [zB_1 (show (b < X 434 0 ∧ c < 8) ∧ e < X 425 0 from ⟨⟨k1, k2⟩, k3⟩)]
        simp (disch := first | assumption | omega) only [↓reduceIte, l_0, l_1, l_2, l_3, l_4, l_5, l_6, l_7, l_8, l_9, l_10, l_12, l_16, l_24, l_31, l_32, l_48, l_96, l_99, l_100, l_150, l_180, l_200, l_240, l_255, l_260, l_384, l_400, l_999, l_5000, l_9999, l_1000000, l_1000000000, l_11, l_13, l_14, l_15, l_17, l_18, l_19, l_20, l_21, l_22, l_23, l_25, l_26, l_28, l_30, l_34, l_38, l_42, l_44, l_54, l_60, l_64, l_81, l_90, l_101, l_103, l_110, l_120, l_128, l_140, l_256, l_401, l_403, l_450, l_512, l_853, l_983, l_1000, l_1001, l_2048, l_3000000, l_2000000, l_4096, l_5001, l_5002, l_10000, l_10001, l_32767, l_32768, l_60000, l_2147483647, zJ_lt, zJ_le, zJ_eq, zJ_add, zJ_sub, zJ_mul, zJ_neg, zJ_dv, t_I, t_Ie, t_R, t_Re, t_N, t_Nn, t_V, t_Ve, t_b, t_x, t_w, e_0, e_1, e_2, e_3, ↓t_0, ↓t_1, t_00, t_11, if_true, if_false, ite_not, not_false_eq_true, not_true_eq_false, Int.reduceEq, Int.reduceLT, Int.reduceLE, Int.reduceNeg, Nat.reduceEqDiff, Bool.false_eq_true, lg_ hL, pg.2.2.2.1, k3']
        rw [q_L_isBoard_147]
        simp (disch := first | assumption | omega) only [↓reduceIte, l_0, l_1, l_2, l_3, l_4, l_5, l_6, l_7, l_8, l_9, l_10, l_12, l_16, l_24, l_31, l_32, l_48, l_96, l_99, l_100, l_150, l_180, l_200, l_240, l_255, l_260, l_384, l_400, l_999, l_5000, l_9999, l_1000000, l_1000000000, l_11, l_13, l_14, l_15, l_17, l_18, l_19, l_20, l_21, l_22, l_23, l_25, l_26, l_28, l_30, l_34, l_38, l_42, l_44, l_54, l_60, l_64, l_81, l_90, l_101, l_103, l_110, l_120, l_128, l_140, l_256, l_401, l_403, l_450, l_512, l_853, l_983, l_1000, l_1001, l_2048, l_3000000, l_2000000, l_4096, l_5001, l_5002, l_10000, l_10001, l_32767, l_32768, l_60000, l_2147483647, zJ_lt, zJ_le, zJ_eq, zJ_add, zJ_sub, zJ_mul, zJ_neg, zJ_dv, t_I, t_Ie, t_R, t_Re, t_N, t_Nn, t_V, t_Ve, t_b, t_x, t_w, e_0, e_1, e_2, e_3, ↓t_0, ↓t_1, t_00, t_11, if_true, if_false, ite_not, not_false_eq_true, not_true_eq_false, Int.reduceEq, Int.reduceLT, Int.reduceLE, Int.reduceNeg, Nat.reduceEqDiff, Bool.false_eq_true]
      · have k3' : X 425 0 ≤ e := by omega
        rw [zB_0 (show ¬((b < X 434 0 ∧ c < 8) ∧ e < X 425 0) by omega)]
        simp (disch := first | assumption | omega) only [↓reduceIte, l_0, l_1, l_2, l_3, l_4, l_5, l_6, l_7, l_8, l_9, l_10, l_12, l_16, l_24, l_31, l_32, l_48, l_96, l_99, l_100, l_150, l_180, l_200, l_240, l_255, l_260, l_384, l_400, l_999, l_5000, l_9999, l_1000000, l_1000000000, l_11, l_13, l_14, l_15, l_17, l_18, l_19, l_20, l_21, l_22, l_23, l_25, l_26, l_28, l_30, l_34, l_38, l_42, l_44, l_54, l_60, l_64, l_81, l_90, l_101, l_103, l_110, l_120, l_128, l_140, l_256, l_401, l_403, l_450, l_512, l_853, l_983, l_1000, l_1001, l_2048, l_3000000, l_2000000, l_4096, l_5001, l_5002, l_10000, l_10001, l_32767, l_32768, l_60000, l_2147483647, zJ_lt, zJ_le, zJ_eq, zJ_add, zJ_sub, zJ_mul, zJ_neg, zJ_dv, t_I, t_Ie, t_R, t_Re, t_N, t_Nn, t_V, t_Ve, t_b, t_x, t_w, e_0, e_1, e_2, e_3, ↓t_0, ↓t_1, t_00, t_11, if_true, if_false, ite_not, not_false_eq_true, not_true_eq_false, Int.reduceEq, Int.reduceLT, Int.reduceLE, Int.reduceNeg, Nat.reduceEqDiff, Bool.false_eq_true, lg_ hL, pg.2.2.2.1, k3']
        rw [q_L_isBoard_147]
        simp (disch := first | assumption | omega) only [↓reduceIte, l_0, l_1, l_2, l_3, l_4, l_5, l_6, l_7, l_8, l_9, l_10, l_12, l_16, l_24, l_31, l_32, l_48, l_96, l_99, l_100, l_150, l_180, l_200, l_240, l_255, l_260, l_384, l_400, l_999, l_5000, l_9999, l_1000000, l_1000000000, l_11, l_13, l_14, l_15, l_17, l_18, l_19, l_20, l_21, l_22, l_23, l_25, l_26, l_28, l_30, l_34, l_38, l_42, l_44, l_54, l_60, l_64, l_81, l_90, l_101, l_103, l_110, l_120, l_128, l_140, l_256, l_401, l_403, l_450, l_512, l_853, l_983, l_1000, l_1001, l_2048, l_3000000, l_2000000, l_4096, l_5001, l_5002, l_10000, l_10001, l_32767, l_32768, l_60000, l_2147483647, zJ_lt, zJ_le, zJ_eq, zJ_add, zJ_sub, zJ_mul, zJ_neg, zJ_dv, t_I, t_Ie, t_R, t_Re, t_N, t_Nn, t_V, t_Ve, t_b, t_x, t_w, e_0, e_1, e_2, e_3, ↓t_0, ↓t_1, t_00, t_11, if_true, if_false, ite_not, not_false_eq_true, not_true_eq_false, Int.reduceEq, Int.reduceLT, Int.reduceLE, Int.reduceNeg, Nat.reduceEqDiff, Bool.false_eq_true]
    · have k2' : 8 ≤ c := by omega
      rw [zB_1 k1, zB_0 (show ¬(b < X 434 0 ∧ c < 8) by omega), if_neg (show ¬(b < X 434 0 ∧ c < 8) by omega), zB_0 (show ¬((b < X 434 0 ∧ c < 8) ∧ e < X 425 0) by omega)]
      simp (disch := first | assumption | omega) only [↓reduceIte, l_0, l_1, l_2, l_3, l_4, l_5, l_6, l_7, l_8, l_9, l_10, l_12, l_16, l_24, l_31, l_32, l_48, l_96, l_99, l_100, l_150, l_180, l_200, l_240, l_255, l_260, l_384, l_400, l_999, l_5000, l_9999, l_1000000, l_1000000000, l_11, l_13, l_14, l_15, l_17, l_18, l_19, l_20, l_21, l_22, l_23, l_25, l_26, l_28, l_30, l_34, l_38, l_42, l_44, l_54, l_60, l_64, l_81, l_90, l_101, l_103, l_110, l_120, l_128, l_140, l_256, l_401, l_403, l_450, l_512, l_853, l_983, l_1000, l_1001, l_2048, l_3000000, l_2000000, l_4096, l_5001, l_5002, l_10000, l_10001, l_32767, l_32768, l_60000, l_2147483647, zJ_lt, zJ_le, zJ_eq, zJ_add, zJ_sub, zJ_mul, zJ_neg, zJ_dv, t_I, t_Ie, t_R, t_Re, t_N, t_Nn, t_V, t_Ve, t_b, t_x, t_w, e_0, e_1, e_2, e_3, ↓t_0, ↓t_1, t_00, t_11, if_true, if_false, ite_not, not_false_eq_true, not_true_eq_false, Int.reduceEq, Int.reduceLT, Int.reduceLE, Int.reduceNeg, Nat.reduceEqDiff, Bool.false_eq_true, k2']
      rw [q_L_isBoard_126]
      simp (disch := first | assumption | omega) only [↓reduceIte, l_0, l_1, l_2, l_3, l_4, l_5, l_6, l_7, l_8, l_9, l_10, l_12, l_16, l_24, l_31, l_32, l_48, l_96, l_99, l_100, l_150, l_180, l_200, l_240, l_255, l_260, l_384, l_400, l_999, l_5000, l_9999, l_1000000, l_1000000000, l_11, l_13, l_14, l_15, l_17, l_18, l_19, l_20, l_21, l_22, l_23, l_25, l_26, l_28, l_30, l_34, l_38, l_42, l_44, l_54, l_60, l_64, l_81, l_90, l_101, l_103, l_110, l_120, l_128, l_140, l_256, l_401, l_403, l_450, l_512, l_853, l_983, l_1000, l_1001, l_2048, l_3000000, l_2000000, l_4096, l_5001, l_5002, l_10000, l_10001, l_32767, l_32768, l_60000, l_2147483647, zJ_lt, zJ_le, zJ_eq, zJ_add, zJ_sub, zJ_mul, zJ_neg, zJ_dv, t_I, t_Ie, t_R, t_Re, t_N, t_Nn, t_V, t_Ve, t_b, t_x, t_w, e_0, e_1, e_2, e_3, ↓t_0, ↓t_1, t_00, t_11, if_true, if_false, ite_not, not_false_eq_true, not_true_eq_false, Int.reduceEq, Int.reduceLT, Int.reduceLE, Int.reduceNeg, Nat.reduceEqDiff, Bool.false_eq_true]
      rw [q_L_isBoard_147]
      simp (disch := first | assumption | omega) only [↓reduceIte, l_0, l_1, l_2, l_3, l_4, l_5, l_6, l_7, l_8, l_9, l_10, l_12, l_16, l_24, l_31, l_32, l_48, l_96, l_99, l_100, l_150, l_180, l_200, l_240, l_255, l_260, l_384, l_400, l_999, l_5000, l_9999, l_1000000, l_1000000000, l_11, l_13, l_14, l_15, l_17, l_18, l_19, l_20, l_21, l_22, l_23, l_25, l_26, l_28, l_30, l_34, l_38, l_42, l_44, l_54, l_60, l_64, l_81, l_90, l_101, l_103, l_110, l_120, l_128, l_140, l_256, l_401, l_403, l_450, l_512, l_853, l_983, l_1000, l_1001, l_2048, l_3000000, l_2000000, l_4096, l_5001, l_5002, l_10000, l_10001, l_32767, l_32768, l_60000, l_2147483647, zJ_lt, zJ_le, zJ_eq, zJ_add, zJ_sub, zJ_mul, zJ_neg, zJ_dv, t_I, t_Ie, t_R, t_Re, t_N, t_Nn, t_V, t_Ve, t_b, t_x, t_w, e_0, e_1, e_2, e_3, ↓t_0, ↓t_1, t_00, t_11, if_true, if_false, ite_not, not_false_eq_true, not_true_eq_false, Int.reduceEq, Int.reduceLT, Int.reduceLE, Int.reduceNeg, Nat.reduceEqDiff, Bool.false_eq_true]
  · rw [zB_0 k1, zB_0 (show ¬(b < X 434 0 ∧ c < 8) by omega), if_neg (show ¬(b < X 434 0 ∧ c < 8) by omega), zB_0 (show ¬((b < X 434 0 ∧ c < 8) ∧ e < X 425 0) by omega)]
    simp (disch := first | assumption | omega) only [↓reduceIte, l_0, l_1, l_2, l_3, l_4, l_5, l_6, l_7, l_8, l_9, l_10, l_12, l_16, l_24, l_31, l_32, l_48, l_96, l_99, l_100, l_150, l_180, l_200, l_240, l_255, l_260, l_384, l_400, l_999, l_5000, l_9999, l_1000000, l_1000000000, l_11, l_13, l_14, l_15, l_17, l_18, l_19, l_20, l_21, l_22, l_23, l_25, l_26, l_28, l_30, l_34, l_38, l_42, l_44, l_54, l_60, l_64, l_81, l_90, l_101, l_103, l_110, l_120, l_128, l_140, l_256, l_401, l_403, l_450, l_512, l_853, l_983, l_1000, l_1001, l_2048, l_3000000, l_2000000, l_4096, l_5001, l_5002, l_10000, l_10001, l_32767, l_32768, l_60000, l_2147483647, zJ_lt, zJ_le, zJ_eq, zJ_add, zJ_sub, zJ_mul, zJ_neg, zJ_dv, t_I, t_Ie, t_R, t_Re, t_N, t_Nn, t_V, t_Ve, t_b, t_x, t_w, e_0, e_1, e_2, e_3, ↓t_0, ↓t_1, t_00, t_11, if_true, if_false, ite_not, not_false_eq_true, not_true_eq_false, Int.reduceEq, Int.reduceLT, Int.reduceLE, Int.reduceNeg, Nat.reduceEqDiff, Bool.false_eq_true]
    rw [q_L_isBoard_126]
    simp (disch := first | assumption | omega) only [↓reduceIte, l_0, l_1, l_2, l_3, l_4, l_5, l_6, l_7, l_8, l_9, l_10, l_12, l_16, l_24, l_31, l_32, l_48, l_96, l_99, l_100, l_150, l_180, l_200, l_240, l_255, l_260, l_384, l_400, l_999, l_5000, l_9999, l_1000000, l_1000000000, l_11, l_13, l_14, l_15, l_17, l_18, l_19, l_20, l_21, l_22, l_23, l_25, l_26, l_28, l_30, l_34, l_38, l_42, l_44, l_54, l_60, l_64, l_81, l_90, l_101, l_103, l_110, l_120, l_128, l_140, l_256, l_401, l_403, l_450, l_512, l_853, l_983, l_1000, l_1001, l_2048, l_3000000, l_2000000, l_4096, l_5001, l_5002, l_10000, l_10001, l_32767, l_32768, l_60000, l_2147483647, zJ_lt, zJ_le, zJ_eq, zJ_add, zJ_sub, zJ_mul, zJ_neg, zJ_dv, t_I, t_Ie, t_R, t_Re, t_N, t_Nn, t_V, t_Ve, t_b, t_x, t_w, e_0, e_1, e_2, e_3, ↓t_0, ↓t_1, t_00, t_11, if_true, if_false, ite_not, not_false_eq_true, not_true_eq_false, Int.reduceEq, Int.reduceLT, Int.reduceLE, Int.reduceNeg, Nat.reduceEqDiff, Bool.false_eq_true]
    rw [q_L_isBoard_147]
    simp (disch := first | assumption | omega) only [↓reduceIte, l_0, l_1, l_2, l_3, l_4, l_5, l_6, l_7, l_8, l_9, l_10, l_12, l_16, l_24, l_31, l_32, l_48, l_96, l_99, l_100, l_150, l_180, l_200, l_240, l_255, l_260, l_384, l_400, l_999, l_5000, l_9999, l_1000000, l_1000000000, l_11, l_13, l_14, l_15, l_17, l_18, l_19, l_20, l_21, l_22, l_23, l_25, l_26, l_28, l_30, l_34, l_38, l_42, l_44, l_54, l_60, l_64, l_81, l_90, l_101, l_103, l_110, l_120, l_128, l_140, l_256, l_401, l_403, l_450, l_512, l_853, l_983, l_1000, l_1001, l_2048, l_3000000, l_2000000, l_4096, l_5001, l_5002, l_10000, l_10001, l_32767, l_32768, l_60000, l_2147483647, zJ_lt, zJ_le, zJ_eq, zJ_add, zJ_sub, zJ_mul, zJ_neg, zJ_dv, t_I, t_Ie, t_R, t_Re, t_N, t_Nn, t_V, t_Ve, t_b, t_x, t_w, e_0, e_1, e_2, e_3, ↓t_0, ↓t_1, t_00, t_11, if_true, if_false, ite_not, not_false_eq_true, not_true_eq_false, Int.reduceEq, Int.reduceLT, Int.reduceLE, Int.reduceNeg, Nat.reduceEqDiff, Bool.false_eq_true]
/-- a board's state in the law -/
theorem B_q (hZ : zLA G t Y n X) (hb : 0 ≤ b ∧ b < X 434 0) : b < 4 ∧ (X 1111 b = 0 ↔ X 1035 b = 0) ∧ (X 1111 b % 2 = 1 ↔ X 1035 b ≠ 0) ∧ (4 ≤ X 1111 b ↔ X 1037 b ≠ 0) ∧ (X 1111 b = 3 ↔ (X 1037 b = 0 ∧ X 1036 b ≠ 0)) ∧ (0 ≤ X 1111 b ∧ X 1111 b ≤ 7) ∧ (X 1035 b = 0 → X 1036 b = 0 ∧ X 1037 b = 0) ∧ (0 ≤ X 1035 b ∧ X 1035 b ≤ 1) ∧ (0 ≤ X 1036 b ∧ X 1036 b ≤ 1) ∧ (0 ≤ X 1037 b ∧ X 1037 b ≤ 1) ∧ X 1111 b = X 1035 b + 2 * X 1036 b + 4 * X 1037 b := by
  obtain ⟨hY, hG, hI, pg, pb, pc, pw, pr, ph, ps, pf⟩ := hZ
  have h12 := hI.2.2.2.2.2.2.2.2.2.2.2
  have hn4 := pg.2.2.2.2.2.2.2
  have c2 := h12.2.1 b hb.1 (by omega)
  obtain ⟨q1, q2, q3, q4⟩ := ps.2 b hb.1 (by omega)
  omega
/-- a slot's, of a board that is there -/
theorem B_s (hZ : zLA G t Y n X) (hb : 0 ≤ b ∧ b < X 434 0) (hc : 8 * b ≤ k ∧ k < 8 * b + 8) : (X 1109 k = 0 ↔ X 1038 k = -1) ∧ (X 1038 k = -1 → X 1041 k = 0 ∧ X 1042 k = 0 ∧ X 1043 k = 0 ∧ X 1040 k = -1) ∧ (X 1035 b = 0 → X 1041 k = 0 ∧ X 1042 k = 0 ∧ X 1040 k = -1) ∧ X 1038 k < X 425 0 ∧ (X 1042 k ≠ 0 → X 1041 k ≠ 0 ∧ 0 ≤ X 1038 k ∧ X 1035 b ≠ 0 ∧ X 1037 b = 0) := by
  have hr := pS_r (k := k) hZ (by have := hZ.2.2.2.1.2.2.2.2.2.2.2; omega)
  obtain ⟨hY, hG, hI, pg, pb, pc, pw, pr, ph, ps, pf⟩ := hZ
  have h12 := hI.2.2.2.2.2.2.2.2.2.2.2
  have hn4 := pg.2.2.2.2.2.2.2
  have h8 := hI.2.2.2.2.2.2.2.1.1
  have z4 := h12.1
  obtain ⟨a1, a2, a3, a4, a5⟩ := h12.2.2.2.1 k (by omega) (by omega)
  obtain ⟨i1, i2, i3, i4, i5, i6, i7⟩ := (h12.2.2.2.2.2 b hb.1 (by omega)).2.2 k hc.1 hc.2
  obtain ⟨p1, p2, p3, p4⟩ := ps.1 k (by omega) (by omega)
  obtain ⟨q1, q2, q3, q4⟩ := ps.2 b hb.1 (by omega)
  have h37 : X 1042 k ≠ 0 → X 1037 b = 0 := fun g => by
    by_cases h : X 1037 b = 0
    · exact h
    · exact absurd (q4 h k hc.1 hc.2) g
  by_cases k1 : X 1038 k = -1
  · rw [if_pos (.inr k1)] at i5
    have := i6 k1
    have := p4 k1
    have h42 : X 1042 k = 0 := by
      by_cases h : X 1042 k = 0
      · exact h
      · exact absurd k1 (by have := (a5 h).2; omega)
    refine ⟨⟨fun _ => k1, fun _ => by omega⟩, fun _ => by omega, fun _ => by omega, by omega, fun g => absurd h42 g⟩
  · refine ⟨⟨fun g => by omega, fun g => absurd g k1⟩, fun g => absurd g k1, fun g => ?_, by omega, fun g => ⟨(a5 g).1, (a5 g).2, fun g' => (a5 g).1 (i7 g'), h37 g⟩⟩
    rw [if_pos (.inl g)] at i5
    have h41 := i7 g
    have h42 : X 1042 k = 0 := by
      by_cases h : X 1042 k = 0
      · exact h
      · exact absurd h41 (a5 h).1
    exact ⟨h41, h42, i5⟩
theorem B_place (hZ : zLA G t Y n X) (hk : 0 ≤ k ∧ k ≤ 1) (hb : 0 ≤ b ∧ b ≤ X 434 0) (hc : 0 ≤ c ∧ c ≤ 8) (he : 0 ≤ e ∧ e ≤ X 425 0) : zgL G t Y n s (ev_ G 221 166 [.ref (wA Y 13 0), .ref (wA Y 15 605), .ref (wA Y 15 606), .ref (wA Y 15 607), .ref (wA Y 15 608), .ref (wA Y 15 609), .ref (wA Y 15 610), .ref (wA Y 15 611), .ref (wA Y 15 613), .int (zJ k), .int (zJ q), .int (zJ r), .int (zJ b), .int (zJ c), .int (zJ e), .int (zJ (zB (b < X 434 0))), .int (zJ (zB (b < X 434 0 ∧ c < 8))), .int (zJ (zB ((b < X 434 0 ∧ c < 8) ∧ e < X 425 0))), zU, zU, zU, zU] [.int (zJ (if b < X 434 0 ∧ c < 8 then 8 * b + c else 0))] (wd Y n s X)) := by
  have hZ' := hZ
  obtain ⟨hY, hG, hI, hK⟩ := hZ
  obtain ⟨pg, pb, pc, pw, pr, ph, ps, pf⟩ := id hK
  have hL := wY_A hY
  have hn4 := pg.2.2.2.2.2.2.2
  have h12 := hI.2.2.2.2.2.2.2.2.2.2.2
  have h8 := hI.2.2.2.2.2.2.2.1
  have hR : 0 ≤ X 425 0 ∧ X 425 0 ≤ 12 := by
    have := h8.1
    have := hY.2.2.2.2.1
    omega
  have ek : ¬2 ≤ k := by omega
  by_cases kA : (b < X 434 0 ∧ c < 8) ∧ e < X 425 0
  · have kA1 : 0 ≤ b ∧ b < X 434 0 := by omega
    have kA' : (0 ≤ b ∧ b < X 434 0) ∧ (0 ≤ c ∧ c < 8) ∧ (0 ≤ e ∧ e < X 425 0) := by omega
    obtain ⟨u1, u2, u3, u4, u5, u6, u7, u8, u9, u10, u11⟩ := B_q hZ' kA1
    rw [zB_1 kA, zB_1 kA.1, zB_1 kA.1.1, if_pos kA.1]
    generalize hKK : 8 * b + c = K
    have hK8 : 8 * b ≤ K ∧ K < 8 * b + 8 := by omega
    obtain ⟨v1, v2, v3, v4, v5⟩ := B_s hZ' kA1 hK8
    obtain ⟨p1, p2, p3⟩ := pr e he.1 kA.2
    obtain ⟨r1, r2, r3, r4, r5, r6, r7, r8, r9, r10, r11⟩ := pS_r hZ' (k := K) (by omega)
    have re := h8.2.1 e he.1 (by omega)
    have hg := L_gives (s := s) hZ' ⟨he.1, kA.2⟩
    by_cases kB : X 1035 b = 0 ∧ X 1038 K = -1 ∧ (0 < X 1027 e ∧ zclk (X 1029 e + 1) (X 1028 e) (X 1029 e) (X 424 0) ≠ -1)
    · obtain ⟨kB1, kB2, kB3⟩ := id kB
      rw [zB_1 kB3] at hg
      have m1 := u2.mpr kB1
      have m2 := v1.mpr kB2
      rw [q_L_isBoard_166]
      simp (disch := first | assumption | omega) only [↓reduceIte, l_0, l_1, l_2, l_3, l_4, l_5, l_6, l_7, l_8, l_9, l_10, l_12, l_16, l_24, l_31, l_32, l_48, l_96, l_99, l_100, l_150, l_180, l_200, l_240, l_255, l_260, l_384, l_400, l_999, l_5000, l_9999, l_1000000, l_1000000000, l_11, l_13, l_14, l_15, l_17, l_18, l_19, l_20, l_21, l_22, l_23, l_25, l_26, l_28, l_30, l_34, l_38, l_42, l_44, l_54, l_60, l_64, l_81, l_90, l_101, l_103, l_110, l_120, l_128, l_140, l_256, l_401, l_403, l_450, l_512, l_853, l_983, l_1000, l_1001, l_2048, l_3000000, l_2000000, l_4096, l_5001, l_5002, l_10000, l_10001, l_32767, l_32768, l_60000, l_2147483647, zJ_lt, zJ_le, zJ_eq, zJ_add, zJ_sub, zJ_mul, zJ_neg, zJ_dv, t_I, t_Ie, t_R, t_Re, t_N, t_Nn, t_V, t_Ve, t_b, t_x, t_w, e_0, e_1, e_2, e_3, ↓t_0, ↓t_1, t_00, t_11, if_true, if_false, ite_not, not_false_eq_true, not_true_eq_false, Int.reduceEq, Int.reduceLT, Int.reduceLE, Int.reduceNeg, Nat.reduceEqDiff, Bool.false_eq_true, ek, lq_ hL, ls_ hL, m1, m2, hg]
      rw [q_L_isBoard_213]
      simp (disch := first | assumption | omega) only [↓reduceIte, l_0, l_1, l_2, l_3, l_4, l_5, l_6, l_7, l_8, l_9, l_10, l_12, l_16, l_24, l_31, l_32, l_48, l_96, l_99, l_100, l_150, l_180, l_200, l_240, l_255, l_260, l_384, l_400, l_999, l_5000, l_9999, l_1000000, l_1000000000, l_11, l_13, l_14, l_15, l_17, l_18, l_19, l_20, l_21, l_22, l_23, l_25, l_26, l_28, l_30, l_34, l_38, l_42, l_44, l_54, l_60, l_64, l_81, l_90, l_101, l_103, l_110, l_120, l_128, l_140, l_256, l_401, l_403, l_450, l_512, l_853, l_983, l_1000, l_1001, l_2048, l_3000000, l_2000000, l_4096, l_5001, l_5002, l_10000, l_10001, l_32767, l_32768, l_60000, l_2147483647, zJ_lt, zJ_le, zJ_eq, zJ_add, zJ_sub, zJ_mul, zJ_neg, zJ_dv, t_I, t_Ie, t_R, t_Re, t_N, t_Nn, t_V, t_Ve, t_b, t_x, t_w, e_0, e_1, e_2, e_3, ↓t_0, ↓t_1, t_00, t_11, if_true, if_false, ite_not, not_false_eq_true, not_true_eq_false, Int.reduceEq, Int.reduceLT, Int.reduceLE, Int.reduceNeg, Nat.reduceEqDiff, Bool.false_eq_true, ss_ hL, lh_ hL, ph.2.2.2, sp_ hL, ln_ hL, sn_ hL, wu_ne, p2]
      generalize hX' : wu (wu (wu X 1109 K (e + 1)) 1110 K (X 424 0)) 1106 e (X 1027 e - 1) = X'
      have sX : zsame [1106, 1109, 1110] X X' := by
        rw [← hX']
        exact same_u (by decide) (same_u (by decide) (same_u (by decide) same_r))
      have gl : ∀ f, f < 1100 → X' f = X f := fun f hf => sX f (by simp; omega)
      have hI' := iAll_l gl hY.2.2.2.1.2 hY.2.2.2.2.2.1.2 hI
      rw [q_L_isBoard_247]
      refine zgL_d hG (by rw [l_0, l_12]; exact d_place hY hG hI' (by omega) (by omega) (by omega)) (fun Y2 n2 m2 X2 code ans v hD h0 hE hl hY2 hG2 hI2 hle => ?_)
      unfold dPlace at hD
      rw [hKK, gl 434 (by decide), gl 425 (by decide), gl 1035 (by decide), gl 1038 (by decide), gl 1027 (by decide), gl 1028 (by decide), gl 1029 (by decide), gl 424 (by decide), gl 1039 (by decide)] at hD
      obtain ⟨ev, e1, e2, e3, e4, e7⟩ := (zd2_v hD h0 hE).2.2 kA' kB
      have s2 := same_t (same_m (F := [1106, 1109, 1110, 182, 220, 221, 222, 444, 1038, 1039, 1027]) sX (by decide)) (same_m e7 (by decide))
      have g06 : ∀ j, X2 1106 j = if j = e then X 1027 e - 1 else X 1106 j := fun j => by
        rw [hl 1106 (by decide), ← hX', wu_v, wu_ne (by decide), wu_ne (by decide)]
      have g09 : ∀ j, X2 1109 j = if j = K then e + 1 else X 1109 j := fun j => by
        rw [hl 1109 (by decide), ← hX', wu_ne (by decide), wu_ne (by decide), wu_v]
      have g10 : ∀ j, X2 1110 j = if j = K then X 424 0 else X 1110 j := fun j => by
        rw [hl 1110 (by decide), ← hX', wu_ne (by decide), wu_v, wu_ne (by decide)]
      refine ⟨⟨pG_c pg (same_g s2 (by decide)), pB_c pb (same_g s2 (by decide)), pC_c pc (same_g s2 (by decide)), pW_c pw (same_g s2 (by decide)), ?_, pH_c ph (same_g s2 (by decide)), ?_, pF_c pf (same_g s2 (by decide))⟩, fun _ => ?_⟩
      · intro k k0 k1
        rw [s2 425 (by decide)] at k1
        rw [s2 1105 (by decide), s2 1026 (by decide), s2 1028 (by decide), g06, e4, s2 1107 (by decide), s2 1029 (by decide)]
        have := pr k k0 k1
        by_cases hk : k = e
        · simp only [if_pos hk]
          exact ⟨this.1, trivial, this.2.2⟩
        · simp only [if_neg hk]
          exact this
      · refine ⟨fun k k0 k1 => ?_, fun b' b0 b1 => ?_⟩
        · rw [g09, g10, e2, e3, s2 1041 (by decide), s2 1042 (by decide), s2 1043 (by decide), s2 1040 (by decide)]
          have := ps.1 k k0 k1
          by_cases hk : k = K
          · rw [hk]
            simp only [if_true]
            have := v2 kB2
            refine ⟨by omega, trivial, by omega, fun g => by omega⟩
          · simp only [if_neg hk]
            exact this
        · rw [s2 1111 (by decide), s2 1035 (by decide), s2 1036 (by decide), s2 1037 (by decide), s2 1042 (by decide)]
          exact ps.2 b' b0 b1
      · have hLv := wY_A hY2
        rw [wA_l hle hL (j := 606) (by decide) (by decide)]
        simp (disch := first | assumption | omega) only [↓reduceIte, l_0, l_1, l_2, l_3, l_4, l_5, l_6, l_7, l_8, l_9, l_10, l_12, l_16, l_24, l_31, l_32, l_48, l_96, l_99, l_100, l_150, l_180, l_200, l_240, l_255, l_260, l_384, l_400, l_999, l_5000, l_9999, l_1000000, l_1000000000, l_11, l_13, l_14, l_15, l_17, l_18, l_19, l_20, l_21, l_22, l_23, l_25, l_26, l_28, l_30, l_34, l_38, l_42, l_44, l_54, l_60, l_64, l_81, l_90, l_101, l_103, l_110, l_120, l_128, l_140, l_256, l_401, l_403, l_450, l_512, l_853, l_983, l_1000, l_1001, l_2048, l_3000000, l_2000000, l_4096, l_5001, l_5002, l_10000, l_10001, l_32767, l_32768, l_60000, l_2147483647, zJ_lt, zJ_le, zJ_eq, zJ_add, zJ_sub, zJ_mul, zJ_neg, zJ_dv, t_I, t_Ie, t_R, t_Re, t_N, t_Nn, t_V, t_Ve, t_b, t_x, t_w, e_0, e_1, e_2, e_3, ↓t_0, ↓t_1, t_00, t_11, if_true, if_false, ite_not, not_false_eq_true, not_true_eq_false, Int.reduceEq, Int.reduceLT, Int.reduceLE, Int.reduceNeg, Nat.reduceEqDiff, Bool.false_eq_true, ev, e1, ln_ hLv, g06]
    · have hst : ev_ G 221 166 [.ref (wA Y 13 0), .ref (wA Y 15 605), .ref (wA Y 15 606), .ref (wA Y 15 607), .ref (wA Y 15 608), .ref (wA Y 15 609), .ref (wA Y 15 610), .ref (wA Y 15 611), .ref (wA Y 15 613), .int (zJ k), .int (zJ q), .int (zJ r), .int (zJ b), .int (zJ c), .int (zJ e), .int (zJ (1)), .int (zJ (1)), .int (zJ (1)), zU, zU, zU, zU] [.int (zJ K)] (wd Y n s X) = ev_ G 221 213 [.ref (wA Y 13 0), .ref (wA Y 15 605), .ref (wA Y 15 606), .ref (wA Y 15 607), .ref (wA Y 15 608), .ref (wA Y 15 609), .ref (wA Y 15 610), .ref (wA Y 15 611), .ref (wA Y 15 613), .int (zJ k), .int (zJ q), .int (zJ r), .int (zJ b), .int (zJ c), .int (zJ e), .int (zJ (1)), .int (zJ (1)), .int (zJ (1)), .int (zJ K), zU, zU, zU] [.int (zJ 0)] (wd Y n s X) := by
        rw [q_L_isBoard_166]
        by_cases k1 : X 1111 b = 0
        · by_cases k2 : X 1109 K = 0
          · rw [zB_0 (fun g => kB ⟨u2.mp k1, v1.mp k2, g⟩)] at hg
            simp (disch := first | assumption | omega) only [↓reduceIte, l_0, l_1, l_2, l_3, l_4, l_5, l_6, l_7, l_8, l_9, l_10, l_12, l_16, l_24, l_31, l_32, l_48, l_96, l_99, l_100, l_150, l_180, l_200, l_240, l_255, l_260, l_384, l_400, l_999, l_5000, l_9999, l_1000000, l_1000000000, l_11, l_13, l_14, l_15, l_17, l_18, l_19, l_20, l_21, l_22, l_23, l_25, l_26, l_28, l_30, l_34, l_38, l_42, l_44, l_54, l_60, l_64, l_81, l_90, l_101, l_103, l_110, l_120, l_128, l_140, l_256, l_401, l_403, l_450, l_512, l_853, l_983, l_1000, l_1001, l_2048, l_3000000, l_2000000, l_4096, l_5001, l_5002, l_10000, l_10001, l_32767, l_32768, l_60000, l_2147483647, zJ_lt, zJ_le, zJ_eq, zJ_add, zJ_sub, zJ_mul, zJ_neg, zJ_dv, t_I, t_Ie, t_R, t_Re, t_N, t_Nn, t_V, t_Ve, t_b, t_x, t_w, e_0, e_1, e_2, e_3, ↓t_0, ↓t_1, t_00, t_11, if_true, if_false, ite_not, not_false_eq_true, not_true_eq_false, Int.reduceEq, Int.reduceLT, Int.reduceLE, Int.reduceNeg, Nat.reduceEqDiff, Bool.false_eq_true, ek, lq_ hL, ls_ hL, k1, k2, hg]
          · simp (disch := first | assumption | omega) only [↓reduceIte, l_0, l_1, l_2, l_3, l_4, l_5, l_6, l_7, l_8, l_9, l_10, l_12, l_16, l_24, l_31, l_32, l_48, l_96, l_99, l_100, l_150, l_180, l_200, l_240, l_255, l_260, l_384, l_400, l_999, l_5000, l_9999, l_1000000, l_1000000000, l_11, l_13, l_14, l_15, l_17, l_18, l_19, l_20, l_21, l_22, l_23, l_25, l_26, l_28, l_30, l_34, l_38, l_42, l_44, l_54, l_60, l_64, l_81, l_90, l_101, l_103, l_110, l_120, l_128, l_140, l_256, l_401, l_403, l_450, l_512, l_853, l_983, l_1000, l_1001, l_2048, l_3000000, l_2000000, l_4096, l_5001, l_5002, l_10000, l_10001, l_32767, l_32768, l_60000, l_2147483647, zJ_lt, zJ_le, zJ_eq, zJ_add, zJ_sub, zJ_mul, zJ_neg, zJ_dv, t_I, t_Ie, t_R, t_Re, t_N, t_Nn, t_V, t_Ve, t_b, t_x, t_w, e_0, e_1, e_2, e_3, ↓t_0, ↓t_1, t_00, t_11, if_true, if_false, ite_not, not_false_eq_true, not_true_eq_false, Int.reduceEq, Int.reduceLT, Int.reduceLE, Int.reduceNeg, Nat.reduceEqDiff, Bool.false_eq_true, ek, lq_ hL, ls_ hL, k1, k2]
        · simp (disch := first | assumption | omega) only [↓reduceIte, l_0, l_1, l_2, l_3, l_4, l_5, l_6, l_7, l_8, l_9, l_10, l_12, l_16, l_24, l_31, l_32, l_48, l_96, l_99, l_100, l_150, l_180, l_200, l_240, l_255, l_260, l_384, l_400, l_999, l_5000, l_9999, l_1000000, l_1000000000, l_11, l_13, l_14, l_15, l_17, l_18, l_19, l_20, l_21, l_22, l_23, l_25, l_26, l_28, l_30, l_34, l_38, l_42, l_44, l_54, l_60, l_64, l_81, l_90, l_101, l_103, l_110, l_120, l_128, l_140, l_256, l_401, l_403, l_450, l_512, l_853, l_983, l_1000, l_1001, l_2048, l_3000000, l_2000000, l_4096, l_5001, l_5002, l_10000, l_10001, l_32767, l_32768, l_60000, l_2147483647, zJ_lt, zJ_le, zJ_eq, zJ_add, zJ_sub, zJ_mul, zJ_neg, zJ_dv, t_I, t_Ie, t_R, t_Re, t_N, t_Nn, t_V, t_Ve, t_b, t_x, t_w, e_0, e_1, e_2, e_3, ↓t_0, ↓t_1, t_00, t_11, if_true, if_false, ite_not, not_false_eq_true, not_true_eq_false, Int.reduceEq, Int.reduceLT, Int.reduceLE, Int.reduceNeg, Nat.reduceEqDiff, Bool.false_eq_true, ek, lq_ hL, k1]
      rw [hst, q_L_isBoard_213]
      simp (disch := first | assumption | omega) only [↓reduceIte, l_0, l_1, l_2, l_3, l_4, l_5, l_6, l_7, l_8, l_9, l_10, l_12, l_16, l_24, l_31, l_32, l_48, l_96, l_99, l_100, l_150, l_180, l_200, l_240, l_255, l_260, l_384, l_400, l_999, l_5000, l_9999, l_1000000, l_1000000000, l_11, l_13, l_14, l_15, l_17, l_18, l_19, l_20, l_21, l_22, l_23, l_25, l_26, l_28, l_30, l_34, l_38, l_42, l_44, l_54, l_60, l_64, l_81, l_90, l_101, l_103, l_110, l_120, l_128, l_140, l_256, l_401, l_403, l_450, l_512, l_853, l_983, l_1000, l_1001, l_2048, l_3000000, l_2000000, l_4096, l_5001, l_5002, l_10000, l_10001, l_32767, l_32768, l_60000, l_2147483647, zJ_lt, zJ_le, zJ_eq, zJ_add, zJ_sub, zJ_mul, zJ_neg, zJ_dv, t_I, t_Ie, t_R, t_Re, t_N, t_Nn, t_V, t_Ve, t_b, t_x, t_w, e_0, e_1, e_2, e_3, ↓t_0, ↓t_1, t_00, t_11, if_true, if_false, ite_not, not_false_eq_true, not_true_eq_false, Int.reduceEq, Int.reduceLT, Int.reduceLE, Int.reduceNeg, Nat.reduceEqDiff, Bool.false_eq_true]
      rw [q_L_isBoard_247]
      refine zgL_d hG (by rw [l_0, l_12]; exact d_place hY hG hI (by omega) (by omega) (by omega)) (fun Y2 n2 m2 X2 code ans v hD h0 hE hl hY2 hG2 hI2 hle => ?_)
      unfold dPlace at hD
      rw [hKK] at hD
      obtain ⟨ev, e1⟩ := (zd2_v hD h0 hE).2.1 kA' kB
      refine ⟨pK_s e1 (by decide) hK, fun _ => ?_⟩
      simp (disch := first | assumption | omega) only [↓reduceIte, l_0, l_1, l_2, l_3, l_4, l_5, l_6, l_7, l_8, l_9, l_10, l_12, l_16, l_24, l_31, l_32, l_48, l_96, l_99, l_100, l_150, l_180, l_200, l_240, l_255, l_260, l_384, l_400, l_999, l_5000, l_9999, l_1000000, l_1000000000, l_11, l_13, l_14, l_15, l_17, l_18, l_19, l_20, l_21, l_22, l_23, l_25, l_26, l_28, l_30, l_34, l_38, l_42, l_44, l_54, l_60, l_64, l_81, l_90, l_101, l_103, l_110, l_120, l_128, l_140, l_256, l_401, l_403, l_450, l_512, l_853, l_983, l_1000, l_1001, l_2048, l_3000000, l_2000000, l_4096, l_5001, l_5002, l_10000, l_10001, l_32767, l_32768, l_60000, l_2147483647, zJ_lt, zJ_le, zJ_eq, zJ_add, zJ_sub, zJ_mul, zJ_neg, zJ_dv, t_I, t_Ie, t_R, t_Re, t_N, t_Nn, t_V, t_Ve, t_b, t_x, t_w, e_0, e_1, e_2, e_3, ↓t_0, ↓t_1, t_00, t_11, if_true, if_false, ite_not, not_false_eq_true, not_true_eq_false, Int.reduceEq, Int.reduceLT, Int.reduceLE, Int.reduceNeg, Nat.reduceEqDiff, Bool.false_eq_true, ev, zrv_2]
  · rw [zB_0 kA, q_L_isBoard_166]
    simp (disch := first | assumption | omega) only [↓reduceIte, l_0, l_1, l_2, l_3, l_4, l_5, l_6, l_7, l_8, l_9, l_10, l_12, l_16, l_24, l_31, l_32, l_48, l_96, l_99, l_100, l_150, l_180, l_200, l_240, l_255, l_260, l_384, l_400, l_999, l_5000, l_9999, l_1000000, l_1000000000, l_11, l_13, l_14, l_15, l_17, l_18, l_19, l_20, l_21, l_22, l_23, l_25, l_26, l_28, l_30, l_34, l_38, l_42, l_44, l_54, l_60, l_64, l_81, l_90, l_101, l_103, l_110, l_120, l_128, l_140, l_256, l_401, l_403, l_450, l_512, l_853, l_983, l_1000, l_1001, l_2048, l_3000000, l_2000000, l_4096, l_5001, l_5002, l_10000, l_10001, l_32767, l_32768, l_60000, l_2147483647, zJ_lt, zJ_le, zJ_eq, zJ_add, zJ_sub, zJ_mul, zJ_neg, zJ_dv, t_I, t_Ie, t_R, t_Re, t_N, t_Nn, t_V, t_Ve, t_b, t_x, t_w, e_0, e_1, e_2, e_3, ↓t_0, ↓t_1, t_00, t_11, if_true, if_false, ite_not, not_false_eq_true, not_true_eq_false, Int.reduceEq, Int.reduceLT, Int.reduceLE, Int.reduceNeg, Nat.reduceEqDiff, Bool.false_eq_true, ek]
    rw [q_L_isBoard_213]
    simp (disch := first | assumption | omega) only [↓reduceIte, l_0, l_1, l_2, l_3, l_4, l_5, l_6, l_7, l_8, l_9, l_10, l_12, l_16, l_24, l_31, l_32, l_48, l_96, l_99, l_100, l_150, l_180, l_200, l_240, l_255, l_260, l_384, l_400, l_999, l_5000, l_9999, l_1000000, l_1000000000, l_11, l_13, l_14, l_15, l_17, l_18, l_19, l_20, l_21, l_22, l_23, l_25, l_26, l_28, l_30, l_34, l_38, l_42, l_44, l_54, l_60, l_64, l_81, l_90, l_101, l_103, l_110, l_120, l_128, l_140, l_256, l_401, l_403, l_450, l_512, l_853, l_983, l_1000, l_1001, l_2048, l_3000000, l_2000000, l_4096, l_5001, l_5002, l_10000, l_10001, l_32767, l_32768, l_60000, l_2147483647, zJ_lt, zJ_le, zJ_eq, zJ_add, zJ_sub, zJ_mul, zJ_neg, zJ_dv, t_I, t_Ie, t_R, t_Re, t_N, t_Nn, t_V, t_Ve, t_b, t_x, t_w, e_0, e_1, e_2, e_3, ↓t_0, ↓t_1, t_00, t_11, if_true, if_false, ite_not, not_false_eq_true, not_true_eq_false, Int.reduceEq, Int.reduceLT, Int.reduceLE, Int.reduceNeg, Nat.reduceEqDiff, Bool.false_eq_true]
    rw [q_L_isBoard_247]
    refine zgL_d hG (by rw [l_0, l_12]; exact d_place hY hG hI (by omega) (by omega) (by omega)) (fun Y2 n2 m2 X2 code ans v hD h0 hE hl hY2 hG2 hI2 hle => ?_)
    unfold dPlace at hD
    obtain ⟨ev, e1⟩ := (zd2_v hD h0 hE).1 (by omega)
    refine ⟨pK_s e1 (by decide) hK, fun _ => ?_⟩
    simp (disch := first | assumption | omega) only [↓reduceIte, l_0, l_1, l_2, l_3, l_4, l_5, l_6, l_7, l_8, l_9, l_10, l_12, l_16, l_24, l_31, l_32, l_48, l_96, l_99, l_100, l_150, l_180, l_200, l_240, l_255, l_260, l_384, l_400, l_999, l_5000, l_9999, l_1000000, l_1000000000, l_11, l_13, l_14, l_15, l_17, l_18, l_19, l_20, l_21, l_22, l_23, l_25, l_26, l_28, l_30, l_34, l_38, l_42, l_44, l_54, l_60, l_64, l_81, l_90, l_101, l_103, l_110, l_120, l_128, l_140, l_256, l_401, l_403, l_450, l_512, l_853, l_983, l_1000, l_1001, l_2048, l_3000000, l_2000000, l_4096, l_5001, l_5002, l_10000, l_10001, l_32767, l_32768, l_60000, l_2147483647, zJ_lt, zJ_le, zJ_eq, zJ_add, zJ_sub, zJ_mul, zJ_neg, zJ_dv, t_I, t_Ie, t_R, t_Re, t_N, t_Nn, t_V, t_Ve, t_b, t_x, t_w, e_0, e_1, e_2, e_3, ↓t_0, ↓t_1, t_00, t_11, if_true, if_false, ite_not, not_false_eq_true, not_true_eq_false, Int.reduceEq, Int.reduceLT, Int.reduceLE, Int.reduceNeg, Nat.reduceEqDiff, Bool.false_eq_true, ev, zrv_0]
end ZL
