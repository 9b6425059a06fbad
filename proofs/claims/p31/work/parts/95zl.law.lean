/-! THE LAW, 15: boards, on -/
section ZL
variable {Y : zLy} {n s : Nat} {X : zX} {G : Nat × Nat} {X' : zX} {t p q r k j b c e i1 i2 i3 : Int} {E : List Int}
theorem pK_q {X' X2 : zX} {v : Int} (hK : pK X) (hX' : wu X 1111 4 v = X') (e7 : zsame [444] X' X2) : pK X2 := by
  obtain ⟨pg, pb, pc, pw, pr, ph, ps, pf⟩ := hK
  have sX : zsame [1111] X X' := by
    rw [← hX']
    exact same_u (by decide) same_r
  have s2 := same_t (same_m (F := [1111, 444]) sX (by decide)) (same_m e7 (by decide))
  refine ⟨pG_c pg (same_g s2 (by decide)), pB_c pb (same_g s2 (by decide)), pC_c pc (same_g s2 (by decide)), pW_c pw (same_g s2 (by decide)), pR_c pr (same_g s2 (by decide)), pH_c ph (same_g s2 (by decide)), ?_, pF_c pf (same_g s2 (by decide))⟩
  refine ⟨?_, fun b' b0 b1 => ?_⟩
  · rw [s2 1109 (by decide), s2 1038 (by decide), s2 1041 (by decide), s2 1042 (by decide), s2 1043 (by decide), s2 1040 (by decide), s2 1110 (by decide), s2 1039 (by decide)]
    exact ps.1
  · rw [e7 1111 (by decide), ← hX', wu_ni (by omega), s2 1035 (by decide), s2 1036 (by decide), s2 1037 (by decide), s2 1042 (by decide)]
    exact ps.2 b' b0 b1
theorem B_solder (hZ : zLA G t Y n X) (hb : 0 ≤ b ∧ b ≤ X 434 0) (hc : 0 ≤ c ∧ c ≤ 8) (he : 0 ≤ e ∧ e ≤ X 425 0) : zgL G t Y n s (ev_ G 221 166 [.ref (wA Y 13 0), .ref (wA Y 15 605), .ref (wA Y 15 606), .ref (wA Y 15 607), .ref (wA Y 15 608), .ref (wA Y 15 609), .ref (wA Y 15 610), .ref (wA Y 15 611), .ref (wA Y 15 613), .int (zJ 2), .int (zJ q), .int (zJ r), .int (zJ b), .int (zJ c), .int (zJ e), .int (zJ (zB (b < X 434 0))), .int (zJ (zB (b < X 434 0 ∧ c < 8))), .int (zJ (zB ((b < X 434 0 ∧ c < 8) ∧ e < X 425 0))), zU, zU, zU, zU] [.int (zJ (if b < X 434 0 ∧ c < 8 then 8 * b + c else 0))] (wd Y n s X)) := by
  have hZ' := hZ
  obtain ⟨hY, hG, hI, hK⟩ := hZ
  obtain ⟨pg, pb, pc, pw, pr, ph, ps, pf⟩ := id hK
  have hL := wY_A hY
  have hn4 := pg.2.2.2.2.2.2.2
  have h12 := hI.2.2.2.2.2.2.2.2.2.2.2
  have h8 := hI.2.2.2.2.2.2.2.1
  have hR : 0 ≤ X 425 0 ∧ X 425 0 ≤ 12 := by
    have := h8.1
    have := hY.2.2.2.2.1
    omega
  generalize (if b < X 434 0 ∧ c < 8 then 8 * b + c else 0) = K
  generalize zB (b < X 434 0 ∧ c < 8) = i2
  generalize zB ((b < X 434 0 ∧ c < 8) ∧ e < X 425 0) = i3
  by_cases kA : b < X 434 0
  · have kA1 : 0 ≤ b ∧ b < X 434 0 := by omega
    obtain ⟨u1, u2, u3, u4, u5, u6, u7, u8, u9, u10, u11⟩ := B_q hZ' kA1
    rw [zB_1 kA, q_L_isBoard_166]
    by_cases kB : X 1035 b = 0
    · have m1 := u2.mpr kB
      have hsl := L_soldered (s := s) hZ' kA1
      simp (disch := first | assumption | omega) only [↓reduceIte, l_0, l_1, l_2, l_3, l_4, l_5, l_6, l_7, l_8, l_9, l_10, l_12, l_16, l_24, l_31, l_32, l_48, l_96, l_99, l_100, l_150, l_180, l_200, l_240, l_255, l_260, l_384, l_400, l_999, l_5000, l_9999, l_1000000, l_1000000000, l_11, l_13, l_14, l_15, l_17, l_18, l_19, l_20, l_21, l_22, l_23, l_25, l_26, l_28, l_30, l_34, l_38, l_42, l_44, l_54, l_60, l_64, l_81, l_90, l_101, l_103, l_110, l_120, l_128, l_140, l_256, l_401, l_403, l_450, l_512, l_853, l_983, l_1000, l_1001, l_2048, l_3000000, l_2000000, l_4096, l_5001, l_5002, l_10000, l_10001, l_32767, l_32768, l_60000, l_2147483647, zJ_lt, zJ_le, zJ_eq, zJ_add, zJ_sub, zJ_mul, zJ_neg, zJ_dv, t_I, t_Ie, t_R, t_Re, t_N, t_Nn, t_V, t_Ve, t_b, t_x, t_w, e_0, e_1, e_2, e_3, ↓t_0, ↓t_1, t_00, t_11, if_true, if_false, ite_not, not_false_eq_true, not_true_eq_false, Int.reduceEq, Int.reduceLT, Int.reduceLE, Int.reduceNeg, Nat.reduceEqDiff, Bool.false_eq_true, lq_ hL, m1]
      rw [q_L_isBoard_318, hsl.1, t_I]
      obtain ⟨-, hp1, hp2⟩ := hsl
      generalize hpk : zpk (X 1030) (zmk X b) 12 0 25 (-1) = pk at hp1 hp2
      generalize hXs : zsol X X b pk (8 * b) = Xs
      have hs9 : ∀ j, Xs 1109 j = if 8 * b ≤ j ∧ j < 8 * b + 8 ∧ X 1038 j ≠ -1 then X 1109 j + (64 * zjf (X 1031 (X 1026 (X 1038 j))) (X 1032 (X 1026 (X 1038 j))) pk + 2048 * (zjf (X 1031 (X 1026 (X 1038 j))) (X 1032 (X 1026 (X 1038 j))) pk + 1)) else X 1109 j := fun j => by
        rw [← hXs]
        show (if (1109 : Int) = 1109 ∧ 8 * b ≤ j ∧ j < 8 * b + 8 ∧ X 1038 j ≠ -1 then _ else X 1109 j) = _
        by_cases g : 8 * b ≤ j ∧ j < 8 * b + 8 ∧ X 1038 j ≠ -1
        · rw [if_pos ⟨rfl, g⟩, if_pos g]
        · rw [if_neg (fun h => g h.2), if_neg g]
      have hsn : ∀ f, f ≠ 1109 → Xs f = X f := fun f hf => by
        rw [← hXs]
        funext j
        exact if_neg (fun g => hf g.1)
      simp (disch := first | assumption | omega) only [↓reduceIte, l_0, l_1, l_2, l_3, l_4, l_5, l_6, l_7, l_8, l_9, l_10, l_12, l_16, l_24, l_31, l_32, l_48, l_96, l_99, l_100, l_150, l_180, l_200, l_240, l_255, l_260, l_384, l_400, l_999, l_5000, l_9999, l_1000000, l_1000000000, l_11, l_13, l_14, l_15, l_17, l_18, l_19, l_20, l_21, l_22, l_23, l_25, l_26, l_28, l_30, l_34, l_38, l_42, l_44, l_54, l_60, l_64, l_81, l_90, l_101, l_103, l_110, l_120, l_128, l_140, l_256, l_401, l_403, l_450, l_512, l_853, l_983, l_1000, l_1001, l_2048, l_3000000, l_2000000, l_4096, l_5001, l_5002, l_10000, l_10001, l_32767, l_32768, l_60000, l_2147483647, zJ_lt, zJ_le, zJ_eq, zJ_add, zJ_sub, zJ_mul, zJ_neg, zJ_dv, t_I, t_Ie, t_R, t_Re, t_N, t_Nn, t_V, t_Ve, t_b, t_x, t_w, e_0, e_1, e_2, e_3, ↓t_0, ↓t_1, t_00, t_11, if_true, if_false, ite_not, not_false_eq_true, not_true_eq_false, Int.reduceEq, Int.reduceLT, Int.reduceLE, Int.reduceNeg, Nat.reduceEqDiff, Bool.false_eq_true]
      rw [q_L_isBoard_354]
      simp (disch := first | assumption | omega) only [↓reduceIte, l_0, l_1, l_2, l_3, l_4, l_5, l_6, l_7, l_8, l_9, l_10, l_12, l_16, l_24, l_31, l_32, l_48, l_96, l_99, l_100, l_150, l_180, l_200, l_240, l_255, l_260, l_384, l_400, l_999, l_5000, l_9999, l_1000000, l_1000000000, l_11, l_13, l_14, l_15, l_17, l_18, l_19, l_20, l_21, l_22, l_23, l_25, l_26, l_28, l_30, l_34, l_38, l_42, l_44, l_54, l_60, l_64, l_81, l_90, l_101, l_103, l_110, l_120, l_128, l_140, l_256, l_401, l_403, l_450, l_512, l_853, l_983, l_1000, l_1001, l_2048, l_3000000, l_2000000, l_4096, l_5001, l_5002, l_10000, l_10001, l_32767, l_32768, l_60000, l_2147483647, zJ_lt, zJ_le, zJ_eq, zJ_add, zJ_sub, zJ_mul, zJ_neg, zJ_dv, t_I, t_Ie, t_R, t_Re, t_N, t_Nn, t_V, t_Ve, t_b, t_x, t_w, e_0, e_1, e_2, e_3, ↓t_0, ↓t_1, t_00, t_11, if_true, if_false, ite_not, not_false_eq_true, not_true_eq_false, Int.reduceEq, Int.reduceLT, Int.reduceLE, Int.reduceNeg, Nat.reduceEqDiff, Bool.false_eq_true, sq_ hL]
      generalize hX' : wu Xs 1111 b 1 = X'
      have sX : zsame [1109, 1111] X X' := by
        rw [← hX']
        exact same_u (by decide) (fun f hf => hsn f (fun g => hf (by simp [g])))
      have gl : ∀ f, f < 1100 → X' f = X f := fun f hf => sX f (by simp; omega)
      have hI' := iAll_l gl hY.2.2.2.1.2 hY.2.2.2.2.2.1.2 hI
      refine zgL_d hG (by exact d_solder hY hG hI' (by omega)) (fun Y2 n2 m2 X2 code ans v hD h0 hE hl hY2 hG2 hI2 hle => ?_)
      unfold dSolder zmk at hD
      rw [gl 434 (by decide), gl 1035 (by decide), gl 1030 (by decide), gl 1038 (by decide), gl 1031 (by decide), gl 1032 (by decide), gl 1026 (by decide), gl 1040 (by decide), gl 1041 (by decide)] at hD
      obtain ⟨ev, e1, e2, e3, e4⟩ := (zd2_v hD h0 hE).2.2 kA1 kB
      have hpk' : zpk (X 1030) (2 + zsm (fun m => zB (X 1038 m ≠ -1)) (8 * b) 8) 12 0 25 (-1) = pk := hpk
      rw [hpk'] at e1
      rw [← e1] at e3
      have e7 : zsame [226, 227, 223, 40, 1040, 1041, 1035, 444, 509, 510, 511, 512] X' X2 := fun f hf => by
        simp only [List.mem_cons, List.not_mem_nil, or_false, not_or] at hf
        exact e4 f (by simp only [List.mem_cons, List.not_mem_nil, or_false, not_or]; omega) (by omega)
      have s2 := same_t (same_m (F := [1109, 1111, 226, 227, 223, 40, 1040, 1041, 1035, 444, 509, 510, 511, 512]) sX (by decide)) (same_m e7 (by decide))
      have g09 : ∀ j, X2 1109 j = Xs 1109 j := fun j => by
        rw [hl 1109 (by decide), ← hX', wu_ne (by decide)]
      have g11 : ∀ j, X2 1111 j = if j = b then 1 else X 1111 j := fun j => by
        rw [hl 1111 (by decide), ← hX', wu_v, hsn 1111 (by decide)]
      refine ⟨⟨pG_c pg (same_g s2 (by decide)), pB_c pb (same_g s2 (by decide)), pC_c pc (same_g s2 (by decide)), pW_c pw (same_g s2 (by decide)), pR_c pr (same_g s2 (by decide)), pH_c ph (same_g s2 (by decide)), ?_, pF_c pf (same_g s2 (by decide))⟩, fun _ => ?_⟩
      · refine ⟨fun k k0 k1 => ?_, fun b' b0 b1 => ?_⟩
        · rw [g09, hs9, s2 1038 (by decide), (e3 k).2, s2 1042 (by decide), s2 1043 (by decide), (e3 k).1, s2 1110 (by decide), s2 1039 (by decide)]
          have a := ps.1 k k0 k1
          by_cases hk : (8 * b ≤ k ∧ k < 8 * b + 8) ∧ X 1038 k ≠ -1
          · have w := (B_s hZ' kA1 hk.1).2.2.1 kB
            have hz : 0 ≤ zjf (X 1031 (X 1026 (X 1038 k))) (X 1032 (X 1026 (X 1038 k))) pk ∧ zjf (X 1031 (X 1026 (X 1038 k))) (X 1032 (X 1026 (X 1038 k))) pk ≤ 2 := by
              unfold zjf
              split
              · omega
              · split <;> omega
            rw [if_pos ⟨hk.1.1, hk.1.2, hk.2⟩, if_pos hk, if_pos hk]
            generalize zjf (X 1031 (X 1026 (X 1038 k))) (X 1032 (X 1026 (X 1038 k))) pk = z at hz
            exact ⟨by omega, a.2.1, by omega, a.2.2.2⟩
          · rw [if_neg (fun g => hk ⟨⟨g.1, g.2.1⟩, g.2.2⟩), if_neg hk, if_neg hk]
            exact a
        · rw [g11, e2, s2 1036 (by decide), s2 1037 (by decide), s2 1042 (by decide)]
          have a := ps.2 b' b0 b1
          by_cases hk : b' = b
          · rw [if_pos hk, if_pos hk, hk]
            have w := u7 kB
            exact ⟨by omega, fun g => by omega, fun g => w.2, fun g => absurd w.2 g⟩
          · rw [if_neg hk, if_neg hk]
            exact a
      · simp (disch := first | assumption | omega) only [↓reduceIte, l_0, l_1, l_2, l_3, l_4, l_5, l_6, l_7, l_8, l_9, l_10, l_12, l_16, l_24, l_31, l_32, l_48, l_96, l_99, l_100, l_150, l_180, l_200, l_240, l_255, l_260, l_384, l_400, l_999, l_5000, l_9999, l_1000000, l_1000000000, l_11, l_13, l_14, l_15, l_17, l_18, l_19, l_20, l_21, l_22, l_23, l_25, l_26, l_28, l_30, l_34, l_38, l_42, l_44, l_54, l_60, l_64, l_81, l_90, l_101, l_103, l_110, l_120, l_128, l_140, l_256, l_401, l_403, l_450, l_512, l_853, l_983, l_1000, l_1001, l_2048, l_3000000, l_2000000, l_4096, l_5001, l_5002, l_10000, l_10001, l_32767, l_32768, l_60000, l_2147483647, zJ_lt, zJ_le, zJ_eq, zJ_add, zJ_sub, zJ_mul, zJ_neg, zJ_dv, t_I, t_Ie, t_R, t_Re, t_N, t_Nn, t_V, t_Ve, t_b, t_x, t_w, e_0, e_1, e_2, e_3, ↓t_0, ↓t_1, t_00, t_11, if_true, if_false, ite_not, not_false_eq_true, not_true_eq_false, Int.reduceEq, Int.reduceLT, Int.reduceLE, Int.reduceNeg, Nat.reduceEqDiff, Bool.false_eq_true, ev, ← e1]
    · have m1 : ¬X 1111 b = 0 := fun g => kB (u2.mp g)
      simp (disch := first | assumption | omega) only [↓reduceIte, l_0, l_1, l_2, l_3, l_4, l_5, l_6, l_7, l_8, l_9, l_10, l_12, l_16, l_24, l_31, l_32, l_48, l_96, l_99, l_100, l_150, l_180, l_200, l_240, l_255, l_260, l_384, l_400, l_999, l_5000, l_9999, l_1000000, l_1000000000, l_11, l_13, l_14, l_15, l_17, l_18, l_19, l_20, l_21, l_22, l_23, l_25, l_26, l_28, l_30, l_34, l_38, l_42, l_44, l_54, l_60, l_64, l_81, l_90, l_101, l_103, l_110, l_120, l_128, l_140, l_256, l_401, l_403, l_450, l_512, l_853, l_983, l_1000, l_1001, l_2048, l_3000000, l_2000000, l_4096, l_5001, l_5002, l_10000, l_10001, l_32767, l_32768, l_60000, l_2147483647, zJ_lt, zJ_le, zJ_eq, zJ_add, zJ_sub, zJ_mul, zJ_neg, zJ_dv, t_I, t_Ie, t_R, t_Re, t_N, t_Nn, t_V, t_Ve, t_b, t_x, t_w, e_0, e_1, e_2, e_3, ↓t_0, ↓t_1, t_00, t_11, if_true, if_false, ite_not, not_false_eq_true, not_true_eq_false, Int.reduceEq, Int.reduceLT, Int.reduceLE, Int.reduceNeg, Nat.reduceEqDiff, Bool.false_eq_true, lq_ hL, m1]
      rw [q_L_isBoard_318]
      simp (disch := first | assumption | omega) only [↓reduceIte, l_0, l_1, l_2, l_3, l_4, l_5, l_6, l_7, l_8, l_9, l_10, l_12, l_16, l_24, l_31, l_32, l_48, l_96, l_99, l_100, l_150, l_180, l_200, l_240, l_255, l_260, l_384, l_400, l_999, l_5000, l_9999, l_1000000, l_1000000000, l_11, l_13, l_14, l_15, l_17, l_18, l_19, l_20, l_21, l_22, l_23, l_25, l_26, l_28, l_30, l_34, l_38, l_42, l_44, l_54, l_60, l_64, l_81, l_90, l_101, l_103, l_110, l_120, l_128, l_140, l_256, l_401, l_403, l_450, l_512, l_853, l_983, l_1000, l_1001, l_2048, l_3000000, l_2000000, l_4096, l_5001, l_5002, l_10000, l_10001, l_32767, l_32768, l_60000, l_2147483647, zJ_lt, zJ_le, zJ_eq, zJ_add, zJ_sub, zJ_mul, zJ_neg, zJ_dv, t_I, t_Ie, t_R, t_Re, t_N, t_Nn, t_V, t_Ve, t_b, t_x, t_w, e_0, e_1, e_2, e_3, ↓t_0, ↓t_1, t_00, t_11, if_true, if_false, ite_not, not_false_eq_true, not_true_eq_false, Int.reduceEq, Int.reduceLT, Int.reduceLE, Int.reduceNeg, Nat.reduceEqDiff, Bool.false_eq_true]
      rw [q_L_isBoard_354]
      simp (disch := first | assumption | omega) only [↓reduceIte, l_0, l_1, l_2, l_3, l_4, l_5, l_6, l_7, l_8, l_9, l_10, l_12, l_16, l_24, l_31, l_32, l_48, l_96, l_99, l_100, l_150, l_180, l_200, l_240, l_255, l_260, l_384, l_400, l_999, l_5000, l_9999, l_1000000, l_1000000000, l_11, l_13, l_14, l_15, l_17, l_18, l_19, l_20, l_21, l_22, l_23, l_25, l_26, l_28, l_30, l_34, l_38, l_42, l_44, l_54, l_60, l_64, l_81, l_90, l_101, l_103, l_110, l_120, l_128, l_140, l_256, l_401, l_403, l_450, l_512, l_853, l_983, l_1000, l_1001, l_2048, l_3000000, l_2000000, l_4096, l_5001, l_5002, l_10000, l_10001, l_32767, l_32768, l_60000, l_2147483647, zJ_lt, zJ_le, zJ_eq, zJ_add, zJ_sub, zJ_mul, zJ_neg, zJ_dv, t_I, t_Ie, t_R, t_Re, t_N, t_Nn, t_V, t_Ve, t_b, t_x, t_w, e_0, e_1, e_2, e_3, ↓t_0, ↓t_1, t_00, t_11, if_true, if_false, ite_not, not_false_eq_true, not_true_eq_false, Int.reduceEq, Int.reduceLT, Int.reduceLE, Int.reduceNeg, Nat.reduceEqDiff, Bool.false_eq_true, sq_ hL]
      generalize hX' : wu X 1111 4 1 = X'
      have sX : zsame [1111] X X' := by
        rw [← hX']
        exact same_u (by decide) same_r
      have gl : ∀ f, f < 1100 → X' f = X f := fun f hf => sX f (by simp; omega)
      have hI' := iAll_l gl hY.2.2.2.1.2 hY.2.2.2.2.2.1.2 hI
      refine zgL_d hG (by exact d_solder hY hG hI' (by omega)) (fun Y2 n2 m2 X2 code ans v hD h0 hE hl hY2 hG2 hI2 hle => ?_)
      unfold dSolder at hD
      rw [gl 434 (by decide), gl 1035 (by decide)] at hD
      obtain ⟨ev, e1⟩ := (zd2_v hD h0 hE).2.1 kA1 kB
      refine ⟨pK_q hK hX' e1, fun _ => ?_⟩
      simp (disch := first | assumption | omega) only [↓reduceIte, l_0, l_1, l_2, l_3, l_4, l_5, l_6, l_7, l_8, l_9, l_10, l_12, l_16, l_24, l_31, l_32, l_48, l_96, l_99, l_100, l_150, l_180, l_200, l_240, l_255, l_260, l_384, l_400, l_999, l_5000, l_9999, l_1000000, l_1000000000, l_11, l_13, l_14, l_15, l_17, l_18, l_19, l_20, l_21, l_22, l_23, l_25, l_26, l_28, l_30, l_34, l_38, l_42, l_44, l_54, l_60, l_64, l_81, l_90, l_101, l_103, l_110, l_120, l_128, l_140, l_256, l_401, l_403, l_450, l_512, l_853, l_983, l_1000, l_1001, l_2048, l_3000000, l_2000000, l_4096, l_5001, l_5002, l_10000, l_10001, l_32767, l_32768, l_60000, l_2147483647, zJ_lt, zJ_le, zJ_eq, zJ_add, zJ_sub, zJ_mul, zJ_neg, zJ_dv, t_I, t_Ie, t_R, t_Re, t_N, t_Nn, t_V, t_Ve, t_b, t_x, t_w, e_0, e_1, e_2, e_3, ↓t_0, ↓t_1, t_00, t_11, if_true, if_false, ite_not, not_false_eq_true, not_true_eq_false, Int.reduceEq, Int.reduceLT, Int.reduceLE, Int.reduceNeg, Nat.reduceEqDiff, Bool.false_eq_true, ev, zrv_2]
  · rw [zB_0 kA, q_L_isBoard_166]
    simp (disch := first | assumption | omega) only [↓reduceIte, l_0, l_1, l_2, l_3, l_4, l_5, l_6, l_7, l_8, l_9, l_10, l_12, l_16, l_24, l_31, l_32, l_48, l_96, l_99, l_100, l_150, l_180, l_200, l_240, l_255, l_260, l_384, l_400, l_999, l_5000, l_9999, l_1000000, l_1000000000, l_11, l_13, l_14, l_15, l_17, l_18, l_19, l_20, l_21, l_22, l_23, l_25, l_26, l_28, l_30, l_34, l_38, l_42, l_44, l_54, l_60, l_64, l_81, l_90, l_101, l_103, l_110, l_120, l_128, l_140, l_256, l_401, l_403, l_450, l_512, l_853, l_983, l_1000, l_1001, l_2048, l_3000000, l_2000000, l_4096, l_5001, l_5002, l_10000, l_10001, l_32767, l_32768, l_60000, l_2147483647, zJ_lt, zJ_le, zJ_eq, zJ_add, zJ_sub, zJ_mul, zJ_neg, zJ_dv, t_I, t_Ie, t_R, t_Re, t_N, t_Nn, t_V, t_Ve, t_b, t_x, t_w, e_0, e_1, e_2, e_3, ↓t_0, ↓t_1, t_00, t_11, if_true, if_false, ite_not, not_false_eq_true, not_true_eq_false, Int.reduceEq, Int.reduceLT, Int.reduceLE, Int.reduceNeg, Nat.reduceEqDiff, Bool.false_eq_true]
    rw [q_L_isBoard_318]
    simp (disch := first | assumption | omega) only [↓reduceIte, l_0, l_1, l_2, l_3, l_4, l_5, l_6, l_7, l_8, l_9, l_10, l_12, l_16, l_24, l_31, l_32, l_48, l_96, l_99, l_100, l_150, l_180, l_200, l_240, l_255, l_260, l_384, l_400, l_999, l_5000, l_9999, l_1000000, l_1000000000, l_11, l_13, l_14, l_15, l_17, l_18, l_19, l_20, l_21, l_22, l_23, l_25, l_26, l_28, l_30, l_34, l_38, l_42, l_44, l_54, l_60, l_64, l_81, l_90, l_101, l_103, l_110, l_120, l_128, l_140, l_256, l_401, l_403, l_450, l_512, l_853, l_983, l_1000, l_1001, l_2048, l_3000000, l_2000000, l_4096, l_5001, l_5002, l_10000, l_10001, l_32767, l_32768, l_60000, l_2147483647, zJ_lt, zJ_le, zJ_eq, zJ_add, zJ_sub, zJ_mul, zJ_neg, zJ_dv, t_I, t_Ie, t_R, t_Re, t_N, t_Nn, t_V, t_Ve, t_b, t_x, t_w, e_0, e_1, e_2, e_3, ↓t_0, ↓t_1, t_00, t_11, if_true, if_false, ite_not, not_false_eq_true, not_true_eq_false, Int.reduceEq, Int.reduceLT, Int.reduceLE, Int.reduceNeg, Nat.reduceEqDiff, Bool.false_eq_true]
    rw [q_L_isBoard_354]
    simp (disch := first | assumption | omega) only [↓reduceIte, l_0, l_1, l_2, l_3, l_4, l_5, l_6, l_7, l_8, l_9, l_10, l_12, l_16, l_24, l_31, l_32, l_48, l_96, l_99, l_100, l_150, l_180, l_200, l_240, l_255, l_260, l_384, l_400, l_999, l_5000, l_9999, l_1000000, l_1000000000, l_11, l_13, l_14, l_15, l_17, l_18, l_19, l_20, l_21, l_22, l_23, l_25, l_26, l_28, l_30, l_34, l_38, l_42, l_44, l_54, l_60, l_64, l_81, l_90, l_101, l_103, l_110, l_120, l_128, l_140, l_256, l_401, l_403, l_450, l_512, l_853, l_983, l_1000, l_1001, l_2048, l_3000000, l_2000000, l_4096, l_5001, l_5002, l_10000, l_10001, l_32767, l_32768, l_60000, l_2147483647, zJ_lt, zJ_le, zJ_eq, zJ_add, zJ_sub, zJ_mul, zJ_neg, zJ_dv, t_I, t_Ie, t_R, t_Re, t_N, t_Nn, t_V, t_Ve, t_b, t_x, t_w, e_0, e_1, e_2, e_3, ↓t_0, ↓t_1, t_00, t_11, if_true, if_false, ite_not, not_false_eq_true, not_true_eq_false, Int.reduceEq, Int.reduceLT, Int.reduceLE, Int.reduceNeg, Nat.reduceEqDiff, Bool.false_eq_true, sq_ hL]
    generalize hX' : wu X 1111 4 1 = X'
    have sX : zsame [1111] X X' := by
      rw [← hX']
      exact same_u (by decide) same_r
    have gl : ∀ f, f < 1100 → X' f = X f := fun f hf => sX f (by simp; omega)
    have hI' := iAll_l gl hY.2.2.2.1.2 hY.2.2.2.2.2.1.2 hI
    refine zgL_d hG (by exact d_solder hY hG hI' (by omega)) (fun Y2 n2 m2 X2 code ans v hD h0 hE hl hY2 hG2 hI2 hle => ?_)
    unfold dSolder at hD
    rw [gl 434 (by decide)] at hD
    obtain ⟨ev, e1⟩ := (zd2_v hD h0 hE).1 (by omega)
    refine ⟨pK_q hK hX' e1, fun _ => ?_⟩
    simp (disch := first | assumption | omega) only [↓reduceIte, l_0, l_1, l_2, l_3, l_4, l_5, l_6, l_7, l_8, l_9, l_10, l_12, l_16, l_24, l_31, l_32, l_48, l_96, l_99, l_100, l_150, l_180, l_200, l_240, l_255, l_260, l_384, l_400, l_999, l_5000, l_9999, l_1000000, l_1000000000, l_11, l_13, l_14, l_15, l_17, l_18, l_19, l_20, l_21, l_22, l_23, l_25, l_26, l_28, l_30, l_34, l_38, l_42, l_44, l_54, l_60, l_64, l_81, l_90, l_101, l_103, l_110, l_120, l_128, l_140, l_256, l_401, l_403, l_450, l_512, l_853, l_983, l_1000, l_1001, l_2048, l_3000000, l_2000000, l_4096, l_5001, l_5002, l_10000, l_10001, l_32767, l_32768, l_60000, l_2147483647, zJ_lt, zJ_le, zJ_eq, zJ_add, zJ_sub, zJ_mul, zJ_neg, zJ_dv, t_I, t_Ie, t_R, t_Re, t_N, t_Nn, t_V, t_Ve, t_b, t_x, t_w, e_0, e_1, e_2, e_3, ↓t_0, ↓t_1, t_00, t_11, if_true, if_false, ite_not, not_false_eq_true, not_true_eq_false, Int.reduceEq, Int.reduceLT, Int.reduceLE, Int.reduceNeg, Nat.reduceEqDiff, Bool.false_eq_true, ev, zrv_0]
theorem B_flaw (hZ : zLA G t Y n X) (hb : 0 ≤ b ∧ b ≤ X 434 0) (hc : 0 ≤ c ∧ c ≤ 8) (he : 0 ≤ e ∧ e ≤ X 425 0) : zgL G t Y n s (ev_ G 221 166 [.ref (wA Y 13 0), .ref (wA Y 15 605), .ref (wA Y 15 606), .ref (wA Y 15 607), .ref (wA Y 15 608), .ref (wA Y 15 609), .ref (wA Y 15 610), .ref (wA Y 15 611), .ref (wA Y 15 613), .int (zJ 3), .int (zJ q), .int (zJ r), .int (zJ b), .int (zJ c), .int (zJ e), .int (zJ (zB (b < X 434 0))), .int (zJ (zB (b < X 434 0 ∧ c < 8))), .int (zJ (zB ((b < X 434 0 ∧ c < 8) ∧ e < X 425 0))), zU, zU, zU, zU] [.int (zJ (if b < X 434 0 ∧ c < 8 then 8 * b + c else 0))] (wd Y n s X)) := by
  have hZ' := hZ
  obtain ⟨hY, hG, hI, hK⟩ := hZ
  obtain ⟨pg, pb, pc, pw, pr, ph, ps, pf⟩ := id hK
  have hL := wY_A hY
  have hn4 := pg.2.2.2.2.2.2.2
  have h12 := hI.2.2.2.2.2.2.2.2.2.2.2
  have h8 := hI.2.2.2.2.2.2.2.1
  have hR : 0 ≤ X 425 0 ∧ X 425 0 ≤ 12 := by
    have := h8.1
    have := hY.2.2.2.2.1
    omega
  generalize zB ((b < X 434 0 ∧ c < 8) ∧ e < X 425 0) = i3
  by_cases kA : b < X 434 0 ∧ c < 8
  · have kA1 : 0 ≤ b ∧ b < X 434 0 := by omega
    have kA' : (0 ≤ b ∧ b < X 434 0) ∧ (0 ≤ c ∧ c < 8) := by omega
    obtain ⟨u1, u2, u3, u4, u5, u6, u7, u8, u9, u10, u11⟩ := B_q hZ' kA1
    rw [zB_1 kA, zB_1 kA.1, if_pos kA]
    generalize hKK : 8 * b + c = K
    have hK8 : 8 * b ≤ K ∧ K < 8 * b + 8 := by omega
    obtain ⟨v1, v2, v3, v4, v5⟩ := B_s hZ' kA1 hK8
    obtain ⟨r1, r2, r3, r4, r5, r6, r7, r8, r9, r10, r11⟩ := pS_r hZ' (k := K) (by omega)
    by_cases kB : X 1035 b ≠ 0 ∧ X 1037 b = 0 ∧ X 1038 K ≠ -1
    · obtain ⟨kB1, kB2, kB3⟩ := id kB
      have m1 := u3.mpr kB1
      have m2 : ¬4 ≤ X 1111 b := fun g => u4.mp g kB2
      have m3 : ¬X 1038 K + 1 ≤ 0 := by omega
      have m4 : X 1109 K / 64 % 8 = X 1041 K + 4 * X 1042 K := by omega
      rw [q_L_isBoard_166]
      simp (disch := first | assumption | omega) only [↓reduceIte, l_0, l_1, l_2, l_3, l_4, l_5, l_6, l_7, l_8, l_9, l_10, l_12, l_16, l_24, l_31, l_32, l_48, l_96, l_99, l_100, l_150, l_180, l_200, l_240, l_255, l_260, l_384, l_400, l_999, l_5000, l_9999, l_1000000, l_1000000000, l_11, l_13, l_14, l_15, l_17, l_18, l_19, l_20, l_21, l_22, l_23, l_25, l_26, l_28, l_30, l_34, l_38, l_42, l_44, l_54, l_60, l_64, l_81, l_90, l_101, l_103, l_110, l_120, l_128, l_140, l_256, l_401, l_403, l_450, l_512, l_853, l_983, l_1000, l_1001, l_2048, l_3000000, l_2000000, l_4096, l_5001, l_5002, l_10000, l_10001, l_32767, l_32768, l_60000, l_2147483647, zJ_lt, zJ_le, zJ_eq, zJ_add, zJ_sub, zJ_mul, zJ_neg, zJ_dv, t_I, t_Ie, t_R, t_Re, t_N, t_Nn, t_V, t_Ve, t_b, t_x, t_w, e_0, e_1, e_2, e_3, ↓t_0, ↓t_1, t_00, t_11, if_true, if_false, ite_not, not_false_eq_true, not_true_eq_false, Int.reduceEq, Int.reduceLT, Int.reduceLE, Int.reduceNeg, Nat.reduceEqDiff, Bool.false_eq_true, zem, lq_ hL, ls_ hL, m1, m2, r1, m3]
      rw [q_L_isBoard_446]
      simp (disch := first | assumption | omega) only [↓reduceIte, l_0, l_1, l_2, l_3, l_4, l_5, l_6, l_7, l_8, l_9, l_10, l_12, l_16, l_24, l_31, l_32, l_48, l_96, l_99, l_100, l_150, l_180, l_200, l_240, l_255, l_260, l_384, l_400, l_999, l_5000, l_9999, l_1000000, l_1000000000, l_11, l_13, l_14, l_15, l_17, l_18, l_19, l_20, l_21, l_22, l_23, l_25, l_26, l_28, l_30, l_34, l_38, l_42, l_44, l_54, l_60, l_64, l_81, l_90, l_101, l_103, l_110, l_120, l_128, l_140, l_256, l_401, l_403, l_450, l_512, l_853, l_983, l_1000, l_1001, l_2048, l_3000000, l_2000000, l_4096, l_5001, l_5002, l_10000, l_10001, l_32767, l_32768, l_60000, l_2147483647, zJ_lt, zJ_le, zJ_eq, zJ_add, zJ_sub, zJ_mul, zJ_neg, zJ_dv, t_I, t_Ie, t_R, t_Re, t_N, t_Nn, t_V, t_Ve, t_b, t_x, t_w, e_0, e_1, e_2, e_3, ↓t_0, ↓t_1, t_00, t_11, if_true, if_false, ite_not, not_false_eq_true, not_true_eq_false, Int.reduceEq, Int.reduceLT, Int.reduceLE, Int.reduceNeg, Nat.reduceEqDiff, Bool.false_eq_true, zem, ls_ hL, ss_ hL, m4]
      generalize hX' : wu X 1109 K (X 1109 K + 64 * (3 - (X 1041 K + 4 * X 1042 K))) = X'
      have sX : zsame [1109] X X' := by
        rw [← hX']
        exact same_u (by decide) same_r
      have gl : ∀ f, f < 1100 → X' f = X f := fun f hf => sX f (by simp; omega)
      have hI' := iAll_l gl hY.2.2.2.1.2 hY.2.2.2.2.2.1.2 hI
      rw [q_L_isBoard_477]
      refine zgL_d hG (by rw [l_0, l_15]; exact d_flaw hY hG hI' (by omega) (by omega)) (fun Y2 n2 m2 X2 code ans v hD h0 hE hl hY2 hG2 hI2 hle => ?_)
      obtain ⟨ha, hD⟩ := hD
      unfold dFlaw at hD
      rw [hKK, gl 434 (by decide), gl 1035 (by decide), gl 1037 (by decide), gl 1038 (by decide), gl 1041 (by decide), gl 1042 (by decide)] at hD
      obtain ⟨ev, e1, e2, e7⟩ := (zd2_v hD h0 hE).2.2 kA' kB
      have s2 := same_t (same_m (F := [1109, 223, 224, 444, 1041, 1042]) sX (by decide)) (same_m e7 (by decide))
      have g09 : ∀ j, X2 1109 j = if j = K then X 1109 K + 64 * (3 - (X 1041 K + 4 * X 1042 K)) else X 1109 j := fun j => by
        rw [hl 1109 (by decide), ← hX', wu_v]
      refine ⟨⟨pG_c pg (same_g s2 (by decide)), pB_c pb (same_g s2 (by decide)), pC_c pc (same_g s2 (by decide)), pW_c pw (same_g s2 (by decide)), pR_c pr (same_g s2 (by decide)), pH_c ph (same_g s2 (by decide)), ?_, pF_c pf (same_g s2 (by decide))⟩, fun _ => ?_⟩
      · refine ⟨fun k k0 k1 => ?_, fun b' b0 b1 => ?_⟩
        · rw [g09, e1, e2, s2 1038 (by decide), s2 1043 (by decide), s2 1040 (by decide), s2 1110 (by decide), s2 1039 (by decide)]
          have := ps.1 k k0 k1
          by_cases hk : k = K
          · simp only [if_pos hk]
            rw [hk] at this ⊢
            exact ⟨by omega, this.2⟩
          · simp only [if_neg hk]
            exact this
        · rw [s2 1111 (by decide), s2 1035 (by decide), s2 1036 (by decide), s2 1037 (by decide)]
          obtain ⟨a1, a2, a3, a4⟩ := ps.2 b' b0 b1
          refine ⟨a1, a2, a3, fun g k k0 k1 => ?_⟩
          rw [e2]
          split
          · rfl
          · exact a4 g k k0 k1
      · simp (disch := first | assumption | omega) only [↓reduceIte, l_0, l_1, l_2, l_3, l_4, l_5, l_6, l_7, l_8, l_9, l_10, l_12, l_16, l_24, l_31, l_32, l_48, l_96, l_99, l_100, l_150, l_180, l_200, l_240, l_255, l_260, l_384, l_400, l_999, l_5000, l_9999, l_1000000, l_1000000000, l_11, l_13, l_14, l_15, l_17, l_18, l_19, l_20, l_21, l_22, l_23, l_25, l_26, l_28, l_30, l_34, l_38, l_42, l_44, l_54, l_60, l_64, l_81, l_90, l_101, l_103, l_110, l_120, l_128, l_140, l_256, l_401, l_403, l_450, l_512, l_853, l_983, l_1000, l_1001, l_2048, l_3000000, l_2000000, l_4096, l_5001, l_5002, l_10000, l_10001, l_32767, l_32768, l_60000, l_2147483647, zJ_lt, zJ_le, zJ_eq, zJ_add, zJ_sub, zJ_mul, zJ_neg, zJ_dv, t_I, t_Ie, t_R, t_Re, t_N, t_Nn, t_V, t_Ve, t_b, t_x, t_w, e_0, e_1, e_2, e_3, ↓t_0, ↓t_1, t_00, t_11, if_true, if_false, ite_not, not_false_eq_true, not_true_eq_false, Int.reduceEq, Int.reduceLT, Int.reduceLE, Int.reduceNeg, Nat.reduceEqDiff, Bool.false_eq_true, ev, ha]
    · have hst : ev_ G 221 166 [.ref (wA Y 13 0), .ref (wA Y 15 605), .ref (wA Y 15 606), .ref (wA Y 15 607), .ref (wA Y 15 608), .ref (wA Y 15 609), .ref (wA Y 15 610), .ref (wA Y 15 611), .ref (wA Y 15 613), .int (zJ 3), .int (zJ q), .int (zJ r), .int (zJ b), .int (zJ c), .int (zJ e), .int (zJ (1)), .int (zJ (1)), .int (zJ (i3)), zU, zU, zU, zU] [.int (zJ K)] (wd Y n s X) = ev_ G 221 446 [.ref (wA Y 13 0), .ref (wA Y 15 605), .ref (wA Y 15 606), .ref (wA Y 15 607), .ref (wA Y 15 608), .ref (wA Y 15 609), .ref (wA Y 15 610), .ref (wA Y 15 611), .ref (wA Y 15 613), .int (zJ 3), .int (zJ q), .int (zJ r), .int (zJ b), .int (zJ c), .int (zJ e), .int (zJ (1)), .int (zJ (1)), .int (zJ (i3)), .int (zJ K), zU, zU, zU] [.int (zJ 0)] (wd Y n s X) := by
        rw [q_L_isBoard_166]
        by_cases k1 : X 1111 b % 2 = 1
        · by_cases k2 : 4 ≤ X 1111 b
          · simp (disch := first | assumption | omega) only [↓reduceIte, l_0, l_1, l_2, l_3, l_4, l_5, l_6, l_7, l_8, l_9, l_10, l_12, l_16, l_24, l_31, l_32, l_48, l_96, l_99, l_100, l_150, l_180, l_200, l_240, l_255, l_260, l_384, l_400, l_999, l_5000, l_9999, l_1000000, l_1000000000, l_11, l_13, l_14, l_15, l_17, l_18, l_19, l_20, l_21, l_22, l_23, l_25, l_26, l_28, l_30, l_34, l_38, l_42, l_44, l_54, l_60, l_64, l_81, l_90, l_101, l_103, l_110, l_120, l_128, l_140, l_256, l_401, l_403, l_450, l_512, l_853, l_983, l_1000, l_1001, l_2048, l_3000000, l_2000000, l_4096, l_5001, l_5002, l_10000, l_10001, l_32767, l_32768, l_60000, l_2147483647, zJ_lt, zJ_le, zJ_eq, zJ_add, zJ_sub, zJ_mul, zJ_neg, zJ_dv, t_I, t_Ie, t_R, t_Re, t_N, t_Nn, t_V, t_Ve, t_b, t_x, t_w, e_0, e_1, e_2, e_3, ↓t_0, ↓t_1, t_00, t_11, if_true, if_false, ite_not, not_false_eq_true, not_true_eq_false, Int.reduceEq, Int.reduceLT, Int.reduceLE, Int.reduceNeg, Nat.reduceEqDiff, Bool.false_eq_true, zem, lq_ hL, k1, k2]
          · have k3 : X 1038 K + 1 ≤ 0 := by
              by_cases g : X 1038 K = -1
              · omega
              · refine absurd ⟨u3.mp k1, ?_, g⟩ kB
                by_cases g' : X 1037 b = 0
                · exact g'
                · exact absurd (u4.mpr g') k2
            simp (disch := first | assumption | omega) only [↓reduceIte, l_0, l_1, l_2, l_3, l_4, l_5, l_6, l_7, l_8, l_9, l_10, l_12, l_16, l_24, l_31, l_32, l_48, l_96, l_99, l_100, l_150, l_180, l_200, l_240, l_255, l_260, l_384, l_400, l_999, l_5000, l_9999, l_1000000, l_1000000000, l_11, l_13, l_14, l_15, l_17, l_18, l_19, l_20, l_21, l_22, l_23, l_25, l_26, l_28, l_30, l_34, l_38, l_42, l_44, l_54, l_60, l_64, l_81, l_90, l_101, l_103, l_110, l_120, l_128, l_140, l_256, l_401, l_403, l_450, l_512, l_853, l_983, l_1000, l_1001, l_2048, l_3000000, l_2000000, l_4096, l_5001, l_5002, l_10000, l_10001, l_32767, l_32768, l_60000, l_2147483647, zJ_lt, zJ_le, zJ_eq, zJ_add, zJ_sub, zJ_mul, zJ_neg, zJ_dv, t_I, t_Ie, t_R, t_Re, t_N, t_Nn, t_V, t_Ve, t_b, t_x, t_w, e_0, e_1, e_2, e_3, ↓t_0, ↓t_1, t_00, t_11, if_true, if_false, ite_not, not_false_eq_true, not_true_eq_false, Int.reduceEq, Int.reduceLT, Int.reduceLE, Int.reduceNeg, Nat.reduceEqDiff, Bool.false_eq_true, zem, lq_ hL, ls_ hL, k1, k2, r1, k3]
        · simp (disch := first | assumption | omega) only [↓reduceIte, l_0, l_1, l_2, l_3, l_4, l_5, l_6, l_7, l_8, l_9, l_10, l_12, l_16, l_24, l_31, l_32, l_48, l_96, l_99, l_100, l_150, l_180, l_200, l_240, l_255, l_260, l_384, l_400, l_999, l_5000, l_9999, l_1000000, l_1000000000, l_11, l_13, l_14, l_15, l_17, l_18, l_19, l_20, l_21, l_22, l_23, l_25, l_26, l_28, l_30, l_34, l_38, l_42, l_44, l_54, l_60, l_64, l_81, l_90, l_101, l_103, l_110, l_120, l_128, l_140, l_256, l_401, l_403, l_450, l_512, l_853, l_983, l_1000, l_1001, l_2048, l_3000000, l_2000000, l_4096, l_5001, l_5002, l_10000, l_10001, l_32767, l_32768, l_60000, l_2147483647, zJ_lt, zJ_le, zJ_eq, zJ_add, zJ_sub, zJ_mul, zJ_neg, zJ_dv, t_I, t_Ie, t_R, t_Re, t_N, t_Nn, t_V, t_Ve, t_b, t_x, t_w, e_0, e_1, e_2, e_3, ↓t_0, ↓t_1, t_00, t_11, if_true, if_false, ite_not, not_false_eq_true, not_true_eq_false, Int.reduceEq, Int.reduceLT, Int.reduceLE, Int.reduceNeg, Nat.reduceEqDiff, Bool.false_eq_true, zem, lq_ hL, k1]
      rw [hst, q_L_isBoard_446]
      simp (disch := first | assumption | omega) only [↓reduceIte, l_0, l_1, l_2, l_3, l_4, l_5, l_6, l_7, l_8, l_9, l_10, l_12, l_16, l_24, l_31, l_32, l_48, l_96, l_99, l_100, l_150, l_180, l_200, l_240, l_255, l_260, l_384, l_400, l_999, l_5000, l_9999, l_1000000, l_1000000000, l_11, l_13, l_14, l_15, l_17, l_18, l_19, l_20, l_21, l_22, l_23, l_25, l_26, l_28, l_30, l_34, l_38, l_42, l_44, l_54, l_60, l_64, l_81, l_90, l_101, l_103, l_110, l_120, l_128, l_140, l_256, l_401, l_403, l_450, l_512, l_853, l_983, l_1000, l_1001, l_2048, l_3000000, l_2000000, l_4096, l_5001, l_5002, l_10000, l_10001, l_32767, l_32768, l_60000, l_2147483647, zJ_lt, zJ_le, zJ_eq, zJ_add, zJ_sub, zJ_mul, zJ_neg, zJ_dv, t_I, t_Ie, t_R, t_Re, t_N, t_Nn, t_V, t_Ve, t_b, t_x, t_w, e_0, e_1, e_2, e_3, ↓t_0, ↓t_1, t_00, t_11, if_true, if_false, ite_not, not_false_eq_true, not_true_eq_false, Int.reduceEq, Int.reduceLT, Int.reduceLE, Int.reduceNeg, Nat.reduceEqDiff, Bool.false_eq_true]
      rw [q_L_isBoard_477]
      refine zgL_d hG (by rw [l_0, l_15]; exact d_flaw hY hG hI (by omega) (by omega)) (fun Y2 n2 m2 X2 code ans v hD h0 hE hl hY2 hG2 hI2 hle => ?_)
      obtain ⟨ha, hD⟩ := hD
      unfold dFlaw at hD
      rw [hKK] at hD
      obtain ⟨ev, e1⟩ := (zd2_v hD h0 hE).2.1 kA' kB
      refine ⟨pK_s e1 (by decide) hK, fun _ => ?_⟩
      simp (disch := first | assumption | omega) only [↓reduceIte, l_0, l_1, l_2, l_3, l_4, l_5, l_6, l_7, l_8, l_9, l_10, l_12, l_16, l_24, l_31, l_32, l_48, l_96, l_99, l_100, l_150, l_180, l_200, l_240, l_255, l_260, l_384, l_400, l_999, l_5000, l_9999, l_1000000, l_1000000000, l_11, l_13, l_14, l_15, l_17, l_18, l_19, l_20, l_21, l_22, l_23, l_25, l_26, l_28, l_30, l_34, l_38, l_42, l_44, l_54, l_60, l_64, l_81, l_90, l_101, l_103, l_110, l_120, l_128, l_140, l_256, l_401, l_403, l_450, l_512, l_853, l_983, l_1000, l_1001, l_2048, l_3000000, l_2000000, l_4096, l_5001, l_5002, l_10000, l_10001, l_32767, l_32768, l_60000, l_2147483647, zJ_lt, zJ_le, zJ_eq, zJ_add, zJ_sub, zJ_mul, zJ_neg, zJ_dv, t_I, t_Ie, t_R, t_Re, t_N, t_Nn, t_V, t_Ve, t_b, t_x, t_w, e_0, e_1, e_2, e_3, ↓t_0, ↓t_1, t_00, t_11, if_true, if_false, ite_not, not_false_eq_true, not_true_eq_false, Int.reduceEq, Int.reduceLT, Int.reduceLE, Int.reduceNeg, Nat.reduceEqDiff, Bool.false_eq_true, ev, zrv_2]
  · rw [zB_0 kA, q_L_isBoard_166]
    generalize zB (b < X 434 0) = i1
    simp (disch := first | assumption | omega) only [↓reduceIte, l_0, l_1, l_2, l_3, l_4, l_5, l_6, l_7, l_8, l_9, l_10, l_12, l_16, l_24, l_31, l_32, l_48, l_96, l_99, l_100, l_150, l_180, l_200, l_240, l_255, l_260, l_384, l_400, l_999, l_5000, l_9999, l_1000000, l_1000000000, l_11, l_13, l_14, l_15, l_17, l_18, l_19, l_20, l_21, l_22, l_23, l_25, l_26, l_28, l_30, l_34, l_38, l_42, l_44, l_54, l_60, l_64, l_81, l_90, l_101, l_103, l_110, l_120, l_128, l_140, l_256, l_401, l_403, l_450, l_512, l_853, l_983, l_1000, l_1001, l_2048, l_3000000, l_2000000, l_4096, l_5001, l_5002, l_10000, l_10001, l_32767, l_32768, l_60000, l_2147483647, zJ_lt, zJ_le, zJ_eq, zJ_add, zJ_sub, zJ_mul, zJ_neg, zJ_dv, t_I, t_Ie, t_R, t_Re, t_N, t_Nn, t_V, t_Ve, t_b, t_x, t_w, e_0, e_1, e_2, e_3, ↓t_0, ↓t_1, t_00, t_11, if_true, if_false, ite_not, not_false_eq_true, not_true_eq_false, Int.reduceEq, Int.reduceLT, Int.reduceLE, Int.reduceNeg, Nat.reduceEqDiff, Bool.false_eq_true]
    rw [q_L_isBoard_446]
    simp (disch := first | assumption | omega) only [↓reduceIte, l_0, l_1, l_2, l_3, l_4, l_5, l_6, l_7, l_8, l_9, l_10, l_12, l_16, l_24, l_31, l_32, l_48, l_96, l_99, l_100, l_150, l_180, l_200, l_240, l_255, l_260, l_384, l_400, l_999, l_5000, l_9999, l_1000000, l_1000000000, l_11, l_13, l_14, l_15, l_17, l_18, l_19, l_20, l_21, l_22, l_23, l_25, l_26, l_28, l_30, l_34, l_38, l_42, l_44, l_54, l_60, l_64, l_81, l_90, l_101, l_103, l_110, l_120, l_128, l_140, l_256, l_401, l_403, l_450, l_512, l_853, l_983, l_1000, l_1001, l_2048, l_3000000, l_2000000, l_4096, l_5001, l_5002, l_10000, l_10001, l_32767, l_32768, l_60000, l_2147483647, zJ_lt, zJ_le, zJ_eq, zJ_add, zJ_sub, zJ_mul, zJ_neg, zJ_dv, t_I, t_Ie, t_R, t_Re, t_N, t_Nn, t_V, t_Ve, t_b, t_x, t_w, e_0, e_1, e_2, e_3, ↓t_0, ↓t_1, t_00, t_11, if_true, if_false, ite_not, not_false_eq_true, not_true_eq_false, Int.reduceEq, Int.reduceLT, Int.reduceLE, Int.reduceNeg, Nat.reduceEqDiff, Bool.false_eq_true]
    rw [q_L_isBoard_477]
    refine zgL_d hG (by rw [l_0, l_15]; exact d_flaw hY hG hI (by omega) (by omega)) (fun Y2 n2 m2 X2 code ans v hD h0 hE hl hY2 hG2 hI2 hle => ?_)
    obtain ⟨ha, hD⟩ := hD
    unfold dFlaw at hD
    obtain ⟨ev, e1⟩ := (zd2_v hD h0 hE).1 (by omega)
    refine ⟨pK_s e1 (by decide) hK, fun _ => ?_⟩
    simp (disch := first | assumption | omega) only [↓reduceIte, l_0, l_1, l_2, l_3, l_4, l_5, l_6, l_7, l_8, l_9, l_10, l_12, l_16, l_24, l_31, l_32, l_48, l_96, l_99, l_100, l_150, l_180, l_200, l_240, l_255, l_260, l_384, l_400, l_999, l_5000, l_9999, l_1000000, l_1000000000, l_11, l_13, l_14, l_15, l_17, l_18, l_19, l_20, l_21, l_22, l_23, l_25, l_26, l_28, l_30, l_34, l_38, l_42, l_44, l_54, l_60, l_64, l_81, l_90, l_101, l_103, l_110, l_120, l_128, l_140, l_256, l_401, l_403, l_450, l_512, l_853, l_983, l_1000, l_1001, l_2048, l_3000000, l_2000000, l_4096, l_5001, l_5002, l_10000, l_10001, l_32767, l_32768, l_60000, l_2147483647, zJ_lt, zJ_le, zJ_eq, zJ_add, zJ_sub, zJ_mul, zJ_neg, zJ_dv, t_I, t_Ie, t_R, t_Re, t_N, t_Nn, t_V, t_Ve, t_b, t_x, t_w, e_0, e_1, e_2, e_3, ↓t_0, ↓t_1, t_00, t_11, if_true, if_false, ite_not, not_false_eq_true, not_true_eq_false, Int.reduceEq, Int.reduceLT, Int.reduceLE, Int.reduceNeg, Nat.reduceEqDiff, Bool.false_eq_true, ev, zrv_0]
def ztst (X X1 : zX) (b : Int) (k : Int) : zX := fun f j => if f = 1109 ∧ k ≤ j ∧ j < 8 * b + 8 ∧ (X 1041 j ≠ 0 ∧ X 1042 j = 0 ∧ zbt (X 266 0) (j - 8 * b) = true) then X 1109 j + 256 else X1 f j
theorem ztst_s {X1 : zX} {v : Int} (hk : j < 8) (hj : X1 1109 (8 * b + j) = X 1109 (8 * b + j)) (hv : v = X 1109 (8 * b + j) + (if X 1041 (8 * b + j) ≠ 0 ∧ X 1042 (8 * b + j) = 0 ∧ zbt (X 266 0) j = true then 256 else 0)) : ztst X (wu X1 1109 (8 * b + j) v) b (8 * b + (j + 1)) = ztst X X1 b (8 * b + j) := by
  funext f i
  show (if f = 1109 ∧ 8 * b + (j + 1) ≤ i ∧ i < 8 * b + 8 ∧ (X 1041 i ≠ 0 ∧ X 1042 i = 0 ∧ zbt (X 266 0) (i - 8 * b) = true) then X 1109 i + 256 else wu X1 1109 (8 * b + j) v f i) = (if f = 1109 ∧ 8 * b + j ≤ i ∧ i < 8 * b + 8 ∧ (X 1041 i ≠ 0 ∧ X 1042 i = 0 ∧ zbt (X 266 0) (i - 8 * b) = true) then X 1109 i + 256 else X1 f i)
  by_cases h1 : f = 1109 ∧ i = 8 * b + j
  · obtain ⟨rfl, rfl⟩ := h1
    rw [if_neg (fun g => by omega), wu_eq, hv, show 8 * b + j - 8 * b = j by omega]
    by_cases h2 : X 1041 (8 * b + j) ≠ 0 ∧ X 1042 (8 * b + j) = 0 ∧ zbt (X 266 0) j = true
    · rw [if_pos h2, if_pos ⟨rfl, Int.le_refl _, by omega, h2⟩]
    · rw [if_neg h2, if_neg (fun g => h2 g.2.2.2), Int.add_zero, hj]
  · have hw : wu X1 1109 (8 * b + j) v f i = X1 f i := if_neg (fun g => h1 g)
    rw [hw]
    by_cases h2 : f = 1109 ∧ 8 * b + (j + 1) ≤ i ∧ i < 8 * b + 8 ∧ (X 1041 i ≠ 0 ∧ X 1042 i = 0 ∧ zbt (X 266 0) (i - 8 * b) = true)
    · rw [if_pos h2, if_pos ⟨h2.1, by omega, h2.2.2⟩]
    · rw [if_neg h2, if_neg]
      rintro ⟨g1, g2, g3, g4⟩
      exact h2 ⟨g1, by
        have : i ≠ 8 * b + j := fun g => h1 ⟨g1, g⟩
        omega, g3, g4⟩
theorem B_561 (hZ : zLA G t Y n X) (hb : 0 ≤ b ∧ b < X 434 0) {K i2 i3 : Int} : ∀ (m : Nat) (j : Int) (X1 : zX) (u : Value), (∀ f, f ≠ 1109 → X1 f = X f) → (∀ i, 8 * b + j ≤ i → X1 1109 i = X 1109 i) → 0 ≤ j → j + m = 8 → ∃ v : Value, ev_ G 221 561 [.ref (wA Y 13 0), .ref (wA Y 15 605), .ref (wA Y 15 606), .ref (wA Y 15 607), .ref (wA Y 15 608), .ref (wA Y 15 609), .ref (wA Y 15 610), .ref (wA Y 15 611), .ref (wA Y 15 613), .int (zJ 4), .int (zJ q), .int (zJ r), .int (zJ b), .int (zJ c), .int (zJ e), .int (zJ (1)), .int (zJ (i2)), .int (zJ (i3)), .int (zJ K), .int (zJ 1), .int (zJ j), u] [] (wd Y n s X1) = ev_ G 221 657 [.ref (wA Y 13 0), .ref (wA Y 15 605), .ref (wA Y 15 606), .ref (wA Y 15 607), .ref (wA Y 15 608), .ref (wA Y 15 609), .ref (wA Y 15 610), .ref (wA Y 15 611), .ref (wA Y 15 613), .int (zJ 4), .int (zJ q), .int (zJ r), .int (zJ b), .int (zJ c), .int (zJ e), .int (zJ (1)), .int (zJ (i2)), .int (zJ (i3)), .int (zJ K), .int (zJ 1), .int (zJ 8), v] [.int (zJ b), .ref (wA Y 15 611)] (wd Y n s (ztst X X1 b (8 * b + j))) := by
  have hZ' := hZ
  obtain ⟨hY, hG, hI, hK⟩ := hZ
  obtain ⟨pg, pb, pc, pw, pr, ph, ps, pf⟩ := id hK
  have hL := wY_A hY
  have hn4 := pg.2.2.2.2.2.2.2
  have h12 := hI.2.2.2.2.2.2.2.2.2.2.2
  have h8 := hI.2.2.2.2.2.2.2.1
  have hR : 0 ≤ X 425 0 ∧ X 425 0 ≤ 12 := by
    have := h8.1
    have := hY.2.2.2.2.1
    omega
  have hcv := hI.2.2.2.2.2.2.2.2.2.1.1
  intro m
  induction m with
  | zero =>
    intro j X1 u hf hj j0 j1
    have hj8 : j = 8 := by omega
    subst hj8
    refine ⟨u, ?_⟩
    have : ztst X X1 b (8 * b + 8) = X1 := by
      funext f i
      exact if_neg (fun g => by omega)
    rw [this, q_L_isBoard_561]
    simp (disch := first | assumption | omega) only [↓reduceIte, l_0, l_1, l_2, l_3, l_4, l_5, l_6, l_7, l_8, l_9, l_10, l_12, l_16, l_24, l_31, l_32, l_48, l_96, l_99, l_100, l_150, l_180, l_200, l_240, l_255, l_260, l_384, l_400, l_999, l_5000, l_9999, l_1000000, l_1000000000, l_11, l_13, l_14, l_15, l_17, l_18, l_19, l_20, l_21, l_22, l_23, l_25, l_26, l_28, l_30, l_34, l_38, l_42, l_44, l_54, l_60, l_64, l_81, l_90, l_101, l_103, l_110, l_120, l_128, l_140, l_256, l_401, l_403, l_450, l_512, l_853, l_983, l_1000, l_1001, l_2048, l_3000000, l_2000000, l_4096, l_5001, l_5002, l_10000, l_10001, l_32767, l_32768, l_60000, l_2147483647, zJ_lt, zJ_le, zJ_eq, zJ_add, zJ_sub, zJ_mul, zJ_neg, zJ_dv, t_I, t_Ie, t_R, t_Re, t_N, t_Nn, t_V, t_Ve, t_b, t_x, t_w, e_0, e_1, e_2, e_3, ↓t_0, ↓t_1, t_00, t_11, if_true, if_false, ite_not, not_false_eq_true, not_true_eq_false, Int.reduceEq, Int.reduceLT, Int.reduceLE, Int.reduceNeg, Nat.reduceEqDiff, Bool.false_eq_true]
  | succ m ih =>
    intro j X1 u hf hj j0 j1
    have e1 : ¬8 ≤ j := by omega
    have ej := hj (8 * b + j) (Int.le_refl _)
    obtain ⟨r1, r2, r3, r4, r5, r6, r7, r8, r9, r10, r11⟩ := pS_r hZ' (k := 8 * b + j) (by omega)
    have m4 : X 1109 (8 * b + j) / 64 % 8 = X 1041 (8 * b + j) + 4 * X 1042 (8 * b + j) := by omega
    have f8 : X1 1108 = X 1108 := hf 1108 (by decide)
    have h16 := ph.2.2.1
    have hzb := zb_e (o := X 266 0) (v := j) (by omega) (by omega)
    have hst : ∃ v : Int, v = X 1109 (8 * b + j) + (if X 1041 (8 * b + j) ≠ 0 ∧ X 1042 (8 * b + j) = 0 ∧ zbt (X 266 0) j = true then 256 else 0) ∧ ∃ w : Value, ev_ G 221 561 [.ref (wA Y 13 0), .ref (wA Y 15 605), .ref (wA Y 15 606), .ref (wA Y 15 607), .ref (wA Y 15 608), .ref (wA Y 15 609), .ref (wA Y 15 610), .ref (wA Y 15 611), .ref (wA Y 15 613), .int (zJ 4), .int (zJ q), .int (zJ r), .int (zJ b), .int (zJ c), .int (zJ e), .int (zJ (1)), .int (zJ (i2)), .int (zJ (i3)), .int (zJ K), .int (zJ 1), .int (zJ j), u] [] (wd Y n s X1) = ev_ G 221 561 [.ref (wA Y 13 0), .ref (wA Y 15 605), .ref (wA Y 15 606), .ref (wA Y 15 607), .ref (wA Y 15 608), .ref (wA Y 15 609), .ref (wA Y 15 610), .ref (wA Y 15 611), .ref (wA Y 15 613), .int (zJ 4), .int (zJ q), .int (zJ r), .int (zJ b), .int (zJ c), .int (zJ e), .int (zJ (1)), .int (zJ (i2)), .int (zJ (i3)), .int (zJ K), .int (zJ 1), .int (zJ (j + 1)), w] [] (wd Y n s (wu X1 1109 (8 * b + j) v)) := by
      refine ⟨_, rfl, .int (zJ (X 1041 (8 * b + j) + 4 * X 1042 (8 * b + j))), ?_⟩
      rw [q_L_isBoard_561]
      by_cases k1 : X 1041 (8 * b + j) + 4 * X 1042 (8 * b + j) ≤ 0
      · rw [if_neg (show ¬(X 1041 (8 * b + j) ≠ 0 ∧ X 1042 (8 * b + j) = 0 ∧ zbt (X 266 0) j = true) by omega)]
        simp (disch := first | assumption | omega) only [↓reduceIte, l_0, l_1, l_2, l_3, l_4, l_5, l_6, l_7, l_8, l_9, l_10, l_12, l_16, l_24, l_31, l_32, l_48, l_96, l_99, l_100, l_150, l_180, l_200, l_240, l_255, l_260, l_384, l_400, l_999, l_5000, l_9999, l_1000000, l_1000000000, l_11, l_13, l_14, l_15, l_17, l_18, l_19, l_20, l_21, l_22, l_23, l_25, l_26, l_28, l_30, l_34, l_38, l_42, l_44, l_54, l_60, l_64, l_81, l_90, l_101, l_103, l_110, l_120, l_128, l_140, l_256, l_401, l_403, l_450, l_512, l_853, l_983, l_1000, l_1001, l_2048, l_3000000, l_2000000, l_4096, l_5001, l_5002, l_10000, l_10001, l_32767, l_32768, l_60000, l_2147483647, zJ_lt, zJ_le, zJ_eq, zJ_add, zJ_sub, zJ_mul, zJ_neg, zJ_dv, t_I, t_Ie, t_R, t_Re, t_N, t_Nn, t_V, t_Ve, t_b, t_x, t_w, e_0, e_1, e_2, e_3, ↓t_0, ↓t_1, t_00, t_11, if_true, if_false, ite_not, not_false_eq_true, not_true_eq_false, Int.reduceEq, Int.reduceLT, Int.reduceLE, Int.reduceNeg, Nat.reduceEqDiff, Bool.false_eq_true, zem, e1, ls_ hL, ss_ hL, ej, m4, k1]
      · by_cases k2 : 4 ≤ X 1041 (8 * b + j) + 4 * X 1042 (8 * b + j)
        · rw [if_neg (show ¬(X 1041 (8 * b + j) ≠ 0 ∧ X 1042 (8 * b + j) = 0 ∧ zbt (X 266 0) j = true) by omega)]
          simp (disch := first | assumption | omega) only [↓reduceIte, l_0, l_1, l_2, l_3, l_4, l_5, l_6, l_7, l_8, l_9, l_10, l_12, l_16, l_24, l_31, l_32, l_48, l_96, l_99, l_100, l_150, l_180, l_200, l_240, l_255, l_260, l_384, l_400, l_999, l_5000, l_9999, l_1000000, l_1000000000, l_11, l_13, l_14, l_15, l_17, l_18, l_19, l_20, l_21, l_22, l_23, l_25, l_26, l_28, l_30, l_34, l_38, l_42, l_44, l_54, l_60, l_64, l_81, l_90, l_101, l_103, l_110, l_120, l_128, l_140, l_256, l_401, l_403, l_450, l_512, l_853, l_983, l_1000, l_1001, l_2048, l_3000000, l_2000000, l_4096, l_5001, l_5002, l_10000, l_10001, l_32767, l_32768, l_60000, l_2147483647, zJ_lt, zJ_le, zJ_eq, zJ_add, zJ_sub, zJ_mul, zJ_neg, zJ_dv, t_I, t_Ie, t_R, t_Re, t_N, t_Nn, t_V, t_Ve, t_b, t_x, t_w, e_0, e_1, e_2, e_3, ↓t_0, ↓t_1, t_00, t_11, if_true, if_false, ite_not, not_false_eq_true, not_true_eq_false, Int.reduceEq, Int.reduceLT, Int.reduceLE, Int.reduceNeg, Nat.reduceEqDiff, Bool.false_eq_true, zem, e1, ls_ hL, ss_ hL, ej, m4, k1, k2]
        · by_cases k3 : zbt (X 266 0) j = true
          · rw [if_pos (show X 1041 (8 * b + j) ≠ 0 ∧ X 1042 (8 * b + j) = 0 ∧ zbt (X 266 0) j = true from ⟨by omega, by omega, k3⟩)]
            simp (disch := first | assumption | omega) only [↓reduceIte, l_0, l_1, l_2, l_3, l_4, l_5, l_6, l_7, l_8, l_9, l_10, l_12, l_16, l_24, l_31, l_32, l_48, l_96, l_99, l_100, l_150, l_180, l_200, l_240, l_255, l_260, l_384, l_400, l_999, l_5000, l_9999, l_1000000, l_1000000000, l_11, l_13, l_14, l_15, l_17, l_18, l_19, l_20, l_21, l_22, l_23, l_25, l_26, l_28, l_30, l_34, l_38, l_42, l_44, l_54, l_60, l_64, l_81, l_90, l_101, l_103, l_110, l_120, l_128, l_140, l_256, l_401, l_403, l_450, l_512, l_853, l_983, l_1000, l_1001, l_2048, l_3000000, l_2000000, l_4096, l_5001, l_5002, l_10000, l_10001, l_32767, l_32768, l_60000, l_2147483647, zJ_lt, zJ_le, zJ_eq, zJ_add, zJ_sub, zJ_mul, zJ_neg, zJ_dv, t_I, t_Ie, t_R, t_Re, t_N, t_Nn, t_V, t_Ve, t_b, t_x, t_w, e_0, e_1, e_2, e_3, ↓t_0, ↓t_1, t_00, t_11, if_true, if_false, ite_not, not_false_eq_true, not_true_eq_false, Int.reduceEq, Int.reduceLT, Int.reduceLE, Int.reduceNeg, Nat.reduceEqDiff, Bool.false_eq_true, zem, e1, ls_ hL, ss_ hL, lh_ hL, f8, h16, ej, m4, k1, k2, zb2_e, hzb, k3]
          · rw [if_neg (show ¬(X 1041 (8 * b + j) ≠ 0 ∧ X 1042 (8 * b + j) = 0 ∧ zbt (X 266 0) j = true) from fun g => k3 g.2.2)]
            simp (disch := first | assumption | omega) only [↓reduceIte, l_0, l_1, l_2, l_3, l_4, l_5, l_6, l_7, l_8, l_9, l_10, l_12, l_16, l_24, l_31, l_32, l_48, l_96, l_99, l_100, l_150, l_180, l_200, l_240, l_255, l_260, l_384, l_400, l_999, l_5000, l_9999, l_1000000, l_1000000000, l_11, l_13, l_14, l_15, l_17, l_18, l_19, l_20, l_21, l_22, l_23, l_25, l_26, l_28, l_30, l_34, l_38, l_42, l_44, l_54, l_60, l_64, l_81, l_90, l_101, l_103, l_110, l_120, l_128, l_140, l_256, l_401, l_403, l_450, l_512, l_853, l_983, l_1000, l_1001, l_2048, l_3000000, l_2000000, l_4096, l_5001, l_5002, l_10000, l_10001, l_32767, l_32768, l_60000, l_2147483647, zJ_lt, zJ_le, zJ_eq, zJ_add, zJ_sub, zJ_mul, zJ_neg, zJ_dv, t_I, t_Ie, t_R, t_Re, t_N, t_Nn, t_V, t_Ve, t_b, t_x, t_w, e_0, e_1, e_2, e_3, ↓t_0, ↓t_1, t_00, t_11, if_true, if_false, ite_not, not_false_eq_true, not_true_eq_false, Int.reduceEq, Int.reduceLT, Int.reduceLE, Int.reduceNeg, Nat.reduceEqDiff, Bool.false_eq_true, zem, e1, ls_ hL, ss_ hL, lh_ hL, f8, h16, ej, m4, k1, k2, zb2_e, hzb, k3]
    obtain ⟨v, hv, w, hst⟩ := hst
    obtain ⟨w2, e2⟩ := ih (j + 1) (wu X1 1109 (8 * b + j) v) w (fun f g => by
      funext i
      rw [wu_ne g, hf f g]) (fun i hi => by rw [wu_ni (by omega)]; exact hj i (by omega)) (by omega) (by omega)
    exact ⟨w2, by rw [hst, e2, ztst_s (by omega) ej hv]⟩
theorem B_test (hZ : zLA G t Y n X) (hb : 0 ≤ b ∧ b ≤ X 434 0) (hc : 0 ≤ c ∧ c ≤ 8) (he : 0 ≤ e ∧ e ≤ X 425 0) : zgL G t Y n s (ev_ G 221 166 [.ref (wA Y 13 0), .ref (wA Y 15 605), .ref (wA Y 15 606), .ref (wA Y 15 607), .ref (wA Y 15 608), .ref (wA Y 15 609), .ref (wA Y 15 610), .ref (wA Y 15 611), .ref (wA Y 15 613), .int (zJ 4), .int (zJ q), .int (zJ r), .int (zJ b), .int (zJ c), .int (zJ e), .int (zJ (zB (b < X 434 0))), .int (zJ (zB (b < X 434 0 ∧ c < 8))), .int (zJ (zB ((b < X 434 0 ∧ c < 8) ∧ e < X 425 0))), zU, zU, zU, zU] [.int (zJ (if b < X 434 0 ∧ c < 8 then 8 * b + c else 0))] (wd Y n s X)) := by
  have hZ' := hZ
  obtain ⟨hY, hG, hI, hK⟩ := hZ
  obtain ⟨pg, pb, pc, pw, pr, ph, ps, pf⟩ := id hK
  have hL := wY_A hY
  have hn4 := pg.2.2.2.2.2.2.2
  have h12 := hI.2.2.2.2.2.2.2.2.2.2.2
  have h8 := hI.2.2.2.2.2.2.2.1
  have hR : 0 ≤ X 425 0 ∧ X 425 0 ≤ 12 := by
    have := h8.1
    have := hY.2.2.2.2.1
    omega
  have hcv := hI.2.2.2.2.2.2.2.2.2.1
  generalize (if b < X 434 0 ∧ c < 8 then 8 * b + c else 0) = K
  generalize zB (b < X 434 0 ∧ c < 8) = i2
  generalize zB ((b < X 434 0 ∧ c < 8) ∧ e < X 425 0) = i3
  by_cases kA : b < X 434 0
  · have kA1 : 0 ≤ b ∧ b < X 434 0 := by omega
    obtain ⟨u1, u2, u3, u4, u5, u6, u7, u8, u9, u10, u11⟩ := B_q hZ' kA1
    rw [zB_1 kA, q_L_isBoard_166]
    by_cases kB : X 1035 b ≠ 0 ∧ X 1037 b = 0
    · have m1 := u3.mpr kB.1
      have m2 : ¬4 ≤ X 1111 b := fun g => u4.mp g kB.2
      simp (disch := first | assumption | omega) only [↓reduceIte, l_0, l_1, l_2, l_3, l_4, l_5, l_6, l_7, l_8, l_9, l_10, l_12, l_16, l_24, l_31, l_32, l_48, l_96, l_99, l_100, l_150, l_180, l_200, l_240, l_255, l_260, l_384, l_400, l_999, l_5000, l_9999, l_1000000, l_1000000000, l_11, l_13, l_14, l_15, l_17, l_18, l_19, l_20, l_21, l_22, l_23, l_25, l_26, l_28, l_30, l_34, l_38, l_42, l_44, l_54, l_60, l_64, l_81, l_90, l_101, l_103, l_110, l_120, l_128, l_140, l_256, l_401, l_403, l_450, l_512, l_853, l_983, l_1000, l_1001, l_2048, l_3000000, l_2000000, l_4096, l_5001, l_5002, l_10000, l_10001, l_32767, l_32768, l_60000, l_2147483647, zJ_lt, zJ_le, zJ_eq, zJ_add, zJ_sub, zJ_mul, zJ_neg, zJ_dv, t_I, t_Ie, t_R, t_Re, t_N, t_Nn, t_V, t_Ve, t_b, t_x, t_w, e_0, e_1, e_2, e_3, ↓t_0, ↓t_1, t_00, t_11, if_true, if_false, ite_not, not_false_eq_true, not_true_eq_false, Int.reduceEq, Int.reduceLT, Int.reduceLE, Int.reduceNeg, Nat.reduceEqDiff, Bool.false_eq_true, zem, lq_ hL, m1, m2]
      obtain ⟨w, e0⟩ := B_561 (s := s) (q := q) (r := r) (c := c) (e := e) (K := K) (i2 := i2) (i3 := i3) hZ' kA1 8 0 X zU (fun _ _ => rfl) (fun _ _ => rfl) (by decide) (by decide)
      rw [e0, q_L_isBoard_657]
      generalize hXs : ztst X X b (8 * b + 0) = Xs
      have hs9 : ∀ j, Xs 1109 j = if 8 * b ≤ j ∧ j < 8 * b + 8 ∧ (X 1041 j ≠ 0 ∧ X 1042 j = 0 ∧ zbt (X 266 0) (j - 8 * b) = true) then X 1109 j + 256 else X 1109 j := fun j => by
        rw [← hXs]
        show (if (1109 : Int) = 1109 ∧ 8 * b + 0 ≤ j ∧ j < 8 * b + 8 ∧ (X 1041 j ≠ 0 ∧ X 1042 j = 0 ∧ zbt (X 266 0) (j - 8 * b) = true) then _ else X 1109 j) = _
        by_cases g : 8 * b ≤ j ∧ j < 8 * b + 8 ∧ (X 1041 j ≠ 0 ∧ X 1042 j = 0 ∧ zbt (X 266 0) (j - 8 * b) = true)
        · rw [if_pos ⟨rfl, by omega, g.2⟩, if_pos g]
        · rw [if_neg (fun h => g ⟨by omega, h.2.2⟩), if_neg g]
      have hsn : ∀ f, f ≠ 1109 → Xs f = X f := fun f hf => by
        rw [← hXs]
        funext j
        exact if_neg (fun g => hf g.1)
      simp (disch := first | assumption | omega) only [↓reduceIte, l_0, l_1, l_2, l_3, l_4, l_5, l_6, l_7, l_8, l_9, l_10, l_12, l_16, l_24, l_31, l_32, l_48, l_96, l_99, l_100, l_150, l_180, l_200, l_240, l_255, l_260, l_384, l_400, l_999, l_5000, l_9999, l_1000000, l_1000000000, l_11, l_13, l_14, l_15, l_17, l_18, l_19, l_20, l_21, l_22, l_23, l_25, l_26, l_28, l_30, l_34, l_38, l_42, l_44, l_54, l_60, l_64, l_81, l_90, l_101, l_103, l_110, l_120, l_128, l_140, l_256, l_401, l_403, l_450, l_512, l_853, l_983, l_1000, l_1001, l_2048, l_3000000, l_2000000, l_4096, l_5001, l_5002, l_10000, l_10001, l_32767, l_32768, l_60000, l_2147483647, zJ_lt, zJ_le, zJ_eq, zJ_add, zJ_sub, zJ_mul, zJ_neg, zJ_dv, t_I, t_Ie, t_R, t_Re, t_N, t_Nn, t_V, t_Ve, t_b, t_x, t_w, e_0, e_1, e_2, e_3, ↓t_0, ↓t_1, t_00, t_11, if_true, if_false, ite_not, not_false_eq_true, not_true_eq_false, Int.reduceEq, Int.reduceLT, Int.reduceLE, Int.reduceNeg, Nat.reduceEqDiff, Bool.false_eq_true, sq_ hL]
      generalize hX' : wu Xs 1111 b 3 = X'
      have sX : zsame [1109, 1111] X X' := by
        rw [← hX']
        exact same_u (by decide) (fun f hf => hsn f (fun g => hf (by simp [g])))
      have gl : ∀ f, f < 1100 → X' f = X f := fun f hf => sX f (by simp; omega)
      have hI' := iAll_l gl hY.2.2.2.1.2 hY.2.2.2.2.2.1.2 hI
      refine zgL_d hG (by exact d_test hY hG hI' (by omega)) (fun Y2 n2 m2 X2 code ans v hD h0 hE hl hY2 hG2 hI2 hle => ?_)
      unfold dTest at hD
      rw [gl 434 (by decide), gl 1035 (by decide), gl 1036 (by decide), gl 1037 (by decide), gl 1042 (by decide), gl 1033 (by decide), gl 1041 (by decide)] at hD
      obtain ⟨ev, e1, e2, e3, e4, e7⟩ := (zd2_v hD h0 hE).2.2 kA1 kB
      have s2 := same_t (same_m (F := [1109, 1111, 224, 41, 1042, 1036, 444]) sX (by decide)) (same_m e7 (by decide))
      have g09 : ∀ j, X2 1109 j = Xs 1109 j := fun j => by
        rw [hl 1109 (by decide), ← hX', wu_ne (by decide)]
      have g11 : ∀ j, X2 1111 j = if j = b then 3 else X 1111 j := fun j => by
        rw [hl 1111 (by decide), ← hX', wu_v, hsn 1111 (by decide)]
      refine ⟨⟨pG_c pg (same_g s2 (by decide)), pB_c pb (same_g s2 (by decide)), pC_c pc (same_g s2 (by decide)), pW_c pw (same_g s2 (by decide)), pR_c pr (same_g s2 (by decide)), pH_c ph (same_g s2 (by decide)), ?_, pF_c pf (same_g s2 (by decide))⟩, fun hK2 => ?_⟩
      · refine ⟨fun k k0 k1 => ?_, fun b' b0 b1 => ?_⟩
        · rw [g09, hs9, s2 1038 (by decide), s2 1041 (by decide), s2 1043 (by decide), s2 1040 (by decide), s2 1110 (by decide), s2 1039 (by decide)]
          have a := ps.1 k k0 k1
          by_cases hk : 8 * b ≤ k ∧ k < 8 * b + 8
          · have hr := pS_r hZ' (k := k) (by omega)
            have hv5 := (B_s hZ' kA1 hk).2.2.2.2
            have hbt := (hcv.2 (k - 8 * b) (by omega) (by omega))
            rw [e3 k hk.1 hk.2]
            by_cases h42 : X 1042 k = 0
            · by_cases h41 : X 1041 k = 0
              · rw [if_neg (fun g => g.2.2.1 h41), if_neg (by omega)]
                exact ⟨by omega, a.2⟩
              · by_cases hz : zbt (X 266 0) (k - 8 * b) = true
                · have := hbt.2.mp hz
                  rw [if_pos ⟨hk.1, hk.2, h41, h42, hz⟩, if_pos (by omega)]
                  exact ⟨by omega, a.2⟩
                · have : ¬X 1033 (k - 8 * b) = 1 := fun g => hz (hbt.2.mpr g)
                  rw [if_neg (fun g => hz g.2.2.2.2), if_neg (by omega)]
                  exact ⟨by omega, a.2⟩
            · rw [if_neg (fun g => h42 g.2.2.2.1), if_pos (.inl h42)]
              exact ⟨by omega, a.2⟩
          · rw [if_neg (fun g => hk ⟨g.1, g.2.1⟩), e4 k hk]
            exact a
        · rw [g11, e2, s2 1035 (by decide), s2 1037 (by decide)]
          obtain ⟨a1, a2, a3, a4⟩ := ps.2 b' b0 b1
          by_cases hk : b' = b
          · rw [if_pos hk, if_pos hk, hk]
            exact ⟨by omega, fun g => absurd g kB.1, fun g => absurd g (by decide), fun g => absurd kB.2 g⟩
          · rw [if_neg hk, if_neg hk]
            refine ⟨a1, a2, a3, fun g k k0 k1 => ?_⟩
            rw [e4 k (by omega)]
            exact a4 g k k0 k1
      · have hZ2 : zLA G (t + 1) Y2 n2 X2 := ⟨hY2, hG2, hI2, hK2⟩
        have hw := L_faults (s := m2) (p := b) (q := 1) hZ2 (by omega) (by decide)
        rw [wA_l hle hL (j := 609) (by decide) (by decide)]
        simp (disch := first | assumption | omega) only [↓reduceIte, l_0, l_1, l_2, l_3, l_4, l_5, l_6, l_7, l_8, l_9, l_10, l_12, l_16, l_24, l_31, l_32, l_48, l_96, l_99, l_100, l_150, l_180, l_200, l_240, l_255, l_260, l_384, l_400, l_999, l_5000, l_9999, l_1000000, l_1000000000, l_11, l_13, l_14, l_15, l_17, l_18, l_19, l_20, l_21, l_22, l_23, l_25, l_26, l_28, l_30, l_34, l_38, l_42, l_44, l_54, l_60, l_64, l_81, l_90, l_101, l_103, l_110, l_120, l_128, l_140, l_256, l_401, l_403, l_450, l_512, l_853, l_983, l_1000, l_1001, l_2048, l_3000000, l_2000000, l_4096, l_5001, l_5002, l_10000, l_10001, l_32767, l_32768, l_60000, l_2147483647, zJ_lt, zJ_le, zJ_eq, zJ_add, zJ_sub, zJ_mul, zJ_neg, zJ_dv, t_I, t_Ie, t_R, t_Re, t_N, t_Nn, t_V, t_Ve, t_b, t_x, t_w, e_0, e_1, e_2, e_3, ↓t_0, ↓t_1, t_00, t_11, if_true, if_false, ite_not, not_false_eq_true, not_true_eq_false, Int.reduceEq, Int.reduceLT, Int.reduceLE, Int.reduceNeg, Nat.reduceEqDiff, Bool.false_eq_true, ev, e1, hw]
    · have hst : ev_ G 221 166 [.ref (wA Y 13 0), .ref (wA Y 15 605), .ref (wA Y 15 606), .ref (wA Y 15 607), .ref (wA Y 15 608), .ref (wA Y 15 609), .ref (wA Y 15 610), .ref (wA Y 15 611), .ref (wA Y 15 613), .int (zJ 4), .int (zJ q), .int (zJ r), .int (zJ b), .int (zJ c), .int (zJ e), .int (zJ (1)), .int (zJ (i2)), .int (zJ (i3)), zU, zU, zU, zU] [.int (zJ K)] (wd Y n s X) = ev_ G 221 561 [.ref (wA Y 13 0), .ref (wA Y 15 605), .ref (wA Y 15 606), .ref (wA Y 15 607), .ref (wA Y 15 608), .ref (wA Y 15 609), .ref (wA Y 15 610), .ref (wA Y 15 611), .ref (wA Y 15 613), .int (zJ 4), .int (zJ q), .int (zJ r), .int (zJ b), .int (zJ c), .int (zJ e), .int (zJ (1)), .int (zJ (i2)), .int (zJ (i3)), .int (zJ K), .int (zJ 0), .int (zJ 0), zU] [] (wd Y n s X) := by
        rw [q_L_isBoard_166]
        by_cases k1 : X 1111 b % 2 = 1
        · have k2 : 4 ≤ X 1111 b := u4.mpr (fun g => kB ⟨u3.mp k1, g⟩)
          simp (disch := first | assumption | omega) only [↓reduceIte, l_0, l_1, l_2, l_3, l_4, l_5, l_6, l_7, l_8, l_9, l_10, l_12, l_16, l_24, l_31, l_32, l_48, l_96, l_99, l_100, l_150, l_180, l_200, l_240, l_255, l_260, l_384, l_400, l_999, l_5000, l_9999, l_1000000, l_1000000000, l_11, l_13, l_14, l_15, l_17, l_18, l_19, l_20, l_21, l_22, l_23, l_25, l_26, l_28, l_30, l_34, l_38, l_42, l_44, l_54, l_60, l_64, l_81, l_90, l_101, l_103, l_110, l_120, l_128, l_140, l_256, l_401, l_403, l_450, l_512, l_853, l_983, l_1000, l_1001, l_2048, l_3000000, l_2000000, l_4096, l_5001, l_5002, l_10000, l_10001, l_32767, l_32768, l_60000, l_2147483647, zJ_lt, zJ_le, zJ_eq, zJ_add, zJ_sub, zJ_mul, zJ_neg, zJ_dv, t_I, t_Ie, t_R, t_Re, t_N, t_Nn, t_V, t_Ve, t_b, t_x, t_w, e_0, e_1, e_2, e_3, ↓t_0, ↓t_1, t_00, t_11, if_true, if_false, ite_not, not_false_eq_true, not_true_eq_false, Int.reduceEq, Int.reduceLT, Int.reduceLE, Int.reduceNeg, Nat.reduceEqDiff, Bool.false_eq_true, zem, lq_ hL, k1, k2]
        · simp (disch := first | assumption | omega) only [↓reduceIte, l_0, l_1, l_2, l_3, l_4, l_5, l_6, l_7, l_8, l_9, l_10, l_12, l_16, l_24, l_31, l_32, l_48, l_96, l_99, l_100, l_150, l_180, l_200, l_240, l_255, l_260, l_384, l_400, l_999, l_5000, l_9999, l_1000000, l_1000000000, l_11, l_13, l_14, l_15, l_17, l_18, l_19, l_20, l_21, l_22, l_23, l_25, l_26, l_28, l_30, l_34, l_38, l_42, l_44, l_54, l_60, l_64, l_81, l_90, l_101, l_103, l_110, l_120, l_128, l_140, l_256, l_401, l_403, l_450, l_512, l_853, l_983, l_1000, l_1001, l_2048, l_3000000, l_2000000, l_4096, l_5001, l_5002, l_10000, l_10001, l_32767, l_32768, l_60000, l_2147483647, zJ_lt, zJ_le, zJ_eq, zJ_add, zJ_sub, zJ_mul, zJ_neg, zJ_dv, t_I, t_Ie, t_R, t_Re, t_N, t_Nn, t_V, t_Ve, t_b, t_x, t_w, e_0, e_1, e_2, e_3, ↓t_0, ↓t_1, t_00, t_11, if_true, if_false, ite_not, not_false_eq_true, not_true_eq_false, Int.reduceEq, Int.reduceLT, Int.reduceLE, Int.reduceNeg, Nat.reduceEqDiff, Bool.false_eq_true, zem, lq_ hL, k1]
      rw [← q_L_isBoard_166, hst, q_L_isBoard_561]
      simp (disch := first | assumption | omega) only [↓reduceIte, l_0, l_1, l_2, l_3, l_4, l_5, l_6, l_7, l_8, l_9, l_10, l_12, l_16, l_24, l_31, l_32, l_48, l_96, l_99, l_100, l_150, l_180, l_200, l_240, l_255, l_260, l_384, l_400, l_999, l_5000, l_9999, l_1000000, l_1000000000, l_11, l_13, l_14, l_15, l_17, l_18, l_19, l_20, l_21, l_22, l_23, l_25, l_26, l_28, l_30, l_34, l_38, l_42, l_44, l_54, l_60, l_64, l_81, l_90, l_101, l_103, l_110, l_120, l_128, l_140, l_256, l_401, l_403, l_450, l_512, l_853, l_983, l_1000, l_1001, l_2048, l_3000000, l_2000000, l_4096, l_5001, l_5002, l_10000, l_10001, l_32767, l_32768, l_60000, l_2147483647, zJ_lt, zJ_le, zJ_eq, zJ_add, zJ_sub, zJ_mul, zJ_neg, zJ_dv, t_I, t_Ie, t_R, t_Re, t_N, t_Nn, t_V, t_Ve, t_b, t_x, t_w, e_0, e_1, e_2, e_3, ↓t_0, ↓t_1, t_00, t_11, if_true, if_false, ite_not, not_false_eq_true, not_true_eq_false, Int.reduceEq, Int.reduceLT, Int.reduceLE, Int.reduceNeg, Nat.reduceEqDiff, Bool.false_eq_true]
      rw [q_L_isBoard_657]
      simp (disch := first | assumption | omega) only [↓reduceIte, l_0, l_1, l_2, l_3, l_4, l_5, l_6, l_7, l_8, l_9, l_10, l_12, l_16, l_24, l_31, l_32, l_48, l_96, l_99, l_100, l_150, l_180, l_200, l_240, l_255, l_260, l_384, l_400, l_999, l_5000, l_9999, l_1000000, l_1000000000, l_11, l_13, l_14, l_15, l_17, l_18, l_19, l_20, l_21, l_22, l_23, l_25, l_26, l_28, l_30, l_34, l_38, l_42, l_44, l_54, l_60, l_64, l_81, l_90, l_101, l_103, l_110, l_120, l_128, l_140, l_256, l_401, l_403, l_450, l_512, l_853, l_983, l_1000, l_1001, l_2048, l_3000000, l_2000000, l_4096, l_5001, l_5002, l_10000, l_10001, l_32767, l_32768, l_60000, l_2147483647, zJ_lt, zJ_le, zJ_eq, zJ_add, zJ_sub, zJ_mul, zJ_neg, zJ_dv, t_I, t_Ie, t_R, t_Re, t_N, t_Nn, t_V, t_Ve, t_b, t_x, t_w, e_0, e_1, e_2, e_3, ↓t_0, ↓t_1, t_00, t_11, if_true, if_false, ite_not, not_false_eq_true, not_true_eq_false, Int.reduceEq, Int.reduceLT, Int.reduceLE, Int.reduceNeg, Nat.reduceEqDiff, Bool.false_eq_true, sq_ hL]
      generalize hX' : wu X 1111 4 3 = X'
      have sX : zsame [1111] X X' := by
        rw [← hX']
        exact same_u (by decide) same_r
      have gl : ∀ f, f < 1100 → X' f = X f := fun f hf => sX f (by simp; omega)
      have hI' := iAll_l gl hY.2.2.2.1.2 hY.2.2.2.2.2.1.2 hI
      refine zgL_d hG (by exact d_test hY hG hI' (by omega)) (fun Y2 n2 m2 X2 code ans v hD h0 hE hl hY2 hG2 hI2 hle => ?_)
      unfold dTest at hD
      rw [gl 434 (by decide), gl 1035 (by decide), gl 1037 (by decide)] at hD
      obtain ⟨ev, e1⟩ := (zd2_v hD h0 hE).2.1 kA1 kB
      refine ⟨pK_q hK hX' e1, fun _ => ?_⟩
      simp (disch := first | assumption | omega) only [↓reduceIte, l_0, l_1, l_2, l_3, l_4, l_5, l_6, l_7, l_8, l_9, l_10, l_12, l_16, l_24, l_31, l_32, l_48, l_96, l_99, l_100, l_150, l_180, l_200, l_240, l_255, l_260, l_384, l_400, l_999, l_5000, l_9999, l_1000000, l_1000000000, l_11, l_13, l_14, l_15, l_17, l_18, l_19, l_20, l_21, l_22, l_23, l_25, l_26, l_28, l_30, l_34, l_38, l_42, l_44, l_54, l_60, l_64, l_81, l_90, l_101, l_103, l_110, l_120, l_128, l_140, l_256, l_401, l_403, l_450, l_512, l_853, l_983, l_1000, l_1001, l_2048, l_3000000, l_2000000, l_4096, l_5001, l_5002, l_10000, l_10001, l_32767, l_32768, l_60000, l_2147483647, zJ_lt, zJ_le, zJ_eq, zJ_add, zJ_sub, zJ_mul, zJ_neg, zJ_dv, t_I, t_Ie, t_R, t_Re, t_N, t_Nn, t_V, t_Ve, t_b, t_x, t_w, e_0, e_1, e_2, e_3, ↓t_0, ↓t_1, t_00, t_11, if_true, if_false, ite_not, not_false_eq_true, not_true_eq_false, Int.reduceEq, Int.reduceLT, Int.reduceLE, Int.reduceNeg, Nat.reduceEqDiff, Bool.false_eq_true, ev, zrv_2]
  · rw [zB_0 kA, q_L_isBoard_166]
    simp (disch := first | assumption | omega) only [↓reduceIte, l_0, l_1, l_2, l_3, l_4, l_5, l_6, l_7, l_8, l_9, l_10, l_12, l_16, l_24, l_31, l_32, l_48, l_96, l_99, l_100, l_150, l_180, l_200, l_240, l_255, l_260, l_384, l_400, l_999, l_5000, l_9999, l_1000000, l_1000000000, l_11, l_13, l_14, l_15, l_17, l_18, l_19, l_20, l_21, l_22, l_23, l_25, l_26, l_28, l_30, l_34, l_38, l_42, l_44, l_54, l_60, l_64, l_81, l_90, l_101, l_103, l_110, l_120, l_128, l_140, l_256, l_401, l_403, l_450, l_512, l_853, l_983, l_1000, l_1001, l_2048, l_3000000, l_2000000, l_4096, l_5001, l_5002, l_10000, l_10001, l_32767, l_32768, l_60000, l_2147483647, zJ_lt, zJ_le, zJ_eq, zJ_add, zJ_sub, zJ_mul, zJ_neg, zJ_dv, t_I, t_Ie, t_R, t_Re, t_N, t_Nn, t_V, t_Ve, t_b, t_x, t_w, e_0, e_1, e_2, e_3, ↓t_0, ↓t_1, t_00, t_11, if_true, if_false, ite_not, not_false_eq_true, not_true_eq_false, Int.reduceEq, Int.reduceLT, Int.reduceLE, Int.reduceNeg, Nat.reduceEqDiff, Bool.false_eq_true]
    rw [q_L_isBoard_561]
    simp (disch := first | assumption | omega) only [↓reduceIte, l_0, l_1, l_2, l_3, l_4, l_5, l_6, l_7, l_8, l_9, l_10, l_12, l_16, l_24, l_31, l_32, l_48, l_96, l_99, l_100, l_150, l_180, l_200, l_240, l_255, l_260, l_384, l_400, l_999, l_5000, l_9999, l_1000000, l_1000000000, l_11, l_13, l_14, l_15, l_17, l_18, l_19, l_20, l_21, l_22, l_23, l_25, l_26, l_28, l_30, l_34, l_38, l_42, l_44, l_54, l_60, l_64, l_81, l_90, l_101, l_103, l_110, l_120, l_128, l_140, l_256, l_401, l_403, l_450, l_512, l_853, l_983, l_1000, l_1001, l_2048, l_3000000, l_2000000, l_4096, l_5001, l_5002, l_10000, l_10001, l_32767, l_32768, l_60000, l_2147483647, zJ_lt, zJ_le, zJ_eq, zJ_add, zJ_sub, zJ_mul, zJ_neg, zJ_dv, t_I, t_Ie, t_R, t_Re, t_N, t_Nn, t_V, t_Ve, t_b, t_x, t_w, e_0, e_1, e_2, e_3, ↓t_0, ↓t_1, t_00, t_11, if_true, if_false, ite_not, not_false_eq_true, not_true_eq_false, Int.reduceEq, Int.reduceLT, Int.reduceLE, Int.reduceNeg, Nat.reduceEqDiff, Bool.false_eq_true]
    rw [q_L_isBoard_657]
    simp (disch := first | assumption | omega) only [↓reduceIte, l_0, l_1, l_2, l_3, l_4, l_5, l_6, l_7, l_8, l_9, l_10, l_12, l_16, l_24, l_31, l_32, l_48, l_96, l_99, l_100, l_150, l_180, l_200, l_240, l_255, l_260, l_384, l_400, l_999, l_5000, l_9999, l_1000000, l_1000000000, l_11, l_13, l_14, l_15, l_17, l_18, l_19, l_20, l_21, l_22, l_23, l_25, l_26, l_28, l_30, l_34, l_38, l_42, l_44, l_54, l_60, l_64, l_81, l_90, l_101, l_103, l_110, l_120, l_128, l_140, l_256, l_401, l_403, l_450, l_512, l_853, l_983, l_1000, l_1001, l_2048, l_3000000, l_2000000, l_4096, l_5001, l_5002, l_10000, l_10001, l_32767, l_32768, l_60000, l_2147483647, zJ_lt, zJ_le, zJ_eq, zJ_add, zJ_sub, zJ_mul, zJ_neg, zJ_dv, t_I, t_Ie, t_R, t_Re, t_N, t_Nn, t_V, t_Ve, t_b, t_x, t_w, e_0, e_1, e_2, e_3, ↓t_0, ↓t_1, t_00, t_11, if_true, if_false, ite_not, not_false_eq_true, not_true_eq_false, Int.reduceEq, Int.reduceLT, Int.reduceLE, Int.reduceNeg, Nat.reduceEqDiff, Bool.false_eq_true, sq_ hL]
    generalize hX' : wu X 1111 4 3 = X'
    have sX : zsame [1111] X X' := by
      rw [← hX']
      exact same_u (by decide) same_r
    have gl : ∀ f, f < 1100 → X' f = X f := fun f hf => sX f (by simp; omega)
    have hI' := iAll_l gl hY.2.2.2.1.2 hY.2.2.2.2.2.1.2 hI
    refine zgL_d hG (by exact d_test hY hG hI' (by omega)) (fun Y2 n2 m2 X2 code ans v hD h0 hE hl hY2 hG2 hI2 hle => ?_)
    unfold dTest at hD
    rw [gl 434 (by decide)] at hD
    obtain ⟨ev, e1⟩ := (zd2_v hD h0 hE).1 (by omega)
    refine ⟨pK_q hK hX' e1, fun _ => ?_⟩
    simp (disch := first | assumption | omega) only [↓reduceIte, l_0, l_1, l_2, l_3, l_4, l_5, l_6, l_7, l_8, l_9, l_10, l_12, l_16, l_24, l_31, l_32, l_48, l_96, l_99, l_100, l_150, l_180, l_200, l_240, l_255, l_260, l_384, l_400, l_999, l_5000, l_9999, l_1000000, l_1000000000, l_11, l_13, l_14, l_15, l_17, l_18, l_19, l_20, l_21, l_22, l_23, l_25, l_26, l_28, l_30, l_34, l_38, l_42, l_44, l_54, l_60, l_64, l_81, l_90, l_101, l_103, l_110, l_120, l_128, l_140, l_256, l_401, l_403, l_450, l_512, l_853, l_983, l_1000, l_1001, l_2048, l_3000000, l_2000000, l_4096, l_5001, l_5002, l_10000, l_10001, l_32767, l_32768, l_60000, l_2147483647, zJ_lt, zJ_le, zJ_eq, zJ_add, zJ_sub, zJ_mul, zJ_neg, zJ_dv, t_I, t_Ie, t_R, t_Re, t_N, t_Nn, t_V, t_Ve, t_b, t_x, t_w, e_0, e_1, e_2, e_3, ↓t_0, ↓t_1, t_00, t_11, if_true, if_false, ite_not, not_false_eq_true, not_true_eq_false, Int.reduceEq, Int.reduceLT, Int.reduceLE, Int.reduceNeg, Nat.reduceEqDiff, Bool.false_eq_true, ev, zrv_0]
theorem B_repair (hZ : zLA G t Y n X) (hb : 0 ≤ b ∧ b ≤ X 434 0) (hc : 0 ≤ c ∧ c ≤ 8) (he : 0 ≤ e ∧ e ≤ X 425 0) : zgL G t Y n s (ev_ G 221 166 [.ref (wA Y 13 0), .ref (wA Y 15 605), .ref (wA Y 15 606), .ref (wA Y 15 607), .ref (wA Y 15 608), .ref (wA Y 15 609), .ref (wA Y 15 610), .ref (wA Y 15 611), .ref (wA Y 15 613), .int (zJ 5), .int (zJ q), .int (zJ r), .int (zJ b), .int (zJ c), .int (zJ e), .int (zJ (zB (b < X 434 0))), .int (zJ (zB (b < X 434 0 ∧ c < 8))), .int (zJ (zB ((b < X 434 0 ∧ c < 8) ∧ e < X 425 0))), zU, zU, zU, zU] [.int (zJ (if b < X 434 0 ∧ c < 8 then 8 * b + c else 0))] (wd Y n s X)) := by
  have hZ' := hZ
  obtain ⟨hY, hG, hI, hK⟩ := hZ
  obtain ⟨pg, pb, pc, pw, pr, ph, ps, pf⟩ := id hK
  have hL := wY_A hY
  have hn4 := pg.2.2.2.2.2.2.2
  have h12 := hI.2.2.2.2.2.2.2.2.2.2.2
  have h8 := hI.2.2.2.2.2.2.2.1
  have hR : 0 ≤ X 425 0 ∧ X 425 0 ≤ 12 := by
    have := h8.1
    have := hY.2.2.2.2.1
    omega
  by_cases kA : (b < X 434 0 ∧ c < 8) ∧ e < X 425 0
  · have kA1 : 0 ≤ b ∧ b < X 434 0 := by omega
    have kA' : (0 ≤ b ∧ b < X 434 0) ∧ (0 ≤ c ∧ c < 8) ∧ (0 ≤ e ∧ e < X 425 0) := by omega
    obtain ⟨u1, u2, u3, u4, u5, u6, u7, u8, u9, u10, u11⟩ := B_q hZ' kA1
    rw [zB_1 kA, zB_1 kA.1, zB_1 kA.1.1, if_pos kA.1]
    generalize hKK : 8 * b + c = K
    have hK8 : 8 * b ≤ K ∧ K < 8 * b + 8 := by omega
    obtain ⟨v1, v2, v3, v4, v5⟩ := B_s hZ' kA1 hK8
    obtain ⟨p1, p2, p3⟩ := pr e he.1 kA.2
    obtain ⟨r1, r2, r3, r4, r5, r6, r7, r8, r9, r10, r11⟩ := pS_r hZ' (k := K) (by omega)
    have re := h8.2.1 e he.1 (by omega)
    have hg := L_gives (s := s) hZ' ⟨he.1, kA.2⟩
    have m8 : X 1109 K / 256 % 2 = X 1042 K := by omega
    have m9 : X 1109 K / 512 % 2 = X 1043 K := by omega
    have m10 : X 1105 e % 8 = X 1026 e := by omega
    by_cases kB : X 1042 K ≠ 0 ∧ X 1043 K = 0 ∧ X 1026 e = X 1026 (X 1038 K) ∧ (0 < X 1027 e ∧ zclk (X 1029 e + 1) (X 1028 e) (X 1029 e) (X 424 0) ≠ -1)
    · obtain ⟨kB1, kB2, kB3, kB4⟩ := id kB
      rw [zB_1 kB4] at hg
      obtain ⟨w1, w2, w3, w4⟩ := v5 kB1
      have n1 : X 1042 K = 1 := by omega
      have n2 : ¬X 1038 K + 1 = 0 := by omega
      have n3 : X 1038 K + 1 - 1 = X 1038 K := by omega
      obtain ⟨f1, f2, f3⟩ := pr (X 1038 K) w2 v4
      have n4 : X 1105 (X 1038 K) % 8 = X 1026 e := by
        have := h8.2.1 (X 1038 K) w2 (by omega)
        omega
      have rk := h8.2.1 (X 1038 K) w2 (by omega)
      have n5 : (X 1042 K = 1) = True := eq_true n1
      rw [q_L_isBoard_166]
      simp (disch := first | assumption | omega) only [↓reduceIte, l_0, l_1, l_2, l_3, l_4, l_5, l_6, l_7, l_8, l_9, l_10, l_12, l_16, l_24, l_31, l_32, l_48, l_96, l_99, l_100, l_150, l_180, l_200, l_240, l_255, l_260, l_384, l_400, l_999, l_5000, l_9999, l_1000000, l_1000000000, l_11, l_13, l_14, l_15, l_17, l_18, l_19, l_20, l_21, l_22, l_23, l_25, l_26, l_28, l_30, l_34, l_38, l_42, l_44, l_54, l_60, l_64, l_81, l_90, l_101, l_103, l_110, l_120, l_128, l_140, l_256, l_401, l_403, l_450, l_512, l_853, l_983, l_1000, l_1001, l_2048, l_3000000, l_2000000, l_4096, l_5001, l_5002, l_10000, l_10001, l_32767, l_32768, l_60000, l_2147483647, zJ_lt, zJ_le, zJ_eq, zJ_add, zJ_sub, zJ_mul, zJ_neg, zJ_dv, t_I, t_Ie, t_R, t_Re, t_N, t_Nn, t_V, t_Ve, t_b, t_x, t_w, e_0, e_1, e_2, e_3, ↓t_0, ↓t_1, t_00, t_11, if_true, if_false, ite_not, not_false_eq_true, not_true_eq_false, Int.reduceEq, Int.reduceLT, Int.reduceLE, Int.reduceNeg, Nat.reduceEqDiff, Bool.false_eq_true, zem, ls_ hL, le_ hL, m8, n5, m9, kB2, m10, r1, n2, n3]
      rw [q_L_isBoard_781]
      simp (disch := first | assumption | omega) only [↓reduceIte, l_0, l_1, l_2, l_3, l_4, l_5, l_6, l_7, l_8, l_9, l_10, l_12, l_16, l_24, l_31, l_32, l_48, l_96, l_99, l_100, l_150, l_180, l_200, l_240, l_255, l_260, l_384, l_400, l_999, l_5000, l_9999, l_1000000, l_1000000000, l_11, l_13, l_14, l_15, l_17, l_18, l_19, l_20, l_21, l_22, l_23, l_25, l_26, l_28, l_30, l_34, l_38, l_42, l_44, l_54, l_60, l_64, l_81, l_90, l_101, l_103, l_110, l_120, l_128, l_140, l_256, l_401, l_403, l_450, l_512, l_853, l_983, l_1000, l_1001, l_2048, l_3000000, l_2000000, l_4096, l_5001, l_5002, l_10000, l_10001, l_32767, l_32768, l_60000, l_2147483647, zJ_lt, zJ_le, zJ_eq, zJ_add, zJ_sub, zJ_mul, zJ_neg, zJ_dv, t_I, t_Ie, t_R, t_Re, t_N, t_Nn, t_V, t_Ve, t_b, t_x, t_w, e_0, e_1, e_2, e_3, ↓t_0, ↓t_1, t_00, t_11, if_true, if_false, ite_not, not_false_eq_true, not_true_eq_false, Int.reduceEq, Int.reduceLT, Int.reduceLE, Int.reduceNeg, Nat.reduceEqDiff, Bool.false_eq_true, zem, le_ hL, n4, hg]
      rw [q_L_isBoard_806]
      simp (disch := first | assumption | omega) only [↓reduceIte, l_0, l_1, l_2, l_3, l_4, l_5, l_6, l_7, l_8, l_9, l_10, l_12, l_16, l_24, l_31, l_32, l_48, l_96, l_99, l_100, l_150, l_180, l_200, l_240, l_255, l_260, l_384, l_400, l_999, l_5000, l_9999, l_1000000, l_1000000000, l_11, l_13, l_14, l_15, l_17, l_18, l_19, l_20, l_21, l_22, l_23, l_25, l_26, l_28, l_30, l_34, l_38, l_42, l_44, l_54, l_60, l_64, l_81, l_90, l_101, l_103, l_110, l_120, l_128, l_140, l_256, l_401, l_403, l_450, l_512, l_853, l_983, l_1000, l_1001, l_2048, l_3000000, l_2000000, l_4096, l_5001, l_5002, l_10000, l_10001, l_32767, l_32768, l_60000, l_2147483647, zJ_lt, zJ_le, zJ_eq, zJ_add, zJ_sub, zJ_mul, zJ_neg, zJ_dv, t_I, t_Ie, t_R, t_Re, t_N, t_Nn, t_V, t_Ve, t_b, t_x, t_w, e_0, e_1, e_2, e_3, ↓t_0, ↓t_1, t_00, t_11, if_true, if_false, ite_not, not_false_eq_true, not_true_eq_false, Int.reduceEq, Int.reduceLT, Int.reduceLE, Int.reduceNeg, Nat.reduceEqDiff, Bool.false_eq_true, ls_ hL, ss_ hL, lh_ hL, ph.2.2.2, sp_ hL, ln_ hL, sn_ hL, sq_ hL, wu_ne, p2]
      generalize hX' : wu (wu (wu (wu X 1109 K (X 1109 K / 2048 * 2048 + 512 + e + 1)) 1110 K (X 424 0)) 1106 e (X 1027 e - 1)) 1111 b 1 = X'
      have sX : zsame [1106, 1109, 1110, 1111] X X' := by
        rw [← hX']
        exact same_u (by decide) (same_u (by decide) (same_u (by decide) (same_u (by decide) same_r)))
      have gl : ∀ f, f < 1100 → X' f = X f := fun f hf => sX f (by simp; omega)
      have hI' := iAll_l gl hY.2.2.2.1.2 hY.2.2.2.2.2.1.2 hI
      rw [q_L_isBoard_864]
      refine zgL_d hG (by rw [l_0, l_18]; exact d_repair hY hG hI' (by omega) (by omega) (by omega)) (fun Y2 n2 m2 X2 code ans v hD h0 hE hl hY2 hG2 hI2 hle => ?_)
      unfold dRepair at hD
      rw [hKK, gl 434 (by decide), gl 425 (by decide), gl 1042 (by decide), gl 1043 (by decide), gl 1026 (by decide), gl 1038 (by decide), gl 1027 (by decide), gl 1028 (by decide), gl 1029 (by decide), gl 424 (by decide), gl 1039 (by decide), gl 1041 (by decide), gl 1036 (by decide)] at hD
      obtain ⟨ev, e1, e2, e3, e4, e5, e6, e8, e9, e7⟩ := (zd2_v hD h0 hE).2.2 kA' kB
      have s2 := same_t (same_m (F := [1106, 1109, 1110, 1111, 182, 220, 221, 222, 223, 224, 225, 41, 444, 1038, 1039, 1027, 1041, 1042, 1043, 1036]) sX (by decide)) (same_m e7 (by decide))
      have g06 : ∀ j, X2 1106 j = if j = e then X 1027 e - 1 else X 1106 j := fun j => by
        rw [hl 1106 (by decide), ← hX', wu_ne (by decide), wu_v, wu_ne (by decide), wu_ne (by decide)]
      have g09 : ∀ j, X2 1109 j = if j = K then X 1109 K / 2048 * 2048 + 512 + e + 1 else X 1109 j := fun j => by
        rw [hl 1109 (by decide), ← hX', wu_ne (by decide), wu_ne (by decide), wu_ne (by decide), wu_v]
      have g10 : ∀ j, X2 1110 j = if j = K then X 424 0 else X 1110 j := fun j => by
        rw [hl 1110 (by decide), ← hX', wu_ne (by decide), wu_ne (by decide), wu_v, wu_ne (by decide)]
      have g11 : ∀ j, X2 1111 j = if j = b then 1 else X 1111 j := fun j => by
        rw [hl 1111 (by decide), ← hX', wu_v, wu_ne (by decide), wu_ne (by decide), wu_ne (by decide)]
      refine ⟨⟨pG_c pg (same_g s2 (by decide)), pB_c pb (same_g s2 (by decide)), pC_c pc (same_g s2 (by decide)), pW_c pw (same_g s2 (by decide)), ?_, pH_c ph (same_g s2 (by decide)), ?_, pF_c pf (same_g s2 (by decide))⟩, fun hK2 => ?_⟩
      · intro k k0 k1
        rw [s2 425 (by decide)] at k1
        rw [s2 1105 (by decide), s2 1026 (by decide), s2 1028 (by decide), g06, e4, s2 1107 (by decide), s2 1029 (by decide)]
        have := pr k k0 k1
        by_cases hk : k = e
        · simp only [if_pos hk]
          exact ⟨this.1, trivial, this.2.2⟩
        · simp only [if_neg hk]
          exact this
      · refine ⟨fun k k0 k1 => ?_, fun b' b0 b1 => ?_⟩
        · rw [g09, g10, e2, e3, e5, e6, e8, s2 1040 (by decide)]
          have := ps.1 k k0 k1
          by_cases hk : k = K
          · rw [hk]
            simp only [if_true]
            rw [hk] at this
            refine ⟨by omega, trivial, by omega, fun g => by omega⟩
          · simp only [if_neg hk]
            exact this
        · rw [g11, e9, s2 1035 (by decide), s2 1037 (by decide)]
          obtain ⟨a1, a2, a3, a4⟩ := ps.2 b' b0 b1
          by_cases hk : b' = b
          · rw [if_pos hk, if_pos hk, hk]
            exact ⟨by omega, fun g => absurd g w3, fun g => w4, fun g => absurd w4 g⟩
          · rw [if_neg hk, if_neg hk]
            refine ⟨a1, a2, a3, fun g k k0 k1 => ?_⟩
            rw [e6]
            split
            · rfl
            · exact a4 g k k0 k1
      · have hZ2 : zLA G (t + 1) Y2 n2 X2 := ⟨hY2, hG2, hI2, hK2⟩
        have hw := L_faults (s := m2) (p := b) (q := 1) hZ2 (by omega) (by decide)
        rw [wA_l hle hL (j := 609) (by decide) (by decide)]
        simp (disch := first | assumption | omega) only [↓reduceIte, l_0, l_1, l_2, l_3, l_4, l_5, l_6, l_7, l_8, l_9, l_10, l_12, l_16, l_24, l_31, l_32, l_48, l_96, l_99, l_100, l_150, l_180, l_200, l_240, l_255, l_260, l_384, l_400, l_999, l_5000, l_9999, l_1000000, l_1000000000, l_11, l_13, l_14, l_15, l_17, l_18, l_19, l_20, l_21, l_22, l_23, l_25, l_26, l_28, l_30, l_34, l_38, l_42, l_44, l_54, l_60, l_64, l_81, l_90, l_101, l_103, l_110, l_120, l_128, l_140, l_256, l_401, l_403, l_450, l_512, l_853, l_983, l_1000, l_1001, l_2048, l_3000000, l_2000000, l_4096, l_5001, l_5002, l_10000, l_10001, l_32767, l_32768, l_60000, l_2147483647, zJ_lt, zJ_le, zJ_eq, zJ_add, zJ_sub, zJ_mul, zJ_neg, zJ_dv, t_I, t_Ie, t_R, t_Re, t_N, t_Nn, t_V, t_Ve, t_b, t_x, t_w, e_0, e_1, e_2, e_3, ↓t_0, ↓t_1, t_00, t_11, if_true, if_false, ite_not, not_false_eq_true, not_true_eq_false, Int.reduceEq, Int.reduceLT, Int.reduceLE, Int.reduceNeg, Nat.reduceEqDiff, Bool.false_eq_true, ev, e1, hw]
    · have hst : ev_ G 221 166 [.ref (wA Y 13 0), .ref (wA Y 15 605), .ref (wA Y 15 606), .ref (wA Y 15 607), .ref (wA Y 15 608), .ref (wA Y 15 609), .ref (wA Y 15 610), .ref (wA Y 15 611), .ref (wA Y 15 613), .int (zJ 5), .int (zJ q), .int (zJ r), .int (zJ b), .int (zJ c), .int (zJ e), .int (zJ (1)), .int (zJ (1)), .int (zJ (1)), zU, zU, zU, zU] [.int (zJ K)] (wd Y n s X) = ev_ G 221 806 [.ref (wA Y 13 0), .ref (wA Y 15 605), .ref (wA Y 15 606), .ref (wA Y 15 607), .ref (wA Y 15 608), .ref (wA Y 15 609), .ref (wA Y 15 610), .ref (wA Y 15 611), .ref (wA Y 15 613), .int (zJ 5), .int (zJ q), .int (zJ r), .int (zJ b), .int (zJ c), .int (zJ e), .int (zJ (1)), .int (zJ (1)), .int (zJ (1)), .int (zJ K), zU, zU, zU] [.int (zJ 0)] (wd Y n s X) := by
        rw [q_L_isBoard_166]
        by_cases k1 : X 1042 K = 1
        · by_cases k2 : X 1043 K = 0
          · obtain ⟨w1, w2, w3, w4⟩ := v5 (by omega)
            have n2 : ¬X 1038 K + 1 = 0 := by omega
            have n3 : X 1038 K + 1 - 1 = X 1038 K := by omega
            obtain ⟨f1, f2, f3⟩ := pr (X 1038 K) w2 v4
            have rk := h8.2.1 (X 1038 K) w2 (by omega)
            have n4 : X 1105 (X 1038 K) % 8 = X 1026 (X 1038 K) := by omega
            have n5 : (X 1042 K = 1) = True := eq_true k1
            simp (disch := first | assumption | omega) only [↓reduceIte, l_0, l_1, l_2, l_3, l_4, l_5, l_6, l_7, l_8, l_9, l_10, l_12, l_16, l_24, l_31, l_32, l_48, l_96, l_99, l_100, l_150, l_180, l_200, l_240, l_255, l_260, l_384, l_400, l_999, l_5000, l_9999, l_1000000, l_1000000000, l_11, l_13, l_14, l_15, l_17, l_18, l_19, l_20, l_21, l_22, l_23, l_25, l_26, l_28, l_30, l_34, l_38, l_42, l_44, l_54, l_60, l_64, l_81, l_90, l_101, l_103, l_110, l_120, l_128, l_140, l_256, l_401, l_403, l_450, l_512, l_853, l_983, l_1000, l_1001, l_2048, l_3000000, l_2000000, l_4096, l_5001, l_5002, l_10000, l_10001, l_32767, l_32768, l_60000, l_2147483647, zJ_lt, zJ_le, zJ_eq, zJ_add, zJ_sub, zJ_mul, zJ_neg, zJ_dv, t_I, t_Ie, t_R, t_Re, t_N, t_Nn, t_V, t_Ve, t_b, t_x, t_w, e_0, e_1, e_2, e_3, ↓t_0, ↓t_1, t_00, t_11, if_true, if_false, ite_not, not_false_eq_true, not_true_eq_false, Int.reduceEq, Int.reduceLT, Int.reduceLE, Int.reduceNeg, Nat.reduceEqDiff, Bool.false_eq_true, zem, ls_ hL, le_ hL, m8, n5, m9, k2, m10, r1, n2, n3]
            rw [q_L_isBoard_781]
            by_cases k3 : X 1026 e = X 1026 (X 1038 K)
            · rw [zB_0 (fun g => kB ⟨by omega, k2, k3, g⟩)] at hg
              have k3' : (X 1026 e = X 1026 (X 1038 K)) = True := eq_true k3
              simp (disch := first | assumption | omega) only [↓reduceIte, l_0, l_1, l_2, l_3, l_4, l_5, l_6, l_7, l_8, l_9, l_10, l_12, l_16, l_24, l_31, l_32, l_48, l_96, l_99, l_100, l_150, l_180, l_200, l_240, l_255, l_260, l_384, l_400, l_999, l_5000, l_9999, l_1000000, l_1000000000, l_11, l_13, l_14, l_15, l_17, l_18, l_19, l_20, l_21, l_22, l_23, l_25, l_26, l_28, l_30, l_34, l_38, l_42, l_44, l_54, l_60, l_64, l_81, l_90, l_101, l_103, l_110, l_120, l_128, l_140, l_256, l_401, l_403, l_450, l_512, l_853, l_983, l_1000, l_1001, l_2048, l_3000000, l_2000000, l_4096, l_5001, l_5002, l_10000, l_10001, l_32767, l_32768, l_60000, l_2147483647, zJ_lt, zJ_le, zJ_eq, zJ_add, zJ_sub, zJ_mul, zJ_neg, zJ_dv, t_I, t_Ie, t_R, t_Re, t_N, t_Nn, t_V, t_Ve, t_b, t_x, t_w, e_0, e_1, e_2, e_3, ↓t_0, ↓t_1, t_00, t_11, if_true, if_false, ite_not, not_false_eq_true, not_true_eq_false, Int.reduceEq, Int.reduceLT, Int.reduceLE, Int.reduceNeg, Nat.reduceEqDiff, Bool.false_eq_true, zem, le_ hL, n4, hg, k3']
            · simp (disch := first | assumption | omega) only [↓reduceIte, l_0, l_1, l_2, l_3, l_4, l_5, l_6, l_7, l_8, l_9, l_10, l_12, l_16, l_24, l_31, l_32, l_48, l_96, l_99, l_100, l_150, l_180, l_200, l_240, l_255, l_260, l_384, l_400, l_999, l_5000, l_9999, l_1000000, l_1000000000, l_11, l_13, l_14, l_15, l_17, l_18, l_19, l_20, l_21, l_22, l_23, l_25, l_26, l_28, l_30, l_34, l_38, l_42, l_44, l_54, l_60, l_64, l_81, l_90, l_101, l_103, l_110, l_120, l_128, l_140, l_256, l_401, l_403, l_450, l_512, l_853, l_983, l_1000, l_1001, l_2048, l_3000000, l_2000000, l_4096, l_5001, l_5002, l_10000, l_10001, l_32767, l_32768, l_60000, l_2147483647, zJ_lt, zJ_le, zJ_eq, zJ_add, zJ_sub, zJ_mul, zJ_neg, zJ_dv, t_I, t_Ie, t_R, t_Re, t_N, t_Nn, t_V, t_Ve, t_b, t_x, t_w, e_0, e_1, e_2, e_3, ↓t_0, ↓t_1, t_00, t_11, if_true, if_false, ite_not, not_false_eq_true, not_true_eq_false, Int.reduceEq, Int.reduceLT, Int.reduceLE, Int.reduceNeg, Nat.reduceEqDiff, Bool.false_eq_true, zem, le_ hL, n4, k3]
          · simp (disch := first | assumption | omega) only [↓reduceIte, l_0, l_1, l_2, l_3, l_4, l_5, l_6, l_7, l_8, l_9, l_10, l_12, l_16, l_24, l_31, l_32, l_48, l_96, l_99, l_100, l_150, l_180, l_200, l_240, l_255, l_260, l_384, l_400, l_999, l_5000, l_9999, l_1000000, l_1000000000, l_11, l_13, l_14, l_15, l_17, l_18, l_19, l_20, l_21, l_22, l_23, l_25, l_26, l_28, l_30, l_34, l_38, l_42, l_44, l_54, l_60, l_64, l_81, l_90, l_101, l_103, l_110, l_120, l_128, l_140, l_256, l_401, l_403, l_450, l_512, l_853, l_983, l_1000, l_1001, l_2048, l_3000000, l_2000000, l_4096, l_5001, l_5002, l_10000, l_10001, l_32767, l_32768, l_60000, l_2147483647, zJ_lt, zJ_le, zJ_eq, zJ_add, zJ_sub, zJ_mul, zJ_neg, zJ_dv, t_I, t_Ie, t_R, t_Re, t_N, t_Nn, t_V, t_Ve, t_b, t_x, t_w, e_0, e_1, e_2, e_3, ↓t_0, ↓t_1, t_00, t_11, if_true, if_false, ite_not, not_false_eq_true, not_true_eq_false, Int.reduceEq, Int.reduceLT, Int.reduceLE, Int.reduceNeg, Nat.reduceEqDiff, Bool.false_eq_true, zem, ls_ hL, m8, k1, m9, k2]
        · simp (disch := first | assumption | omega) only [↓reduceIte, l_0, l_1, l_2, l_3, l_4, l_5, l_6, l_7, l_8, l_9, l_10, l_12, l_16, l_24, l_31, l_32, l_48, l_96, l_99, l_100, l_150, l_180, l_200, l_240, l_255, l_260, l_384, l_400, l_999, l_5000, l_9999, l_1000000, l_1000000000, l_11, l_13, l_14, l_15, l_17, l_18, l_19, l_20, l_21, l_22, l_23, l_25, l_26, l_28, l_30, l_34, l_38, l_42, l_44, l_54, l_60, l_64, l_81, l_90, l_101, l_103, l_110, l_120, l_128, l_140, l_256, l_401, l_403, l_450, l_512, l_853, l_983, l_1000, l_1001, l_2048, l_3000000, l_2000000, l_4096, l_5001, l_5002, l_10000, l_10001, l_32767, l_32768, l_60000, l_2147483647, zJ_lt, zJ_le, zJ_eq, zJ_add, zJ_sub, zJ_mul, zJ_neg, zJ_dv, t_I, t_Ie, t_R, t_Re, t_N, t_Nn, t_V, t_Ve, t_b, t_x, t_w, e_0, e_1, e_2, e_3, ↓t_0, ↓t_1, t_00, t_11, if_true, if_false, ite_not, not_false_eq_true, not_true_eq_false, Int.reduceEq, Int.reduceLT, Int.reduceLE, Int.reduceNeg, Nat.reduceEqDiff, Bool.false_eq_true, zem, ls_ hL, m8, k1]
      rw [hst, q_L_isBoard_806]
      simp (disch := first | assumption | omega) only [↓reduceIte, l_0, l_1, l_2, l_3, l_4, l_5, l_6, l_7, l_8, l_9, l_10, l_12, l_16, l_24, l_31, l_32, l_48, l_96, l_99, l_100, l_150, l_180, l_200, l_240, l_255, l_260, l_384, l_400, l_999, l_5000, l_9999, l_1000000, l_1000000000, l_11, l_13, l_14, l_15, l_17, l_18, l_19, l_20, l_21, l_22, l_23, l_25, l_26, l_28, l_30, l_34, l_38, l_42, l_44, l_54, l_60, l_64, l_81, l_90, l_101, l_103, l_110, l_120, l_128, l_140, l_256, l_401, l_403, l_450, l_512, l_853, l_983, l_1000, l_1001, l_2048, l_3000000, l_2000000, l_4096, l_5001, l_5002, l_10000, l_10001, l_32767, l_32768, l_60000, l_2147483647, zJ_lt, zJ_le, zJ_eq, zJ_add, zJ_sub, zJ_mul, zJ_neg, zJ_dv, t_I, t_Ie, t_R, t_Re, t_N, t_Nn, t_V, t_Ve, t_b, t_x, t_w, e_0, e_1, e_2, e_3, ↓t_0, ↓t_1, t_00, t_11, if_true, if_false, ite_not, not_false_eq_true, not_true_eq_false, Int.reduceEq, Int.reduceLT, Int.reduceLE, Int.reduceNeg, Nat.reduceEqDiff, Bool.false_eq_true]
      rw [q_L_isBoard_864]
      refine zgL_d hG (by rw [l_0, l_18]; exact d_repair hY hG hI (by omega) (by omega) (by omega)) (fun Y2 n2 m2 X2 code ans v hD h0 hE hl hY2 hG2 hI2 hle => ?_)
      unfold dRepair at hD
      rw [hKK] at hD
      obtain ⟨ev, e1⟩ := (zd2_v hD h0 hE).2.1 kA' kB
      refine ⟨pK_s e1 (by decide) hK, fun _ => ?_⟩
      simp (disch := first | assumption | omega) only [↓reduceIte, l_0, l_1, l_2, l_3, l_4, l_5, l_6, l_7, l_8, l_9, l_10, l_12, l_16, l_24, l_31, l_32, l_48, l_96, l_99, l_100, l_150, l_180, l_200, l_240, l_255, l_260, l_384, l_400, l_999, l_5000, l_9999, l_1000000, l_1000000000, l_11, l_13, l_14, l_15, l_17, l_18, l_19, l_20, l_21, l_22, l_23, l_25, l_26, l_28, l_30, l_34, l_38, l_42, l_44, l_54, l_60, l_64, l_81, l_90, l_101, l_103, l_110, l_120, l_128, l_140, l_256, l_401, l_403, l_450, l_512, l_853, l_983, l_1000, l_1001, l_2048, l_3000000, l_2000000, l_4096, l_5001, l_5002, l_10000, l_10001, l_32767, l_32768, l_60000, l_2147483647, zJ_lt, zJ_le, zJ_eq, zJ_add, zJ_sub, zJ_mul, zJ_neg, zJ_dv, t_I, t_Ie, t_R, t_Re, t_N, t_Nn, t_V, t_Ve, t_b, t_x, t_w, e_0, e_1, e_2, e_3, ↓t_0, ↓t_1, t_00, t_11, if_true, if_false, ite_not, not_false_eq_true, not_true_eq_false, Int.reduceEq, Int.reduceLT, Int.reduceLE, Int.reduceNeg, Nat.reduceEqDiff, Bool.false_eq_true, ev, zrv_2]
  · rw [zB_0 kA, q_L_isBoard_166]
    generalize zB (b < X 434 0) = i1
    generalize zB (b < X 434 0 ∧ c < 8) = i2
    simp (disch := first | assumption | omega) only [↓reduceIte, l_0, l_1, l_2, l_3, l_4, l_5, l_6, l_7, l_8, l_9, l_10, l_12, l_16, l_24, l_31, l_32, l_48, l_96, l_99, l_100, l_150, l_180, l_200, l_240, l_255, l_260, l_384, l_400, l_999, l_5000, l_9999, l_1000000, l_1000000000, l_11, l_13, l_14, l_15, l_17, l_18, l_19, l_20, l_21, l_22, l_23, l_25, l_26, l_28, l_30, l_34, l_38, l_42, l_44, l_54, l_60, l_64, l_81, l_90, l_101, l_103, l_110, l_120, l_128, l_140, l_256, l_401, l_403, l_450, l_512, l_853, l_983, l_1000, l_1001, l_2048, l_3000000, l_2000000, l_4096, l_5001, l_5002, l_10000, l_10001, l_32767, l_32768, l_60000, l_2147483647, zJ_lt, zJ_le, zJ_eq, zJ_add, zJ_sub, zJ_mul, zJ_neg, zJ_dv, t_I, t_Ie, t_R, t_Re, t_N, t_Nn, t_V, t_Ve, t_b, t_x, t_w, e_0, e_1, e_2, e_3, ↓t_0, ↓t_1, t_00, t_11, if_true, if_false, ite_not, not_false_eq_true, not_true_eq_false, Int.reduceEq, Int.reduceLT, Int.reduceLE, Int.reduceNeg, Nat.reduceEqDiff, Bool.false_eq_true]
    rw [q_L_isBoard_806]
    simp (disch := first | assumption | omega) only [↓reduceIte, l_0, l_1, l_2, l_3, l_4, l_5, l_6, l_7, l_8, l_9, l_10, l_12, l_16, l_24, l_31, l_32, l_48, l_96, l_99, l_100, l_150, l_180, l_200, l_240, l_255, l_260, l_384, l_400, l_999, l_5000, l_9999, l_1000000, l_1000000000, l_11, l_13, l_14, l_15, l_17, l_18, l_19, l_20, l_21, l_22, l_23, l_25, l_26, l_28, l_30, l_34, l_38, l_42, l_44, l_54, l_60, l_64, l_81, l_90, l_101, l_103, l_110, l_120, l_128, l_140, l_256, l_401, l_403, l_450, l_512, l_853, l_983, l_1000, l_1001, l_2048, l_3000000, l_2000000, l_4096, l_5001, l_5002, l_10000, l_10001, l_32767, l_32768, l_60000, l_2147483647, zJ_lt, zJ_le, zJ_eq, zJ_add, zJ_sub, zJ_mul, zJ_neg, zJ_dv, t_I, t_Ie, t_R, t_Re, t_N, t_Nn, t_V, t_Ve, t_b, t_x, t_w, e_0, e_1, e_2, e_3, ↓t_0, ↓t_1, t_00, t_11, if_true, if_false, ite_not, not_false_eq_true, not_true_eq_false, Int.reduceEq, Int.reduceLT, Int.reduceLE, Int.reduceNeg, Nat.reduceEqDiff, Bool.false_eq_true]
    rw [q_L_isBoard_864]
    refine zgL_d hG (by rw [l_0, l_18]; exact d_repair hY hG hI (by omega) (by omega) (by omega)) (fun Y2 n2 m2 X2 code ans v hD h0 hE hl hY2 hG2 hI2 hle => ?_)
    unfold dRepair at hD
    obtain ⟨ev, e1⟩ := (zd2_v hD h0 hE).1 (by omega)
    refine ⟨pK_s e1 (by decide) hK, fun _ => ?_⟩
    simp (disch := first | assumption | omega) only [↓reduceIte, l_0, l_1, l_2, l_3, l_4, l_5, l_6, l_7, l_8, l_9, l_10, l_12, l_16, l_24, l_31, l_32, l_48, l_96, l_99, l_100, l_150, l_180, l_200, l_240, l_255, l_260, l_384, l_400, l_999, l_5000, l_9999, l_1000000, l_1000000000, l_11, l_13, l_14, l_15, l_17, l_18, l_19, l_20, l_21, l_22, l_23, l_25, l_26, l_28, l_30, l_34, l_38, l_42, l_44, l_54, l_60, l_64, l_81, l_90, l_101, l_103, l_110, l_120, l_128, l_140, l_256, l_401, l_403, l_450, l_512, l_853, l_983, l_1000, l_1001, l_2048, l_3000000, l_2000000, l_4096, l_5001, l_5002, l_10000, l_10001, l_32767, l_32768, l_60000, l_2147483647, zJ_lt, zJ_le, zJ_eq, zJ_add, zJ_sub, zJ_mul, zJ_neg, zJ_dv, t_I, t_Ie, t_R, t_Re, t_N, t_Nn, t_V, t_Ve, t_b, t_x, t_w, e_0, e_1, e_2, e_3, ↓t_0, ↓t_1, t_00, t_11, if_true, if_false, ite_not, not_false_eq_true, not_true_eq_false, Int.reduceEq, Int.reduceLT, Int.reduceLE, Int.reduceNeg, Nat.reduceEqDiff, Bool.false_eq_true, ev, zrv_0]
theorem B_ship (hZ : zLA G t Y n X) (hb : 0 ≤ b ∧ b ≤ X 434 0) (hc : 0 ≤ c ∧ c ≤ 8) (he : 0 ≤ e ∧ e ≤ X 425 0) : zgL G t Y n s (ev_ G 221 166 [.ref (wA Y 13 0), .ref (wA Y 15 605), .ref (wA Y 15 606), .ref (wA Y 15 607), .ref (wA Y 15 608), .ref (wA Y 15 609), .ref (wA Y 15 610), .ref (wA Y 15 611), .ref (wA Y 15 613), .int (zJ 6), .int (zJ q), .int (zJ r), .int (zJ b), .int (zJ c), .int (zJ e), .int (zJ (zB (b < X 434 0))), .int (zJ (zB (b < X 434 0 ∧ c < 8))), .int (zJ (zB ((b < X 434 0 ∧ c < 8) ∧ e < X 425 0))), zU, zU, zU, zU] [.int (zJ (if b < X 434 0 ∧ c < 8 then 8 * b + c else 0))] (wd Y n s X)) := by
  have hZ' := hZ
  obtain ⟨hY, hG, hI, hK⟩ := hZ
  obtain ⟨pg, pb, pc, pw, pr, ph, ps, pf⟩ := id hK
  have hL := wY_A hY
  have hn4 := pg.2.2.2.2.2.2.2
  have h12 := hI.2.2.2.2.2.2.2.2.2.2.2
  have h8 := hI.2.2.2.2.2.2.2.1
  have hR : 0 ≤ X 425 0 ∧ X 425 0 ≤ 12 := by
    have := h8.1
    have := hY.2.2.2.2.1
    omega
  generalize (if b < X 434 0 ∧ c < 8 then 8 * b + c else 0) = K
  generalize zB (b < X 434 0 ∧ c < 8) = i2
  generalize zB ((b < X 434 0 ∧ c < 8) ∧ e < X 425 0) = i3
  by_cases kA : b < X 434 0
  · have kA1 : 0 ≤ b ∧ b < X 434 0 := by omega
    obtain ⟨u1, u2, u3, u4, u5, u6, u7, u8, u9, u10, u11⟩ := B_q hZ' kA1
    have hf1 := L_faults (s := s) (p := b) (q := 1) hZ' (by omega) (by decide)
    have hfr := zfm_r X b 1
    rw [zB_1 kA]
    by_cases kB : X 1037 b = 0 ∧ X 1036 b ≠ 0 ∧ zfm X b 1 ≤ 0
    · have m1 := u5.mpr ⟨kB.1, kB.2.1⟩
      have m2 : zfm X b 1 = 0 := by omega
      have h35 : X 1035 b ≠ 0 := fun g => kB.2.1 (u7 g).1
      rw [q_L_isBoard_166]
      simp (disch := first | assumption | omega) only [↓reduceIte, l_0, l_1, l_2, l_3, l_4, l_5, l_6, l_7, l_8, l_9, l_10, l_12, l_16, l_24, l_31, l_32, l_48, l_96, l_99, l_100, l_150, l_180, l_200, l_240, l_255, l_260, l_384, l_400, l_999, l_5000, l_9999, l_1000000, l_1000000000, l_11, l_13, l_14, l_15, l_17, l_18, l_19, l_20, l_21, l_22, l_23, l_25, l_26, l_28, l_30, l_34, l_38, l_42, l_44, l_54, l_60, l_64, l_81, l_90, l_101, l_103, l_110, l_120, l_128, l_140, l_256, l_401, l_403, l_450, l_512, l_853, l_983, l_1000, l_1001, l_2048, l_3000000, l_2000000, l_4096, l_5001, l_5002, l_10000, l_10001, l_32767, l_32768, l_60000, l_2147483647, zJ_lt, zJ_le, zJ_eq, zJ_add, zJ_sub, zJ_mul, zJ_neg, zJ_dv, t_I, t_Ie, t_R, t_Re, t_N, t_Nn, t_V, t_Ve, t_b, t_x, t_w, e_0, e_1, e_2, e_3, ↓t_0, ↓t_1, t_00, t_11, if_true, if_false, ite_not, not_false_eq_true, not_true_eq_false, Int.reduceEq, Int.reduceLT, Int.reduceLE, Int.reduceNeg, Nat.reduceEqDiff, Bool.false_eq_true, lq_ hL, m1, hf1, m2]
      rw [q_L_isBoard_960]
      simp (disch := first | assumption | omega) only [↓reduceIte, l_0, l_1, l_2, l_3, l_4, l_5, l_6, l_7, l_8, l_9, l_10, l_12, l_16, l_24, l_31, l_32, l_48, l_96, l_99, l_100, l_150, l_180, l_200, l_240, l_255, l_260, l_384, l_400, l_999, l_5000, l_9999, l_1000000, l_1000000000, l_11, l_13, l_14, l_15, l_17, l_18, l_19, l_20, l_21, l_22, l_23, l_25, l_26, l_28, l_30, l_34, l_38, l_42, l_44, l_54, l_60, l_64, l_81, l_90, l_101, l_103, l_110, l_120, l_128, l_140, l_256, l_401, l_403, l_450, l_512, l_853, l_983, l_1000, l_1001, l_2048, l_3000000, l_2000000, l_4096, l_5001, l_5002, l_10000, l_10001, l_32767, l_32768, l_60000, l_2147483647, zJ_lt, zJ_le, zJ_eq, zJ_add, zJ_sub, zJ_mul, zJ_neg, zJ_dv, t_I, t_Ie, t_R, t_Re, t_N, t_Nn, t_V, t_Ve, t_b, t_x, t_w, e_0, e_1, e_2, e_3, ↓t_0, ↓t_1, t_00, t_11, if_true, if_false, ite_not, not_false_eq_true, not_true_eq_false, Int.reduceEq, Int.reduceLT, Int.reduceLE, Int.reduceNeg, Nat.reduceEqDiff, Bool.false_eq_true, sq_ hL]
      generalize hX' : wu X 1111 b 7 = X'
      have sX : zsame [1111] X X' := by
        rw [← hX']
        exact same_u (by decide) same_r
      have gl : ∀ f, f < 1100 → X' f = X f := fun f hf => sX f (by simp; omega)
      have hI' := iAll_l gl hY.2.2.2.1.2 hY.2.2.2.2.2.1.2 hI
      refine zgL_d hG (by exact d_ship hY hG hI' (by omega)) (fun Y2 n2 m2 X2 code ans v hD h0 hE hl hY2 hG2 hI2 hle => ?_)
      unfold dShip zfm at hD
      rw [gl 434 (by decide), gl 1036 (by decide), gl 1037 (by decide), gl 1042 (by decide), gl 1041 (by decide)] at hD
      obtain ⟨ev, e1, e2, e7⟩ := (zd2_v hD h0 hE).2.2 kA1 kB
      have s2 := same_t (same_m (F := [1111, 42, 444, 1037]) sX (by decide)) (same_m e7 (by decide))
      have g11 : ∀ j, X2 1111 j = if j = b then 7 else X 1111 j := fun j => by
        rw [hl 1111 (by decide), ← hX', wu_v]
      refine ⟨⟨pG_c pg (same_g s2 (by decide)), pB_c pb (same_g s2 (by decide)), pC_c pc (same_g s2 (by decide)), pW_c pw (same_g s2 (by decide)), pR_c pr (same_g s2 (by decide)), pH_c ph (same_g s2 (by decide)), ?_, pF_c pf (same_g s2 (by decide))⟩, fun hK2 => ?_⟩
      · refine ⟨?_, fun b' b0 b1 => ?_⟩
        · rw [s2 1109 (by decide), s2 1038 (by decide), s2 1041 (by decide), s2 1042 (by decide), s2 1043 (by decide), s2 1040 (by decide), s2 1110 (by decide), s2 1039 (by decide)]
          exact ps.1
        · rw [g11, e2, s2 1035 (by decide), s2 1036 (by decide), s2 1042 (by decide)]
          obtain ⟨a1, a2, a3, a4⟩ := ps.2 b' b0 b1
          by_cases hk : b' = b
          · rw [if_pos hk, if_pos hk, hk]
            refine ⟨by omega, fun g => absurd g h35, fun g => absurd g kB.2.1, fun g k k0 k1 => ?_⟩
            have hz := zsm_z (f := fun m => zB (X 1041 m ≠ 0 ∧ X 1042 m = 1)) (fun i => (zB_r _).1) 8 (8 * b) kB.2.2 k k0 (by omega)
            have hv5 := (B_s hZ' kA1 ⟨k0, k1⟩).2.2.2.2
            have hr := pS_r hZ' (k := k) (by omega)
            by_cases h42 : X 1042 k = 0
            · exact h42
            · have hz1 : zB (X 1041 k ≠ 0 ∧ X 1042 k = 1) = 1 := zB_1 ⟨(hv5 h42).1, by omega⟩
              have hz : zB (X 1041 k ≠ 0 ∧ X 1042 k = 1) = 0 := hz
              omega
          · rw [if_neg hk, if_neg hk]
            exact ⟨a1, a2, a3, a4⟩
      · have hZ2 : zLA G (t + 1) Y2 n2 X2 := ⟨hY2, hG2, hI2, hK2⟩
        have hw := L_faults (s := m2) (p := b) (q := 0) hZ2 (by omega) (by decide)
        have e8 : zfm X2 b 0 = ans := by
          rw [e1]
          unfold zfm
          rw [s2 1041 (by decide), s2 1042 (by decide)]
        rw [wA_l hle hL (j := 609) (by decide) (by decide)]
        simp (disch := first | assumption | omega) only [↓reduceIte, l_0, l_1, l_2, l_3, l_4, l_5, l_6, l_7, l_8, l_9, l_10, l_12, l_16, l_24, l_31, l_32, l_48, l_96, l_99, l_100, l_150, l_180, l_200, l_240, l_255, l_260, l_384, l_400, l_999, l_5000, l_9999, l_1000000, l_1000000000, l_11, l_13, l_14, l_15, l_17, l_18, l_19, l_20, l_21, l_22, l_23, l_25, l_26, l_28, l_30, l_34, l_38, l_42, l_44, l_54, l_60, l_64, l_81, l_90, l_101, l_103, l_110, l_120, l_128, l_140, l_256, l_401, l_403, l_450, l_512, l_853, l_983, l_1000, l_1001, l_2048, l_3000000, l_2000000, l_4096, l_5001, l_5002, l_10000, l_10001, l_32767, l_32768, l_60000, l_2147483647, zJ_lt, zJ_le, zJ_eq, zJ_add, zJ_sub, zJ_mul, zJ_neg, zJ_dv, t_I, t_Ie, t_R, t_Re, t_N, t_Nn, t_V, t_Ve, t_b, t_x, t_w, e_0, e_1, e_2, e_3, ↓t_0, ↓t_1, t_00, t_11, if_true, if_false, ite_not, not_false_eq_true, not_true_eq_false, Int.reduceEq, Int.reduceLT, Int.reduceLE, Int.reduceNeg, Nat.reduceEqDiff, Bool.false_eq_true, ev, hw, e8]
    · have hst : ev_ G 221 166 [.ref (wA Y 13 0), .ref (wA Y 15 605), .ref (wA Y 15 606), .ref (wA Y 15 607), .ref (wA Y 15 608), .ref (wA Y 15 609), .ref (wA Y 15 610), .ref (wA Y 15 611), .ref (wA Y 15 613), .int (zJ 6), .int (zJ q), .int (zJ r), .int (zJ b), .int (zJ c), .int (zJ e), .int (zJ (1)), .int (zJ (i2)), .int (zJ (i3)), zU, zU, zU, zU] [.int (zJ K)] (wd Y n s X) = ev_ G 221 960 [.ref (wA Y 13 0), .ref (wA Y 15 605), .ref (wA Y 15 606), .ref (wA Y 15 607), .ref (wA Y 15 608), .ref (wA Y 15 609), .ref (wA Y 15 610), .ref (wA Y 15 611), .ref (wA Y 15 613), .int (zJ 6), .int (zJ q), .int (zJ r), .int (zJ b), .int (zJ c), .int (zJ e), .int (zJ (1)), .int (zJ (i2)), .int (zJ (i3)), .int (zJ K), .int (zJ 0), zU, zU] [.int (zJ 4), .ref (wA Y 15 611)] (wd Y n s X) := by
        rw [q_L_isBoard_166]
        by_cases k1 : X 1111 b = 3
        · have k2 : ¬zfm X b 1 = 0 := fun g => kB ⟨(u5.mp k1).1, (u5.mp k1).2, by omega⟩
          simp (disch := first | assumption | omega) only [↓reduceIte, l_0, l_1, l_2, l_3, l_4, l_5, l_6, l_7, l_8, l_9, l_10, l_12, l_16, l_24, l_31, l_32, l_48, l_96, l_99, l_100, l_150, l_180, l_200, l_240, l_255, l_260, l_384, l_400, l_999, l_5000, l_9999, l_1000000, l_1000000000, l_11, l_13, l_14, l_15, l_17, l_18, l_19, l_20, l_21, l_22, l_23, l_25, l_26, l_28, l_30, l_34, l_38, l_42, l_44, l_54, l_60, l_64, l_81, l_90, l_101, l_103, l_110, l_120, l_128, l_140, l_256, l_401, l_403, l_450, l_512, l_853, l_983, l_1000, l_1001, l_2048, l_3000000, l_2000000, l_4096, l_5001, l_5002, l_10000, l_10001, l_32767, l_32768, l_60000, l_2147483647, zJ_lt, zJ_le, zJ_eq, zJ_add, zJ_sub, zJ_mul, zJ_neg, zJ_dv, t_I, t_Ie, t_R, t_Re, t_N, t_Nn, t_V, t_Ve, t_b, t_x, t_w, e_0, e_1, e_2, e_3, ↓t_0, ↓t_1, t_00, t_11, if_true, if_false, ite_not, not_false_eq_true, not_true_eq_false, Int.reduceEq, Int.reduceLT, Int.reduceLE, Int.reduceNeg, Nat.reduceEqDiff, Bool.false_eq_true, lq_ hL, k1, hf1, k2]
          rw [q_L_isBoard_944]
          simp (disch := first | assumption | omega) only [↓reduceIte, l_0, l_1, l_2, l_3, l_4, l_5, l_6, l_7, l_8, l_9, l_10, l_12, l_16, l_24, l_31, l_32, l_48, l_96, l_99, l_100, l_150, l_180, l_200, l_240, l_255, l_260, l_384, l_400, l_999, l_5000, l_9999, l_1000000, l_1000000000, l_11, l_13, l_14, l_15, l_17, l_18, l_19, l_20, l_21, l_22, l_23, l_25, l_26, l_28, l_30, l_34, l_38, l_42, l_44, l_54, l_60, l_64, l_81, l_90, l_101, l_103, l_110, l_120, l_128, l_140, l_256, l_401, l_403, l_450, l_512, l_853, l_983, l_1000, l_1001, l_2048, l_3000000, l_2000000, l_4096, l_5001, l_5002, l_10000, l_10001, l_32767, l_32768, l_60000, l_2147483647, zJ_lt, zJ_le, zJ_eq, zJ_add, zJ_sub, zJ_mul, zJ_neg, zJ_dv, t_I, t_Ie, t_R, t_Re, t_N, t_Nn, t_V, t_Ve, t_b, t_x, t_w, e_0, e_1, e_2, e_3, ↓t_0, ↓t_1, t_00, t_11, if_true, if_false, ite_not, not_false_eq_true, not_true_eq_false, Int.reduceEq, Int.reduceLT, Int.reduceLE, Int.reduceNeg, Nat.reduceEqDiff, Bool.false_eq_true]
        · simp (disch := first | assumption | omega) only [↓reduceIte, l_0, l_1, l_2, l_3, l_4, l_5, l_6, l_7, l_8, l_9, l_10, l_12, l_16, l_24, l_31, l_32, l_48, l_96, l_99, l_100, l_150, l_180, l_200, l_240, l_255, l_260, l_384, l_400, l_999, l_5000, l_9999, l_1000000, l_1000000000, l_11, l_13, l_14, l_15, l_17, l_18, l_19, l_20, l_21, l_22, l_23, l_25, l_26, l_28, l_30, l_34, l_38, l_42, l_44, l_54, l_60, l_64, l_81, l_90, l_101, l_103, l_110, l_120, l_128, l_140, l_256, l_401, l_403, l_450, l_512, l_853, l_983, l_1000, l_1001, l_2048, l_3000000, l_2000000, l_4096, l_5001, l_5002, l_10000, l_10001, l_32767, l_32768, l_60000, l_2147483647, zJ_lt, zJ_le, zJ_eq, zJ_add, zJ_sub, zJ_mul, zJ_neg, zJ_dv, t_I, t_Ie, t_R, t_Re, t_N, t_Nn, t_V, t_Ve, t_b, t_x, t_w, e_0, e_1, e_2, e_3, ↓t_0, ↓t_1, t_00, t_11, if_true, if_false, ite_not, not_false_eq_true, not_true_eq_false, Int.reduceEq, Int.reduceLT, Int.reduceLE, Int.reduceNeg, Nat.reduceEqDiff, Bool.false_eq_true, lq_ hL, k1]
          rw [q_L_isBoard_944]
          simp (disch := first | assumption | omega) only [↓reduceIte, l_0, l_1, l_2, l_3, l_4, l_5, l_6, l_7, l_8, l_9, l_10, l_12, l_16, l_24, l_31, l_32, l_48, l_96, l_99, l_100, l_150, l_180, l_200, l_240, l_255, l_260, l_384, l_400, l_999, l_5000, l_9999, l_1000000, l_1000000000, l_11, l_13, l_14, l_15, l_17, l_18, l_19, l_20, l_21, l_22, l_23, l_25, l_26, l_28, l_30, l_34, l_38, l_42, l_44, l_54, l_60, l_64, l_81, l_90, l_101, l_103, l_110, l_120, l_128, l_140, l_256, l_401, l_403, l_450, l_512, l_853, l_983, l_1000, l_1001, l_2048, l_3000000, l_2000000, l_4096, l_5001, l_5002, l_10000, l_10001, l_32767, l_32768, l_60000, l_2147483647, zJ_lt, zJ_le, zJ_eq, zJ_add, zJ_sub, zJ_mul, zJ_neg, zJ_dv, t_I, t_Ie, t_R, t_Re, t_N, t_Nn, t_V, t_Ve, t_b, t_x, t_w, e_0, e_1, e_2, e_3, ↓t_0, ↓t_1, t_00, t_11, if_true, if_false, ite_not, not_false_eq_true, not_true_eq_false, Int.reduceEq, Int.reduceLT, Int.reduceLE, Int.reduceNeg, Nat.reduceEqDiff, Bool.false_eq_true]
      rw [hst, q_L_isBoard_960]
      simp (disch := first | assumption | omega) only [↓reduceIte, l_0, l_1, l_2, l_3, l_4, l_5, l_6, l_7, l_8, l_9, l_10, l_12, l_16, l_24, l_31, l_32, l_48, l_96, l_99, l_100, l_150, l_180, l_200, l_240, l_255, l_260, l_384, l_400, l_999, l_5000, l_9999, l_1000000, l_1000000000, l_11, l_13, l_14, l_15, l_17, l_18, l_19, l_20, l_21, l_22, l_23, l_25, l_26, l_28, l_30, l_34, l_38, l_42, l_44, l_54, l_60, l_64, l_81, l_90, l_101, l_103, l_110, l_120, l_128, l_140, l_256, l_401, l_403, l_450, l_512, l_853, l_983, l_1000, l_1001, l_2048, l_3000000, l_2000000, l_4096, l_5001, l_5002, l_10000, l_10001, l_32767, l_32768, l_60000, l_2147483647, zJ_lt, zJ_le, zJ_eq, zJ_add, zJ_sub, zJ_mul, zJ_neg, zJ_dv, t_I, t_Ie, t_R, t_Re, t_N, t_Nn, t_V, t_Ve, t_b, t_x, t_w, e_0, e_1, e_2, e_3, ↓t_0, ↓t_1, t_00, t_11, if_true, if_false, ite_not, not_false_eq_true, not_true_eq_false, Int.reduceEq, Int.reduceLT, Int.reduceLE, Int.reduceNeg, Nat.reduceEqDiff, Bool.false_eq_true, sq_ hL]
      generalize hX' : wu X 1111 4 7 = X'
      have sX : zsame [1111] X X' := by
        rw [← hX']
        exact same_u (by decide) same_r
      have gl : ∀ f, f < 1100 → X' f = X f := fun f hf => sX f (by simp; omega)
      have hI' := iAll_l gl hY.2.2.2.1.2 hY.2.2.2.2.2.1.2 hI
      refine zgL_d hG (by exact d_ship hY hG hI' (by omega)) (fun Y2 n2 m2 X2 code ans v hD h0 hE hl hY2 hG2 hI2 hle => ?_)
      unfold dShip zfm at hD
      rw [gl 434 (by decide), gl 1036 (by decide), gl 1037 (by decide), gl 1042 (by decide), gl 1041 (by decide)] at hD
      obtain ⟨ev, e1⟩ := (zd2_v hD h0 hE).2.1 kA1 kB
      refine ⟨pK_q hK hX' e1, fun _ => ?_⟩
      simp (disch := first | assumption | omega) only [↓reduceIte, l_0, l_1, l_2, l_3, l_4, l_5, l_6, l_7, l_8, l_9, l_10, l_12, l_16, l_24, l_31, l_32, l_48, l_96, l_99, l_100, l_150, l_180, l_200, l_240, l_255, l_260, l_384, l_400, l_999, l_5000, l_9999, l_1000000, l_1000000000, l_11, l_13, l_14, l_15, l_17, l_18, l_19, l_20, l_21, l_22, l_23, l_25, l_26, l_28, l_30, l_34, l_38, l_42, l_44, l_54, l_60, l_64, l_81, l_90, l_101, l_103, l_110, l_120, l_128, l_140, l_256, l_401, l_403, l_450, l_512, l_853, l_983, l_1000, l_1001, l_2048, l_3000000, l_2000000, l_4096, l_5001, l_5002, l_10000, l_10001, l_32767, l_32768, l_60000, l_2147483647, zJ_lt, zJ_le, zJ_eq, zJ_add, zJ_sub, zJ_mul, zJ_neg, zJ_dv, t_I, t_Ie, t_R, t_Re, t_N, t_Nn, t_V, t_Ve, t_b, t_x, t_w, e_0, e_1, e_2, e_3, ↓t_0, ↓t_1, t_00, t_11, if_true, if_false, ite_not, not_false_eq_true, not_true_eq_false, Int.reduceEq, Int.reduceLT, Int.reduceLE, Int.reduceNeg, Nat.reduceEqDiff, Bool.false_eq_true, ev, zrv_2]
  · rw [zB_0 kA, q_L_isBoard_166]
    simp (disch := first | assumption | omega) only [↓reduceIte, l_0, l_1, l_2, l_3, l_4, l_5, l_6, l_7, l_8, l_9, l_10, l_12, l_16, l_24, l_31, l_32, l_48, l_96, l_99, l_100, l_150, l_180, l_200, l_240, l_255, l_260, l_384, l_400, l_999, l_5000, l_9999, l_1000000, l_1000000000, l_11, l_13, l_14, l_15, l_17, l_18, l_19, l_20, l_21, l_22, l_23, l_25, l_26, l_28, l_30, l_34, l_38, l_42, l_44, l_54, l_60, l_64, l_81, l_90, l_101, l_103, l_110, l_120, l_128, l_140, l_256, l_401, l_403, l_450, l_512, l_853, l_983, l_1000, l_1001, l_2048, l_3000000, l_2000000, l_4096, l_5001, l_5002, l_10000, l_10001, l_32767, l_32768, l_60000, l_2147483647, zJ_lt, zJ_le, zJ_eq, zJ_add, zJ_sub, zJ_mul, zJ_neg, zJ_dv, t_I, t_Ie, t_R, t_Re, t_N, t_Nn, t_V, t_Ve, t_b, t_x, t_w, e_0, e_1, e_2, e_3, ↓t_0, ↓t_1, t_00, t_11, if_true, if_false, ite_not, not_false_eq_true, not_true_eq_false, Int.reduceEq, Int.reduceLT, Int.reduceLE, Int.reduceNeg, Nat.reduceEqDiff, Bool.false_eq_true]
    rw [q_L_isBoard_944]
    simp (disch := first | assumption | omega) only [↓reduceIte, l_0, l_1, l_2, l_3, l_4, l_5, l_6, l_7, l_8, l_9, l_10, l_12, l_16, l_24, l_31, l_32, l_48, l_96, l_99, l_100, l_150, l_180, l_200, l_240, l_255, l_260, l_384, l_400, l_999, l_5000, l_9999, l_1000000, l_1000000000, l_11, l_13, l_14, l_15, l_17, l_18, l_19, l_20, l_21, l_22, l_23, l_25, l_26, l_28, l_30, l_34, l_38, l_42, l_44, l_54, l_60, l_64, l_81, l_90, l_101, l_103, l_110, l_120, l_128, l_140, l_256, l_401, l_403, l_450, l_512, l_853, l_983, l_1000, l_1001, l_2048, l_3000000, l_2000000, l_4096, l_5001, l_5002, l_10000, l_10001, l_32767, l_32768, l_60000, l_2147483647, zJ_lt, zJ_le, zJ_eq, zJ_add, zJ_sub, zJ_mul, zJ_neg, zJ_dv, t_I, t_Ie, t_R, t_Re, t_N, t_Nn, t_V, t_Ve, t_b, t_x, t_w, e_0, e_1, e_2, e_3, ↓t_0, ↓t_1, t_00, t_11, if_true, if_false, ite_not, not_false_eq_true, not_true_eq_false, Int.reduceEq, Int.reduceLT, Int.reduceLE, Int.reduceNeg, Nat.reduceEqDiff, Bool.false_eq_true]
    rw [q_L_isBoard_960]
    simp (disch := first | assumption | omega) only [↓reduceIte, l_0, l_1, l_2, l_3, l_4, l_5, l_6, l_7, l_8, l_9, l_10, l_12, l_16, l_24, l_31, l_32, l_48, l_96, l_99, l_100, l_150, l_180, l_200, l_240, l_255, l_260, l_384, l_400, l_999, l_5000, l_9999, l_1000000, l_1000000000, l_11, l_13, l_14, l_15, l_17, l_18, l_19, l_20, l_21, l_22, l_23, l_25, l_26, l_28, l_30, l_34, l_38, l_42, l_44, l_54, l_60, l_64, l_81, l_90, l_101, l_103, l_110, l_120, l_128, l_140, l_256, l_401, l_403, l_450, l_512, l_853, l_983, l_1000, l_1001, l_2048, l_3000000, l_2000000, l_4096, l_5001, l_5002, l_10000, l_10001, l_32767, l_32768, l_60000, l_2147483647, zJ_lt, zJ_le, zJ_eq, zJ_add, zJ_sub, zJ_mul, zJ_neg, zJ_dv, t_I, t_Ie, t_R, t_Re, t_N, t_Nn, t_V, t_Ve, t_b, t_x, t_w, e_0, e_1, e_2, e_3, ↓t_0, ↓t_1, t_00, t_11, if_true, if_false, ite_not, not_false_eq_true, not_true_eq_false, Int.reduceEq, Int.reduceLT, Int.reduceLE, Int.reduceNeg, Nat.reduceEqDiff, Bool.false_eq_true, sq_ hL]
    generalize hX' : wu X 1111 4 7 = X'
    have sX : zsame [1111] X X' := by
      rw [← hX']
      exact same_u (by decide) same_r
    have gl : ∀ f, f < 1100 → X' f = X f := fun f hf => sX f (by simp; omega)
    have hI' := iAll_l gl hY.2.2.2.1.2 hY.2.2.2.2.2.1.2 hI
    refine zgL_d hG (by exact d_ship hY hG hI' (by omega)) (fun Y2 n2 m2 X2 code ans v hD h0 hE hl hY2 hG2 hI2 hle => ?_)
    unfold dShip at hD
    rw [gl 434 (by decide)] at hD
    obtain ⟨ev, e1⟩ := (zd2_v hD h0 hE).1 (by omega)
    refine ⟨pK_q hK hX' e1, fun _ => ?_⟩
    simp (disch := first | assumption | omega) only [↓reduceIte, l_0, l_1, l_2, l_3, l_4, l_5, l_6, l_7, l_8, l_9, l_10, l_12, l_16, l_24, l_31, l_32, l_48, l_96, l_99, l_100, l_150, l_180, l_200, l_240, l_255, l_260, l_384, l_400, l_999, l_5000, l_9999, l_1000000, l_1000000000, l_11, l_13, l_14, l_15, l_17, l_18, l_19, l_20, l_21, l_22, l_23, l_25, l_26, l_28, l_30, l_34, l_38, l_42, l_44, l_54, l_60, l_64, l_81, l_90, l_101, l_103, l_110, l_120, l_128, l_140, l_256, l_401, l_403, l_450, l_512, l_853, l_983, l_1000, l_1001, l_2048, l_3000000, l_2000000, l_4096, l_5001, l_5002, l_10000, l_10001, l_32767, l_32768, l_60000, l_2147483647, zJ_lt, zJ_le, zJ_eq, zJ_add, zJ_sub, zJ_mul, zJ_neg, zJ_dv, t_I, t_Ie, t_R, t_Re, t_N, t_Nn, t_V, t_Ve, t_b, t_x, t_w, e_0, e_1, e_2, e_3, ↓t_0, ↓t_1, t_00, t_11, if_true, if_false, ite_not, not_false_eq_true, not_true_eq_false, Int.reduceEq, Int.reduceLT, Int.reduceLE, Int.reduceNeg, Nat.reduceEqDiff, Bool.false_eq_true, ev, zrv_0]
theorem B_all (hZ : zLA G t Y n X) (hk : 0 ≤ k ∧ k ≤ 6) (h1 : 0 ≤ q ∧ q < 60000) (h2 : 0 ≤ r ∧ r < 60000) : zgL G t Y n s (ev_ G 221 0 [.ref (wA Y 13 0), .ref (wA Y 15 605), .ref (wA Y 15 606), .ref (wA Y 15 607), .ref (wA Y 15 608), .ref (wA Y 15 609), .ref (wA Y 15 610), .ref (wA Y 15 611), .ref (wA Y 15 613), .int (zJ k), .int (zJ q), .int (zJ r), zU, zU, zU, zU, zU, zU, zU, zU, zU, zU] [] (wd Y n s X)) := by
  have hL := wY_A hZ.1
  have pg := hZ.2.2.2.1
  have hn4 := pg.2.2.2.2.2.2.2
  have h434 : 0 ≤ X 434 0 := by
    have := hZ.2.2.1.2.2.2.2.2.2.2.2.2.2.2.1
    have := hZ.1.2.2.2.2.2.1
    omega
  by_cases kb : k = 0 ∧ X 434 0 < 4
  · rw [kb.1]
    exact B_board hZ kb.2
  · have e0 : ev_ G 221 0 [.ref (wA Y 13 0), .ref (wA Y 15 605), .ref (wA Y 15 606), .ref (wA Y 15 607), .ref (wA Y 15 608), .ref (wA Y 15 609), .ref (wA Y 15 610), .ref (wA Y 15 611), .ref (wA Y 15 613), .int (zJ k), .int (zJ q), .int (zJ r), zU, zU, zU, zU, zU, zU, zU, zU, zU, zU] [] (wd Y n s X) = ev_ G 221 47 [.ref (wA Y 13 0), .ref (wA Y 15 605), .ref (wA Y 15 606), .ref (wA Y 15 607), .ref (wA Y 15 608), .ref (wA Y 15 609), .ref (wA Y 15 610), .ref (wA Y 15 611), .ref (wA Y 15 613), .int (zJ k), .int (zJ q), .int (zJ r), zU, zU, zU, zU, zU, zU, zU, zU, zU, zU] [] (wd Y n s X) := by
      rw [q_L_isBoard_0]
      by_cases k1 : k = 0
      · have k2 : 4 ≤ X 434 0 := by omega
        simp (disch := first | assumption | omega) only [↓reduceIte, l_0, l_1, l_2, l_3, l_4, l_5, l_6, l_7, l_8, l_9, l_10, l_12, l_16, l_24, l_31, l_32, l_48, l_96, l_99, l_100, l_150, l_180, l_200, l_240, l_255, l_260, l_384, l_400, l_999, l_5000, l_9999, l_1000000, l_1000000000, l_11, l_13, l_14, l_15, l_17, l_18, l_19, l_20, l_21, l_22, l_23, l_25, l_26, l_28, l_30, l_34, l_38, l_42, l_44, l_54, l_60, l_64, l_81, l_90, l_101, l_103, l_110, l_120, l_128, l_140, l_256, l_401, l_403, l_450, l_512, l_853, l_983, l_1000, l_1001, l_2048, l_3000000, l_2000000, l_4096, l_5001, l_5002, l_10000, l_10001, l_32767, l_32768, l_60000, l_2147483647, zJ_lt, zJ_le, zJ_eq, zJ_add, zJ_sub, zJ_mul, zJ_neg, zJ_dv, t_I, t_Ie, t_R, t_Re, t_N, t_Nn, t_V, t_Ve, t_b, t_x, t_w, e_0, e_1, e_2, e_3, ↓t_0, ↓t_1, t_00, t_11, if_true, if_false, ite_not, not_false_eq_true, not_true_eq_false, Int.reduceEq, Int.reduceLT, Int.reduceLE, Int.reduceNeg, Nat.reduceEqDiff, Bool.false_eq_true, lg_ hL, pg.2.2.2.2.1, k1, k2]
      · simp (disch := first | assumption | omega) only [↓reduceIte, l_0, l_1, l_2, l_3, l_4, l_5, l_6, l_7, l_8, l_9, l_10, l_12, l_16, l_24, l_31, l_32, l_48, l_96, l_99, l_100, l_150, l_180, l_200, l_240, l_255, l_260, l_384, l_400, l_999, l_5000, l_9999, l_1000000, l_1000000000, l_11, l_13, l_14, l_15, l_17, l_18, l_19, l_20, l_21, l_22, l_23, l_25, l_26, l_28, l_30, l_34, l_38, l_42, l_44, l_54, l_60, l_64, l_81, l_90, l_101, l_103, l_110, l_120, l_128, l_140, l_256, l_401, l_403, l_450, l_512, l_853, l_983, l_1000, l_1001, l_2048, l_3000000, l_2000000, l_4096, l_5001, l_5002, l_10000, l_10001, l_32767, l_32768, l_60000, l_2147483647, zJ_lt, zJ_le, zJ_eq, zJ_add, zJ_sub, zJ_mul, zJ_neg, zJ_dv, t_I, t_Ie, t_R, t_Re, t_N, t_Nn, t_V, t_Ve, t_b, t_x, t_w, e_0, e_1, e_2, e_3, ↓t_0, ↓t_1, t_00, t_11, if_true, if_false, ite_not, not_false_eq_true, not_true_eq_false, Int.reduceEq, Int.reduceLT, Int.reduceLE, Int.reduceNeg, Nat.reduceEqDiff, Bool.false_eq_true, k1]
    obtain ⟨b, c, e, hb, hc, he, s1⟩ := B_47 (s := s) (k := k) hZ h1 h2
    rw [e0, s1]
    have : k ≤ 1 ∨ k = 2 ∨ k = 3 ∨ k = 4 ∨ k = 5 ∨ k = 6 := by omega
    rcases this with h | rfl | rfl | rfl | rfl | rfl
    · exact B_place hZ ⟨hk.1, h⟩ hb hc he
    · exact B_solder hZ hb hc he
    · exact B_flaw hZ hb hc he
    · exact B_test hZ hb hc he
    · exact B_repair hZ hb hc he
    · exact B_ship hZ hb hc he
end ZL
