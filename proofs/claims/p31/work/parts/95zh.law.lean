/-! THE LAW, 11: pulling a wire -/
theorem sh16 : ∀ j : Fin 16, ((zJ (j.val : Int) &&& zJ 31).toBitVec.smod 32#32).toNat = j.val := by decide +kernel
theorem sh16i {j : Int} (h : 0 ≤ j ∧ j < 16) : ((zJ j &&& zJ 31).toBitVec.smod 32#32).toNat = j.toNat := by
  have := sh16 ⟨j.toNat, by omega⟩
  rw [show ((j.toNat : Nat) : Int) = j by omega] at this
  exact this
def zgb (y : Int) (j : Nat) : Bool := (zJ y).toBitVec.getLsbD j
theorem zand1 (b : BitVec 32) : (b &&& 1#32) = if b.getLsbD 0 = true then 1#32 else 0#32 := by
  apply BitVec.eq_of_getLsbD_eq
  intro i hi
  rw [BitVec.getLsbD_and]
  by_cases h0 : i = 0
  · subst h0
    cases h : b.getLsbD 0 <;> simp
  · have : (1#32).getLsbD i = false := by
      rw [BitVec.getLsbD_one]
      simp [h0]
    rw [this, Bool.and_false]
    split
    · exact this.symm
    · simp
theorem zbv_g {y j : Int} (h : 0 ≤ j ∧ j < 16) : zbv y j = if zgb y j.toNat = true then 1 else 0 := by
  unfold zbv zgb
  show ((zJ y >>> (zJ j &&& zJ 31)) &&& zJ 1).toBitVec.toInt = _
  rw [Int32.toBitVec_and, Int32.toBitVec_shiftRight, show (zJ 1).toBitVec = 1#32 from rfl, zand1]
  have e : ((zJ y).toBitVec.sshiftRight' ((zJ j &&& zJ 31).toBitVec.smod 32#32)).getLsbD 0 = (zJ y).toBitVec.getLsbD j.toNat := by
    rw [BitVec.sshiftRight', BitVec.getLsbD_sshiftRight, sh16i h]
    simp
    omega
  rw [show (32 : BitVec 32) = 32#32 from rfl, e]
  split <;> rfl
theorem zbO_g {y i : Int} (h : 0 ≤ i ∧ i < 16) {j : Nat} (hj : j < 32) : zgb (zbO y i) j = (zgb y j || decide (j = i.toNat)) := by
  unfold zgb
  rw [← zbO_e, Int32.toBitVec_or, Int32.toBitVec_shiftLeft, BitVec.getLsbD_or]
  congr 1
  rw [show (zJ 1).toBitVec = 1#32 from rfl, BitVec.shiftLeft_eq', show (32 : BitVec 32) = 32#32 from rfl, sh16i h, BitVec.getLsbD_shiftLeft]
  by_cases h1 : j < i.toNat
  · simp [h1]
    omega
  · simp [h1, hj]
    omega
theorem zgb_0 (j : Nat) : zgb 0 j = false := by
  show (0#32).getLsbD j = false
  simp
theorem zbv_J {y j : Int} : (zJ y >>> (zJ j &&& zJ 31)) &&& zJ 1 = zJ (zbv y j) := zJ_of _
section ZL
variable {Y : zLy} {n s : Nat} {X : zX} {G : Nat × Nat} {X' : zX} {t p q r k j f o a w : Int} {E : List Int}
def zpl (X X1 : zX) (w k : Int) : zX := fun f j => if f = 1101 ∧ k ≤ j ∧ j < 16 then X 1101 j + zbv (X 1104 w) j else X1 f j
theorem zpl_s {X1 : zX} (hk : k < 16) (hj : X1 1101 k = X 1101 k) : zpl X (wu X1 1101 k (X 1101 k + zbv (X 1104 w) k)) w (k + 1) = zpl X X1 w k := by
  funext f i
  show (if f = 1101 ∧ k + 1 ≤ i ∧ i < 16 then X 1101 i + zbv (X 1104 w) i else wu X1 1101 k (X 1101 k + zbv (X 1104 w) k) f i) = (if f = 1101 ∧ k ≤ i ∧ i < 16 then X 1101 i + zbv (X 1104 w) i else X1 f i)
  by_cases h1 : f = 1101 ∧ i = k
  · obtain ⟨rfl, rfl⟩ := h1
    rw [if_neg (fun g => by omega), wu_eq, if_pos ⟨rfl, Int.le_refl _, hk⟩]
  · have hw : wu X1 1101 k (X 1101 k + zbv (X 1104 w) k) f i = X1 f i := if_neg (fun g => h1 g)
    rw [hw]
    by_cases h2 : f = 1101 ∧ k + 1 ≤ i ∧ i < 16
    · rw [if_pos h2, if_pos ⟨h2.1, by omega, h2.2.2⟩]
    · rw [if_neg h2, if_neg]
      rintro ⟨g1, g2, g3⟩
      have : i ≠ k := fun g => h1 ⟨g1, g⟩
      exact h2 ⟨g1, by omega, g3⟩
theorem H_1215 (hY : wY Y n) (hw : 0 ≤ w ∧ w < 24) {c : Int} : ∀ (m : Nat) (j : Int) (X1 : zX), (∀ g, g ≠ 1101 → X1 g = X g) → (∀ i, j ≤ i → X1 1101 i = X 1101 i) → 0 ≤ j → j + m = 16 → ev_ G 218 1215 [.ref (wA Y 13 0), .ref (wA Y 15 600), .ref (wA Y 15 601), .ref (wA Y 15 602), .ref (wA Y 15 603), .ref (wA Y 15 604), .ref (wA Y 15 613), .int (zJ k), .int (zJ q), .int (zJ r), .int (zJ f), .int (zJ o), .int (zJ a), .int (zJ w), .int (zJ c), .int (zJ 1), .int (zJ j), zU, zU, zU, zU, zU, zU, zU] [] (wd Y n s X1) = ev_ G 218 1250 [.ref (wA Y 13 0), .ref (wA Y 15 600), .ref (wA Y 15 601), .ref (wA Y 15 602), .ref (wA Y 15 603), .ref (wA Y 15 604), .ref (wA Y 15 613), .int (zJ k), .int (zJ q), .int (zJ r), .int (zJ f), .int (zJ o), .int (zJ a), .int (zJ w), .int (zJ c), .int (zJ 1), .int (zJ 16), zU, zU, zU, zU, zU, zU, zU] [] (wd Y n s (zpl X X1 w j)) := by
  have hL := wY_A hY
  intro m
  induction m with
  | zero =>
    intro j X1 hf hj j0 j1
    have hj8 : j = 16 := by omega
    subst hj8
    have : zpl X X1 w 16 = X1 := by
      funext f i
      exact if_neg (fun g => by omega)
    rw [this, q_L_isHarness_1215]
    simp (disch := first | assumption | omega) only [↓reduceIte, l_0, l_1, l_2, l_3, l_4, l_5, l_6, l_7, l_8, l_9, l_10, l_12, l_16, l_24, l_31, l_32, l_48, l_96, l_99, l_100, l_150, l_180, l_200, l_240, l_255, l_260, l_384, l_400, l_999, l_5000, l_9999, l_1000000, l_1000000000, l_11, l_13, l_14, l_15, l_17, l_18, l_19, l_20, l_21, l_22, l_23, l_25, l_26, l_28, l_30, l_34, l_38, l_42, l_44, l_54, l_60, l_64, l_81, l_90, l_101, l_103, l_110, l_120, l_128, l_140, l_256, l_401, l_403, l_450, l_512, l_853, l_983, l_1000, l_1001, l_2048, l_3000000, l_2000000, l_4096, l_5001, l_5002, l_10000, l_10001, l_32767, l_32768, l_60000, l_2147483647, zJ_lt, zJ_le, zJ_eq, zJ_add, zJ_sub, zJ_mul, zJ_neg, zJ_dv, t_I, t_Ie, t_R, t_Re, t_N, t_Nn, t_V, t_Ve, t_b, t_x, t_w, e_0, e_1, e_2, e_3, ↓t_0, ↓t_1, t_00, t_11, if_true, if_false, ite_not, not_false_eq_true, not_true_eq_false, Int.reduceEq, Int.reduceLT, Int.reduceLE, Int.reduceNeg, Nat.reduceEqDiff, Bool.false_eq_true]
  | succ m ih =>
    intro j X1 hf hj j0 j1
    have e1 : ¬16 ≤ j := by omega
    have ej := hj j (Int.le_refl _)
    have e4 : X1 1104 = X 1104 := hf 1104 (by decide)
    have hst : ev_ G 218 1215 [.ref (wA Y 13 0), .ref (wA Y 15 600), .ref (wA Y 15 601), .ref (wA Y 15 602), .ref (wA Y 15 603), .ref (wA Y 15 604), .ref (wA Y 15 613), .int (zJ k), .int (zJ q), .int (zJ r), .int (zJ f), .int (zJ o), .int (zJ a), .int (zJ w), .int (zJ c), .int (zJ 1), .int (zJ j), zU, zU, zU, zU, zU, zU, zU] [] (wd Y n s X1) = ev_ G 218 1215 [.ref (wA Y 13 0), .ref (wA Y 15 600), .ref (wA Y 15 601), .ref (wA Y 15 602), .ref (wA Y 15 603), .ref (wA Y 15 604), .ref (wA Y 15 613), .int (zJ k), .int (zJ q), .int (zJ r), .int (zJ f), .int (zJ o), .int (zJ a), .int (zJ w), .int (zJ c), .int (zJ 1), .int (zJ (j + 1)), zU, zU, zU, zU, zU, zU, zU] [] (wd Y n s (wu X1 1101 j (X 1101 j + zbv (X 1104 w) j))) := by
      rw [q_L_isHarness_1215]
      simp (disch := first | assumption | omega) only [↓reduceIte, l_0, l_1, l_2, l_3, l_4, l_5, l_6, l_7, l_8, l_9, l_10, l_12, l_16, l_24, l_31, l_32, l_48, l_96, l_99, l_100, l_150, l_180, l_200, l_240, l_255, l_260, l_384, l_400, l_999, l_5000, l_9999, l_1000000, l_1000000000, l_11, l_13, l_14, l_15, l_17, l_18, l_19, l_20, l_21, l_22, l_23, l_25, l_26, l_28, l_30, l_34, l_38, l_42, l_44, l_54, l_60, l_64, l_81, l_90, l_101, l_103, l_110, l_120, l_128, l_140, l_256, l_401, l_403, l_450, l_512, l_853, l_983, l_1000, l_1001, l_2048, l_3000000, l_2000000, l_4096, l_5001, l_5002, l_10000, l_10001, l_32767, l_32768, l_60000, l_2147483647, zJ_lt, zJ_le, zJ_eq, zJ_add, zJ_sub, zJ_mul, zJ_neg, zJ_dv, t_I, t_Ie, t_R, t_Re, t_N, t_Nn, t_V, t_Ve, t_b, t_x, t_w, e_0, e_1, e_2, e_3, ↓t_0, ↓t_1, t_00, t_11, if_true, if_false, ite_not, not_false_eq_true, not_true_eq_false, Int.reduceEq, Int.reduceLT, Int.reduceLE, Int.reduceNeg, Nat.reduceEqDiff, Bool.false_eq_true, e1, lu_ hL, ly_ hL, ej, e4, zbv_J, su_ hL]
    rw [hst, ih (j + 1) _ (fun g hg => by
      funext i
      rw [wu_ne hg, hf g hg]) (fun i hi => by rw [wu_ni (by omega)]; exact hj i (by omega)) (by omega) (by omega), zpl_s (by omega) ej]
theorem H_pull (hZ : zLA G t Y n X) (h1 : 0 ≤ q ∧ q < 60000) : zgL G t Y n s (ev_ G 218 1163 [.ref (wA Y 13 0), .ref (wA Y 15 600), .ref (wA Y 15 601), .ref (wA Y 15 602), .ref (wA Y 15 603), .ref (wA Y 15 604), .ref (wA Y 15 613), .int (zJ k), .int (zJ q), .int (zJ r), .int (zJ f), .int (zJ o), .int (zJ a), zU, zU, zU, zU, zU, zU, zU, zU, zU, zU, zU] [] (wd Y n s X)) := by
  have hZ' := hZ
  obtain ⟨hY, hG, hI, hK⟩ := hZ
  obtain ⟨pg, pb, pc, pw, pr, ph, ps, pf⟩ := id hK
  have hL := wY_A hY
  have hQ0 := hY.2.1
  have hn0 := hI.1.1
  have hn2 : 0 ≤ X 410 0 ∧ X 410 0 ≤ 24 := by
    have := hI.2.2.2.1.1
    have := hY.2.2.2.1
    omega
  have e0 : ¬X 410 0 + 1 = 0 := by omega
  have b1 : 0 ≤ q % (X 410 0 + 1) ∧ q % (X 410 0 + 1) < X 410 0 + 1 := ⟨Int.emod_nonneg _ e0, Int.emod_lt_of_pos _ (by omega)⟩
  have s1 : ev_ G 218 1163 [.ref (wA Y 13 0), .ref (wA Y 15 600), .ref (wA Y 15 601), .ref (wA Y 15 602), .ref (wA Y 15 603), .ref (wA Y 15 604), .ref (wA Y 15 613), .int (zJ k), .int (zJ q), .int (zJ r), .int (zJ f), .int (zJ o), .int (zJ a), zU, zU, zU, zU, zU, zU, zU, zU, zU, zU, zU] [] (wd Y n s X) = ev_ G 218 1188 [.ref (wA Y 13 0), .ref (wA Y 15 600), .ref (wA Y 15 601), .ref (wA Y 15 602), .ref (wA Y 15 603), .ref (wA Y 15 604), .ref (wA Y 15 613), .int (zJ k), .int (zJ q), .int (zJ r), .int (zJ f), .int (zJ o), .int (zJ a), .int (zJ (q % (X 410 0 + 1))), zU, zU, zU, zU, zU, zU, zU, zU, zU, zU] [.int (zJ (zB (q % (X 410 0 + 1) < X 410 0)))] (wd Y n s X) := by
    rw [q_L_isHarness_1163]
    by_cases k1 : X 410 0 ≤ q % (X 410 0 + 1)
    · rw [zB_0 (by omega)]
      simp (disch := first | assumption | omega) only [↓reduceIte, l_0, l_1, l_2, l_3, l_4, l_5, l_6, l_7, l_8, l_9, l_10, l_12, l_16, l_24, l_31, l_32, l_48, l_96, l_99, l_100, l_150, l_180, l_200, l_240, l_255, l_260, l_384, l_400, l_999, l_5000, l_9999, l_1000000, l_1000000000, l_11, l_13, l_14, l_15, l_17, l_18, l_19, l_20, l_21, l_22, l_23, l_25, l_26, l_28, l_30, l_34, l_38, l_42, l_44, l_54, l_60, l_64, l_81, l_90, l_101, l_103, l_110, l_120, l_128, l_140, l_256, l_401, l_403, l_450, l_512, l_853, l_983, l_1000, l_1001, l_2048, l_3000000, l_2000000, l_4096, l_5001, l_5002, l_10000, l_10001, l_32767, l_32768, l_60000, l_2147483647, zJ_lt, zJ_le, zJ_eq, zJ_add, zJ_sub, zJ_mul, zJ_neg, zJ_dv, t_I, t_Ie, t_R, t_Re, t_N, t_Nn, t_V, t_Ve, t_b, t_x, t_w, e_0, e_1, e_2, e_3, ↓t_0, ↓t_1, t_00, t_11, if_true, if_false, ite_not, not_false_eq_true, not_true_eq_false, Int.reduceEq, Int.reduceLT, Int.reduceLE, Int.reduceNeg, Nat.reduceEqDiff, Bool.false_eq_true, zem, lg_ hL, pg.2.2.1, e0, k1]
    · rw [zB_1 (by omega)]
      simp (disch := first | assumption | omega) only [↓reduceIte, l_0, l_1, l_2, l_3, l_4, l_5, l_6, l_7, l_8, l_9, l_10, l_12, l_16, l_24, l_31, l_32, l_48, l_96, l_99, l_100, l_150, l_180, l_200, l_240, l_255, l_260, l_384, l_400, l_999, l_5000, l_9999, l_1000000, l_1000000000, l_11, l_13, l_14, l_15, l_17, l_18, l_19, l_20, l_21, l_22, l_23, l_25, l_26, l_28, l_30, l_34, l_38, l_42, l_44, l_54, l_60, l_64, l_81, l_90, l_101, l_103, l_110, l_120, l_128, l_140, l_256, l_401, l_403, l_450, l_512, l_853, l_983, l_1000, l_1001, l_2048, l_3000000, l_2000000, l_4096, l_5001, l_5002, l_10000, l_10001, l_32767, l_32768, l_60000, l_2147483647, zJ_lt, zJ_le, zJ_eq, zJ_add, zJ_sub, zJ_mul, zJ_neg, zJ_dv, t_I, t_Ie, t_R, t_Re, t_N, t_Nn, t_V, t_Ve, t_b, t_x, t_w, e_0, e_1, e_2, e_3, ↓t_0, ↓t_1, t_00, t_11, if_true, if_false, ite_not, not_false_eq_true, not_true_eq_false, Int.reduceEq, Int.reduceLT, Int.reduceLE, Int.reduceNeg, Nat.reduceEqDiff, Bool.false_eq_true, zem, lg_ hL, pg.2.2.1, e0, k1]
  rw [s1]
  generalize q % (X 410 0 + 1) = w at b1
  have hno : ∀ c : Int, ev_ G 218 1215 [.ref (wA Y 13 0), .ref (wA Y 15 600), .ref (wA Y 15 601), .ref (wA Y 15 602), .ref (wA Y 15 603), .ref (wA Y 15 604), .ref (wA Y 15 613), .int (zJ k), .int (zJ q), .int (zJ r), .int (zJ f), .int (zJ o), .int (zJ a), .int (zJ w), .int (zJ c), .int (zJ 0), .int (zJ 0), zU, zU, zU, zU, zU, zU, zU] [] (wd Y n s X) = ev_ G 218 1277 [.ref (wA Y 13 0), .ref (wA Y 15 600), .ref (wA Y 15 601), .ref (wA Y 15 602), .ref (wA Y 15 603), .ref (wA Y 15 604), .ref (wA Y 15 613), .int (zJ k), .int (zJ q), .int (zJ r), .int (zJ f), .int (zJ o), .int (zJ a), .int (zJ w), .int (zJ c), .int (zJ 0), .int (zJ 0), zU, zU, zU, zU, zU, zU, zU] [.int (zJ 0), .int (zJ (X 1103 24)), .int (zJ 24), .ref (wA Y 15 603)] (wd Y n s X) := by
    intro c
    rw [q_L_isHarness_1215]
    simp (disch := first | assumption | omega) only [↓reduceIte, l_0, l_1, l_2, l_3, l_4, l_5, l_6, l_7, l_8, l_9, l_10, l_12, l_16, l_24, l_31, l_32, l_48, l_96, l_99, l_100, l_150, l_180, l_200, l_240, l_255, l_260, l_384, l_400, l_999, l_5000, l_9999, l_1000000, l_1000000000, l_11, l_13, l_14, l_15, l_17, l_18, l_19, l_20, l_21, l_22, l_23, l_25, l_26, l_28, l_30, l_34, l_38, l_42, l_44, l_54, l_60, l_64, l_81, l_90, l_101, l_103, l_110, l_120, l_128, l_140, l_256, l_401, l_403, l_450, l_512, l_853, l_983, l_1000, l_1001, l_2048, l_3000000, l_2000000, l_4096, l_5001, l_5002, l_10000, l_10001, l_32767, l_32768, l_60000, l_2147483647, zJ_lt, zJ_le, zJ_eq, zJ_add, zJ_sub, zJ_mul, zJ_neg, zJ_dv, t_I, t_Ie, t_R, t_Re, t_N, t_Nn, t_V, t_Ve, t_b, t_x, t_w, e_0, e_1, e_2, e_3, ↓t_0, ↓t_1, t_00, t_11, if_true, if_false, ite_not, not_false_eq_true, not_true_eq_false, Int.reduceEq, Int.reduceLT, Int.reduceLE, Int.reduceNeg, Nat.reduceEqDiff, Bool.false_eq_true]
    rw [q_L_isHarness_1250]
    simp (disch := first | assumption | omega) only [↓reduceIte, l_0, l_1, l_2, l_3, l_4, l_5, l_6, l_7, l_8, l_9, l_10, l_12, l_16, l_24, l_31, l_32, l_48, l_96, l_99, l_100, l_150, l_180, l_200, l_240, l_255, l_260, l_384, l_400, l_999, l_5000, l_9999, l_1000000, l_1000000000, l_11, l_13, l_14, l_15, l_17, l_18, l_19, l_20, l_21, l_22, l_23, l_25, l_26, l_28, l_30, l_34, l_38, l_42, l_44, l_54, l_60, l_64, l_81, l_90, l_101, l_103, l_110, l_120, l_128, l_140, l_256, l_401, l_403, l_450, l_512, l_853, l_983, l_1000, l_1001, l_2048, l_3000000, l_2000000, l_4096, l_5001, l_5002, l_10000, l_10001, l_32767, l_32768, l_60000, l_2147483647, zJ_lt, zJ_le, zJ_eq, zJ_add, zJ_sub, zJ_mul, zJ_neg, zJ_dv, t_I, t_Ie, t_R, t_Re, t_N, t_Nn, t_V, t_Ve, t_b, t_x, t_w, e_0, e_1, e_2, e_3, ↓t_0, ↓t_1, t_00, t_11, if_true, if_false, ite_not, not_false_eq_true, not_true_eq_false, Int.reduceEq, Int.reduceLT, Int.reduceLE, Int.reduceNeg, Nat.reduceEqDiff, Bool.false_eq_true, lw_ hL]
  have hX0 : wu X 1103 24 (X 1103 24) = X := wu_self
  by_cases kA : w < X 410 0
  · obtain ⟨-, r1, r2, r3, r4, r5, r6⟩ := pW_r hZ' (k := w) ⟨b1.1, kA⟩
    obtain ⟨w1, w2, w3, w4⟩ := pw.1 w b1.1 kA
    rw [zB_1 kA]
    by_cases kB : X 1011 w = 0
    · have m1 : ¬32768 ≤ X 1103 w := by omega
      have s2 : ev_ G 218 1188 [.ref (wA Y 13 0), .ref (wA Y 15 600), .ref (wA Y 15 601), .ref (wA Y 15 602), .ref (wA Y 15 603), .ref (wA Y 15 604), .ref (wA Y 15 613), .int (zJ k), .int (zJ q), .int (zJ r), .int (zJ f), .int (zJ o), .int (zJ a), .int (zJ w), zU, zU, zU, zU, zU, zU, zU, zU, zU, zU] [.int (zJ 1)] (wd Y n s X) = ev_ G 218 1215 [.ref (wA Y 13 0), .ref (wA Y 15 600), .ref (wA Y 15 601), .ref (wA Y 15 602), .ref (wA Y 15 603), .ref (wA Y 15 604), .ref (wA Y 15 613), .int (zJ k), .int (zJ q), .int (zJ r), .int (zJ f), .int (zJ o), .int (zJ a), .int (zJ w), .int (zJ 1), .int (zJ 1), .int (zJ 0), zU, zU, zU, zU, zU, zU, zU] [] (wd Y n s X) := by
        rw [q_L_isHarness_1188]
        simp (disch := first | assumption | omega) only [↓reduceIte, l_0, l_1, l_2, l_3, l_4, l_5, l_6, l_7, l_8, l_9, l_10, l_12, l_16, l_24, l_31, l_32, l_48, l_96, l_99, l_100, l_150, l_180, l_200, l_240, l_255, l_260, l_384, l_400, l_999, l_5000, l_9999, l_1000000, l_1000000000, l_11, l_13, l_14, l_15, l_17, l_18, l_19, l_20, l_21, l_22, l_23, l_25, l_26, l_28, l_30, l_34, l_38, l_42, l_44, l_54, l_60, l_64, l_81, l_90, l_101, l_103, l_110, l_120, l_128, l_140, l_256, l_401, l_403, l_450, l_512, l_853, l_983, l_1000, l_1001, l_2048, l_3000000, l_2000000, l_4096, l_5001, l_5002, l_10000, l_10001, l_32767, l_32768, l_60000, l_2147483647, zJ_lt, zJ_le, zJ_eq, zJ_add, zJ_sub, zJ_mul, zJ_neg, zJ_dv, t_I, t_Ie, t_R, t_Re, t_N, t_Nn, t_V, t_Ve, t_b, t_x, t_w, e_0, e_1, e_2, e_3, ↓t_0, ↓t_1, t_00, t_11, if_true, if_false, ite_not, not_false_eq_true, not_true_eq_false, Int.reduceEq, Int.reduceLT, Int.reduceLE, Int.reduceNeg, Nat.reduceEqDiff, Bool.false_eq_true, lw_ hL, m1]
      rw [s2, H_1215 hY (by omega) 16 0 X (fun _ _ => rfl) (fun _ _ => rfl) (by decide) (by decide)]
      generalize hXs : zpl X X w 0 = Xs
      have hs1 : ∀ j, Xs 1101 j = if 0 ≤ j ∧ j < 16 then X 1101 j + zbv (X 1104 w) j else X 1101 j := fun j => by
        rw [← hXs]
        show (if (1101 : Int) = 1101 ∧ 0 ≤ j ∧ j < 16 then _ else X 1101 j) = _
        by_cases g : 0 ≤ j ∧ j < 16
        · rw [if_pos ⟨rfl, g⟩, if_pos g]
        · rw [if_neg (fun h => g h.2), if_neg g]
      have hsn : ∀ f, f ≠ 1101 → Xs f = X f := fun f hf => by
        rw [← hXs]
        funext j
        exact if_neg (fun g => hf g.1)
      rw [q_L_isHarness_1250]
      simp (disch := first | assumption | omega) only [↓reduceIte, l_0, l_1, l_2, l_3, l_4, l_5, l_6, l_7, l_8, l_9, l_10, l_12, l_16, l_24, l_31, l_32, l_48, l_96, l_99, l_100, l_150, l_180, l_200, l_240, l_255, l_260, l_384, l_400, l_999, l_5000, l_9999, l_1000000, l_1000000000, l_11, l_13, l_14, l_15, l_17, l_18, l_19, l_20, l_21, l_22, l_23, l_25, l_26, l_28, l_30, l_34, l_38, l_42, l_44, l_54, l_60, l_64, l_81, l_90, l_101, l_103, l_110, l_120, l_128, l_140, l_256, l_401, l_403, l_450, l_512, l_853, l_983, l_1000, l_1001, l_2048, l_3000000, l_2000000, l_4096, l_5001, l_5002, l_10000, l_10001, l_32767, l_32768, l_60000, l_2147483647, zJ_lt, zJ_le, zJ_eq, zJ_add, zJ_sub, zJ_mul, zJ_neg, zJ_dv, t_I, t_Ie, t_R, t_Re, t_N, t_Nn, t_V, t_Ve, t_b, t_x, t_w, e_0, e_1, e_2, e_3, ↓t_0, ↓t_1, t_00, t_11, if_true, if_false, ite_not, not_false_eq_true, not_true_eq_false, Int.reduceEq, Int.reduceLT, Int.reduceLE, Int.reduceNeg, Nat.reduceEqDiff, Bool.false_eq_true, lw_ hL, hsn 1103 (by decide)]
      rw [q_L_isHarness_1277]
      simp (disch := first | assumption | omega) only [↓reduceIte, l_0, l_1, l_2, l_3, l_4, l_5, l_6, l_7, l_8, l_9, l_10, l_12, l_16, l_24, l_31, l_32, l_48, l_96, l_99, l_100, l_150, l_180, l_200, l_240, l_255, l_260, l_384, l_400, l_999, l_5000, l_9999, l_1000000, l_1000000000, l_11, l_13, l_14, l_15, l_17, l_18, l_19, l_20, l_21, l_22, l_23, l_25, l_26, l_28, l_30, l_34, l_38, l_42, l_44, l_54, l_60, l_64, l_81, l_90, l_101, l_103, l_110, l_120, l_128, l_140, l_256, l_401, l_403, l_450, l_512, l_853, l_983, l_1000, l_1001, l_2048, l_3000000, l_2000000, l_4096, l_5001, l_5002, l_10000, l_10001, l_32767, l_32768, l_60000, l_2147483647, zJ_lt, zJ_le, zJ_eq, zJ_add, zJ_sub, zJ_mul, zJ_neg, zJ_dv, t_I, t_Ie, t_R, t_Re, t_N, t_Nn, t_V, t_Ve, t_b, t_x, t_w, e_0, e_1, e_2, e_3, ↓t_0, ↓t_1, t_00, t_11, if_true, if_false, ite_not, not_false_eq_true, not_true_eq_false, Int.reduceEq, Int.reduceLT, Int.reduceLE, Int.reduceNeg, Nat.reduceEqDiff, Bool.false_eq_true, sw_ hL]
      generalize hX' : wu Xs 1103 w (X 1103 w + 32768) = X'
      have sX : zsame [1101, 1103] X X' := by
        rw [← hX']
        exact same_u (by decide) (fun f hf => hsn f (fun g => hf (by simp [g])))
      have gl : ∀ f, f < 1100 → X' f = X f := fun f hf => sX f (by simp; omega)
      have hI' := iAll_l gl hY.2.2.2.1.2 hY.2.2.2.2.2.1.2 hI
      refine zgL_d hG (by exact d_pull hY hG hI' (by omega)) (fun Y2 n2 m2 X2 code ans v hD h0 hE hl hY2 hG2 hI2 hle => ?_)
      unfold dPull at hD
      rw [gl 410 (by decide), gl 1011 (by decide), gl 245 (by decide), gl 400 (by decide), gl 1004 (by decide), gl 1015 (by decide), gl 1014 (by decide)] at hD
      obtain ⟨ev, e1, e2, e3, e7⟩ := (zd2_v hD h0 hE).2.2 ⟨b1.1, kA⟩ kB
      have s2 := same_t (same_m (F := [1101, 1103, 64, 84, 246, 444, 1004, 1011]) sX (by decide)) (same_m e7 (by decide))
      have g01 : ∀ j, X2 1101 j = Xs 1101 j := fun j => by
        rw [hl 1101 (by decide), ← hX', wu_ne (by decide)]
      have g03 : ∀ j, X2 1103 j = if j = w then X 1103 w + 32768 else X 1103 j := fun j => by
        rw [hl 1103 (by decide), ← hX', wu_v, hsn 1103 (by decide)]
      refine ⟨⟨pG_c pg (same_g s2 (by decide)), ?_, pC_c pc (same_g s2 (by decide)), ?_, pR_c pr (same_g s2 (by decide)), pH_c ph (same_g s2 (by decide)), pS_c ps (same_g s2 (by decide)), pF_c pf (same_g s2 (by decide))⟩, fun _ => ?_⟩
      · intro k k0 k1
        rw [s2 400 (by decide)] at k1
        rw [s2 1100 (by decide), s2 1001 (by decide), s2 1002 (by decide), s2 1003 (by decide), g01, hs1, e3 k k0 k1, if_pos (by omega), w4 k k0 (by omega)]
        have := pb k k0 k1
        exact ⟨this.1, by rw [this.2]⟩
      · refine ⟨fun k k0 k1 => ?_, fun k k0 k1 => ?_⟩
        · rw [s2 410 (by decide)] at k1
          rw [g03, s2 1012 (by decide), s2 1013 (by decide), e2, s2 1104 (by decide), s2 245 (by decide), s2 1015 (by decide), s2 1014 (by decide)]
          have a := pw.1 k k0 k1
          by_cases hk : k = w
          · rw [if_pos hk, if_pos hk]
            rw [hk] at a ⊢
            exact ⟨by omega, a.2⟩
          · rw [if_neg hk, if_neg hk]
            exact a
        · rw [s2 410 (by decide)] at k0
          rw [s2 1104 (by decide)]
          exact pw.2 k k0 k1
      · have hLv := wY_A hY2
        rw [wA_l hle hL (j := 604) (by decide) (by decide)]
        simp (disch := first | assumption | omega) only [↓reduceIte, l_0, l_1, l_2, l_3, l_4, l_5, l_6, l_7, l_8, l_9, l_10, l_12, l_16, l_24, l_31, l_32, l_48, l_96, l_99, l_100, l_150, l_180, l_200, l_240, l_255, l_260, l_384, l_400, l_999, l_5000, l_9999, l_1000000, l_1000000000, l_11, l_13, l_14, l_15, l_17, l_18, l_19, l_20, l_21, l_22, l_23, l_25, l_26, l_28, l_30, l_34, l_38, l_42, l_44, l_54, l_60, l_64, l_81, l_90, l_101, l_103, l_110, l_120, l_128, l_140, l_256, l_401, l_403, l_450, l_512, l_853, l_983, l_1000, l_1001, l_2048, l_3000000, l_2000000, l_4096, l_5001, l_5002, l_10000, l_10001, l_32767, l_32768, l_60000, l_2147483647, zJ_lt, zJ_le, zJ_eq, zJ_add, zJ_sub, zJ_mul, zJ_neg, zJ_dv, t_I, t_Ie, t_R, t_Re, t_N, t_Nn, t_V, t_Ve, t_b, t_x, t_w, e_0, e_1, e_2, e_3, ↓t_0, ↓t_1, t_00, t_11, if_true, if_false, ite_not, not_false_eq_true, not_true_eq_false, Int.reduceEq, Int.reduceLT, Int.reduceLE, Int.reduceNeg, Nat.reduceEqDiff, Bool.false_eq_true, ev, e1, ly_ hLv, s2 1104 (by decide), w2]
    · have m1 : 32768 ≤ X 1103 w := by omega
      have s2 : ev_ G 218 1188 [.ref (wA Y 13 0), .ref (wA Y 15 600), .ref (wA Y 15 601), .ref (wA Y 15 602), .ref (wA Y 15 603), .ref (wA Y 15 604), .ref (wA Y 15 613), .int (zJ k), .int (zJ q), .int (zJ r), .int (zJ f), .int (zJ o), .int (zJ a), .int (zJ w), zU, zU, zU, zU, zU, zU, zU, zU, zU, zU] [.int (zJ 1)] (wd Y n s X) = ev_ G 218 1215 [.ref (wA Y 13 0), .ref (wA Y 15 600), .ref (wA Y 15 601), .ref (wA Y 15 602), .ref (wA Y 15 603), .ref (wA Y 15 604), .ref (wA Y 15 613), .int (zJ k), .int (zJ q), .int (zJ r), .int (zJ f), .int (zJ o), .int (zJ a), .int (zJ w), .int (zJ 1), .int (zJ 0), .int (zJ 0), zU, zU, zU, zU, zU, zU, zU] [] (wd Y n s X) := by
        rw [q_L_isHarness_1188]
        simp (disch := first | assumption | omega) only [↓reduceIte, l_0, l_1, l_2, l_3, l_4, l_5, l_6, l_7, l_8, l_9, l_10, l_12, l_16, l_24, l_31, l_32, l_48, l_96, l_99, l_100, l_150, l_180, l_200, l_240, l_255, l_260, l_384, l_400, l_999, l_5000, l_9999, l_1000000, l_1000000000, l_11, l_13, l_14, l_15, l_17, l_18, l_19, l_20, l_21, l_22, l_23, l_25, l_26, l_28, l_30, l_34, l_38, l_42, l_44, l_54, l_60, l_64, l_81, l_90, l_101, l_103, l_110, l_120, l_128, l_140, l_256, l_401, l_403, l_450, l_512, l_853, l_983, l_1000, l_1001, l_2048, l_3000000, l_2000000, l_4096, l_5001, l_5002, l_10000, l_10001, l_32767, l_32768, l_60000, l_2147483647, zJ_lt, zJ_le, zJ_eq, zJ_add, zJ_sub, zJ_mul, zJ_neg, zJ_dv, t_I, t_Ie, t_R, t_Re, t_N, t_Nn, t_V, t_Ve, t_b, t_x, t_w, e_0, e_1, e_2, e_3, ↓t_0, ↓t_1, t_00, t_11, if_true, if_false, ite_not, not_false_eq_true, not_true_eq_false, Int.reduceEq, Int.reduceLT, Int.reduceLE, Int.reduceNeg, Nat.reduceEqDiff, Bool.false_eq_true, lw_ hL, m1]
      rw [s2, hno, q_L_isHarness_1277]
      simp (disch := first | assumption | omega) only [↓reduceIte, l_0, l_1, l_2, l_3, l_4, l_5, l_6, l_7, l_8, l_9, l_10, l_12, l_16, l_24, l_31, l_32, l_48, l_96, l_99, l_100, l_150, l_180, l_200, l_240, l_255, l_260, l_384, l_400, l_999, l_5000, l_9999, l_1000000, l_1000000000, l_11, l_13, l_14, l_15, l_17, l_18, l_19, l_20, l_21, l_22, l_23, l_25, l_26, l_28, l_30, l_34, l_38, l_42, l_44, l_54, l_60, l_64, l_81, l_90, l_101, l_103, l_110, l_120, l_128, l_140, l_256, l_401, l_403, l_450, l_512, l_853, l_983, l_1000, l_1001, l_2048, l_3000000, l_2000000, l_4096, l_5001, l_5002, l_10000, l_10001, l_32767, l_32768, l_60000, l_2147483647, zJ_lt, zJ_le, zJ_eq, zJ_add, zJ_sub, zJ_mul, zJ_neg, zJ_dv, t_I, t_Ie, t_R, t_Re, t_N, t_Nn, t_V, t_Ve, t_b, t_x, t_w, e_0, e_1, e_2, e_3, ↓t_0, ↓t_1, t_00, t_11, if_true, if_false, ite_not, not_false_eq_true, not_true_eq_false, Int.reduceEq, Int.reduceLT, Int.reduceLE, Int.reduceNeg, Nat.reduceEqDiff, Bool.false_eq_true, sw_ hL, Int.add_zero, hX0]
      refine zgL_d hG (by exact d_pull hY hG hI (by omega)) (fun Y2 n2 m2 X2 code ans v hD h0 hE hl hY2 hG2 hI2 hle => ?_)
      unfold dPull at hD
      obtain ⟨ev, e1⟩ := (zd2_v hD h0 hE).2.1 ⟨b1.1, kA⟩ kB
      refine ⟨pK_s e1 (by decide) hK, fun _ => ?_⟩
      simp (disch := first | assumption | omega) only [↓reduceIte, l_0, l_1, l_2, l_3, l_4, l_5, l_6, l_7, l_8, l_9, l_10, l_12, l_16, l_24, l_31, l_32, l_48, l_96, l_99, l_100, l_150, l_180, l_200, l_240, l_255, l_260, l_384, l_400, l_999, l_5000, l_9999, l_1000000, l_1000000000, l_11, l_13, l_14, l_15, l_17, l_18, l_19, l_20, l_21, l_22, l_23, l_25, l_26, l_28, l_30, l_34, l_38, l_42, l_44, l_54, l_60, l_64, l_81, l_90, l_101, l_103, l_110, l_120, l_128, l_140, l_256, l_401, l_403, l_450, l_512, l_853, l_983, l_1000, l_1001, l_2048, l_3000000, l_2000000, l_4096, l_5001, l_5002, l_10000, l_10001, l_32767, l_32768, l_60000, l_2147483647, zJ_lt, zJ_le, zJ_eq, zJ_add, zJ_sub, zJ_mul, zJ_neg, zJ_dv, t_I, t_Ie, t_R, t_Re, t_N, t_Nn, t_V, t_Ve, t_b, t_x, t_w, e_0, e_1, e_2, e_3, ↓t_0, ↓t_1, t_00, t_11, if_true, if_false, ite_not, not_false_eq_true, not_true_eq_false, Int.reduceEq, Int.reduceLT, Int.reduceLE, Int.reduceNeg, Nat.reduceEqDiff, Bool.false_eq_true, ev, zrv_2]
  · rw [zB_0 kA]
    have s2 : ev_ G 218 1188 [.ref (wA Y 13 0), .ref (wA Y 15 600), .ref (wA Y 15 601), .ref (wA Y 15 602), .ref (wA Y 15 603), .ref (wA Y 15 604), .ref (wA Y 15 613), .int (zJ k), .int (zJ q), .int (zJ r), .int (zJ f), .int (zJ o), .int (zJ a), .int (zJ w), zU, zU, zU, zU, zU, zU, zU, zU, zU, zU] [.int (zJ 0)] (wd Y n s X) = ev_ G 218 1215 [.ref (wA Y 13 0), .ref (wA Y 15 600), .ref (wA Y 15 601), .ref (wA Y 15 602), .ref (wA Y 15 603), .ref (wA Y 15 604), .ref (wA Y 15 613), .int (zJ k), .int (zJ q), .int (zJ r), .int (zJ f), .int (zJ o), .int (zJ a), .int (zJ w), .int (zJ 0), .int (zJ 0), .int (zJ 0), zU, zU, zU, zU, zU, zU, zU] [] (wd Y n s X) := by
      rw [q_L_isHarness_1188]
      simp (disch := first | assumption | omega) only [↓reduceIte, l_0, l_1, l_2, l_3, l_4, l_5, l_6, l_7, l_8, l_9, l_10, l_12, l_16, l_24, l_31, l_32, l_48, l_96, l_99, l_100, l_150, l_180, l_200, l_240, l_255, l_260, l_384, l_400, l_999, l_5000, l_9999, l_1000000, l_1000000000, l_11, l_13, l_14, l_15, l_17, l_18, l_19, l_20, l_21, l_22, l_23, l_25, l_26, l_28, l_30, l_34, l_38, l_42, l_44, l_54, l_60, l_64, l_81, l_90, l_101, l_103, l_110, l_120, l_128, l_140, l_256, l_401, l_403, l_450, l_512, l_853, l_983, l_1000, l_1001, l_2048, l_3000000, l_2000000, l_4096, l_5001, l_5002, l_10000, l_10001, l_32767, l_32768, l_60000, l_2147483647, zJ_lt, zJ_le, zJ_eq, zJ_add, zJ_sub, zJ_mul, zJ_neg, zJ_dv, t_I, t_Ie, t_R, t_Re, t_N, t_Nn, t_V, t_Ve, t_b, t_x, t_w, e_0, e_1, e_2, e_3, ↓t_0, ↓t_1, t_00, t_11, if_true, if_false, ite_not, not_false_eq_true, not_true_eq_false, Int.reduceEq, Int.reduceLT, Int.reduceLE, Int.reduceNeg, Nat.reduceEqDiff, Bool.false_eq_true]
    rw [s2, hno, q_L_isHarness_1277]
    simp (disch := first | assumption | omega) only [↓reduceIte, l_0, l_1, l_2, l_3, l_4, l_5, l_6, l_7, l_8, l_9, l_10, l_12, l_16, l_24, l_31, l_32, l_48, l_96, l_99, l_100, l_150, l_180, l_200, l_240, l_255, l_260, l_384, l_400, l_999, l_5000, l_9999, l_1000000, l_1000000000, l_11, l_13, l_14, l_15, l_17, l_18, l_19, l_20, l_21, l_22, l_23, l_25, l_26, l_28, l_30, l_34, l_38, l_42, l_44, l_54, l_60, l_64, l_81, l_90, l_101, l_103, l_110, l_120, l_128, l_140, l_256, l_401, l_403, l_450, l_512, l_853, l_983, l_1000, l_1001, l_2048, l_3000000, l_2000000, l_4096, l_5001, l_5002, l_10000, l_10001, l_32767, l_32768, l_60000, l_2147483647, zJ_lt, zJ_le, zJ_eq, zJ_add, zJ_sub, zJ_mul, zJ_neg, zJ_dv, t_I, t_Ie, t_R, t_Re, t_N, t_Nn, t_V, t_Ve, t_b, t_x, t_w, e_0, e_1, e_2, e_3, ↓t_0, ↓t_1, t_00, t_11, if_true, if_false, ite_not, not_false_eq_true, not_true_eq_false, Int.reduceEq, Int.reduceLT, Int.reduceLE, Int.reduceNeg, Nat.reduceEqDiff, Bool.false_eq_true, sw_ hL, Int.add_zero, hX0]
    refine zgL_d hG (by exact d_pull hY hG hI (by omega)) (fun Y2 n2 m2 X2 code ans v hD h0 hE hl hY2 hG2 hI2 hle => ?_)
    unfold dPull at hD
    obtain ⟨ev, e1⟩ := (zd2_v hD h0 hE).1 (by omega)
    refine ⟨pK_s e1 (by decide) hK, fun _ => ?_⟩
    simp (disch := first | assumption | omega) only [↓reduceIte, l_0, l_1, l_2, l_3, l_4, l_5, l_6, l_7, l_8, l_9, l_10, l_12, l_16, l_24, l_31, l_32, l_48, l_96, l_99, l_100, l_150, l_180, l_200, l_240, l_255, l_260, l_384, l_400, l_999, l_5000, l_9999, l_1000000, l_1000000000, l_11, l_13, l_14, l_15, l_17, l_18, l_19, l_20, l_21, l_22, l_23, l_25, l_26, l_28, l_30, l_34, l_38, l_42, l_44, l_54, l_60, l_64, l_81, l_90, l_101, l_103, l_110, l_120, l_128, l_140, l_256, l_401, l_403, l_450, l_512, l_853, l_983, l_1000, l_1001, l_2048, l_3000000, l_2000000, l_4096, l_5001, l_5002, l_10000, l_10001, l_32767, l_32768, l_60000, l_2147483647, zJ_lt, zJ_le, zJ_eq, zJ_add, zJ_sub, zJ_mul, zJ_neg, zJ_dv, t_I, t_Ie, t_R, t_Re, t_N, t_Nn, t_V, t_Ve, t_b, t_x, t_w, e_0, e_1, e_2, e_3, ↓t_0, ↓t_1, t_00, t_11, if_true, if_false, ite_not, not_false_eq_true, not_true_eq_false, Int.reduceEq, Int.reduceLT, Int.reduceLE, Int.reduceNeg, Nat.reduceEqDiff, Bool.false_eq_true, ev, zrv_0]
end ZL
