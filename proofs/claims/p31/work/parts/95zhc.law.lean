/-! THE LAW, 11c: a wire, on -/
def zIw (X X' : zX) (g2 : Int) (b : Nat → Int) (L k : Nat) : Prop := (∀ f, f ≠ 1101 → f ≠ 1104 → X' f = X f) ∧ (∀ j, j ≠ g2 → X' 1104 j = X 1104 j) ∧ (∀ i, 0 ≤ i → i < 16 → zbv (X' 1104 g2) i = zsm (fun m => zB (b m.toNat = i)) 0 (min k L)) ∧ ∀ i, 0 ≤ i → i < 16 → X' 1101 i = X 1101 i - zsm (fun m => zB (b m.toNat = i)) 0 (min k L)
section ZL
variable {Y : zLy} {n s : Nat} {X : zX} {G : Nat × Nat} {X' : zX} {t p q r j f o u z A F c g2 best : Int} {E : List Int} {b : Nat → Int} {L k a : Nat} {R : Int → Int}
theorem zIw_y (h : zIw X X' g2 b L k) (hk : k < L) (hb : ∀ j : Nat, j < L → 0 ≤ b j ∧ b j < 16) (hne : ∀ i j : Nat, i < j → j < L → b i ≠ b j) : zIw X (wu (wu X' 1104 g2 (zbO (X' 1104 g2) (b k))) 1101 (b k) (X' 1101 (b k) - 1)) g2 b L (k + 1) := by
  obtain ⟨h1, h2, h3, h4⟩ := h
  have hbk := hb k hk
  have e1 : min k L = k := by omega
  have e2 : min (k + 1) L = k + 1 := by omega
  rw [e1] at h3 h4
  have hz : ∀ i : Int, zsm (fun m => zB (b m.toNat = i)) 0 (k + 1) = zsm (fun m => zB (b m.toNat = i)) 0 k + zB (b k = i) := fun i => by
    rw [zsm_sn]
    show _ + zB (b ((0 : Int) + (k : Int)).toNat = i) = _
    rw [show ((0 : Int) + (k : Int)).toNat = k by omega]
  have h0 : zsm (fun m => zB (b m.toNat = b k)) 0 k = 0 := by
    have := zsm_tail (f := fun m => zB (b m.toNat = b k)) 0 k 0 (fun j a1 a2 => by
      show zB (b j.toNat = b k) = 0
      exact zB_0 (hne j.toNat k (by omega) hk))
    rw [Nat.zero_add] at this
    exact this
  refine ⟨fun f f1 f2 => ?_, fun j hj => ?_, fun i i0 i1 => ?_, fun i i0 i1 => ?_⟩
  · rw [← h1 f f1 f2]
    funext j
    rw [wu_ne f1, wu_ne f2]
  · rw [wu_ne (by decide), wu_ni hj, h2 j hj]
  · rw [e2, hz, wu_ne (by decide), wu_eq, zbv_g ⟨i0, i1⟩, zbO_g hbk (by omega)]
    have h3i := h3 i i0 i1
    rw [zbv_g ⟨i0, i1⟩] at h3i
    by_cases g : b k = i
    · have hd : decide (i.toNat = (b k).toNat) = true := decide_eq_true (by omega)
      rw [zB_1 g, hd, Bool.or_true, if_pos rfl, ← g, h0]
      rfl
    · have hd : decide (i.toNat = (b k).toNat) = false := decide_eq_false (by omega)
      rw [zB_0 g, hd, Bool.or_false, h3i, Int.add_zero]
  · rw [e2, hz, wu_v]
    have h4i := h4 i i0 i1
    by_cases g : i = b k
    · rw [if_pos g, zB_1 g.symm, ← g, h4i]
      omega
    · rw [if_neg g, zB_0 (fun g' => g g'.symm), wu_ne (by decide), h4i, Int.add_zero]
theorem zIw_n (h : zIw X X' g2 b L k) (hk : ¬k < L) : zIw X (wu X' 1101 16 (X' 1101 16 - 1)) g2 b L (k + 1) := by
  obtain ⟨h1, h2, h3, h4⟩ := h
  have e1 : min k L = L := by omega
  have e2 : min (k + 1) L = L := by omega
  rw [e1] at h3 h4
  refine ⟨fun f f1 f2 => ?_, fun j hj => ?_, fun i i0 i1 => ?_, fun i i0 i1 => ?_⟩
  · rw [← h1 f f1 f2]
    funext j
    rw [wu_ne f1]
  · rw [wu_ne (by decide), h2 j hj]
  · rw [e2, wu_ne (by decide), h3 i i0 i1]
  · rw [e2, wu_ni (by omega), h4 i i0 i1]
theorem H_1005 (hY : wY Y n) (hG : Y.1 = G.1) (hI : iAll t Y.2.2.2.2 X) (hL7 : L ≤ 7) (hRow : Y.2.1 a = some (za 8 R)) (hRole : (Y.2.2.1 a).1 = 0) (hR : ∀ k : Nat, k < 8 → R k = if k < L then b k else -1) (hb : ∀ j : Nat, j < L → 0 ≤ b j ∧ b j < 16) (hne : ∀ i j : Nat, i < j → j < L → b i ≠ b j) (hg : 0 ≤ g2 ∧ g2 < 24) (hgQ : g2 < Y.2.2.2.2 0 2) (h13 : X 1113 2 = g2) (h11 : X 1011 g2 = 0) (h14 : X 1014 g2 = L) (h15 : ∀ j : Nat, j < L → X 1015 (16 * g2 + j) = b j) (hbest : 0 ≤ best ∧ best ≤ 100000) : ∀ (m k : Nat) (X' : zX), k + m = 8 → zIw X X' g2 b L k → ∃ X8 : zX, zIw X X8 g2 b L 8 ∧ ev_ G 218 1005 [.ref (wA Y 13 0), .ref (wA Y 15 600), .ref (wA Y 15 601), .ref (wA Y 15 602), .ref (wA Y 15 603), .ref (wA Y 15 604), .ref (wA Y 15 613), .int (zJ 3), .int (zJ q), .int (zJ r), .int (zJ f), .int (zJ o), .int (zJ A), .int (zJ p), .int (zJ u), .int (zJ z), .int (zJ F), .int (zJ (8 * f + p)), .int (zJ (8 * o + u)), .int (zJ c), .ref a, .int (zJ best), .int (zJ 1), .int (zJ k)] [] (wd Y n s X') = ev_ G 218 1110 [.ref (wA Y 13 0), .ref (wA Y 15 600), .ref (wA Y 15 601), .ref (wA Y 15 602), .ref (wA Y 15 603), .ref (wA Y 15 604), .ref (wA Y 15 613), .int (zJ 3), .int (zJ q), .int (zJ r), .int (zJ f), .int (zJ o), .int (zJ A), .int (zJ p), .int (zJ u), .int (zJ z), .int (zJ F), .int (zJ (8 * f + p)), .int (zJ (8 * o + u)), .int (zJ c), .ref a, .int (zJ best), .int (zJ 1), .int (zJ 8)] [] (wd Y n s X8) := by
  have hLy := wY_A hY
  have hb0 : ¬best < 0 := by omega
  intro m
  induction m with
  | zero =>
    intro k X' hk h
    have hk8 : k = 8 := by omega
    subst hk8
    refine ⟨X', h, ?_⟩
    have e1 : (8 : Int) ≤ ((8 : Nat) : Int) := by decide
    rw [q_L_isHarness_1005]
    simp (disch := first | assumption | omega) only [↓reduceIte, l_0, l_1, l_2, l_3, l_4, l_5, l_6, l_7, l_8, l_9, l_10, l_12, l_16, l_24, l_31, l_32, l_48, l_96, l_99, l_100, l_150, l_180, l_200, l_240, l_255, l_260, l_384, l_400, l_999, l_5000, l_9999, l_1000000, l_1000000000, l_11, l_13, l_14, l_15, l_17, l_18, l_19, l_20, l_21, l_22, l_23, l_25, l_26, l_28, l_30, l_34, l_38, l_42, l_44, l_54, l_60, l_64, l_81, l_90, l_101, l_103, l_110, l_120, l_128, l_140, l_256, l_401, l_403, l_450, l_512, l_853, l_983, l_1000, l_1001, l_2048, l_3000000, l_2000000, l_4096, l_5001, l_5002, l_10000, l_10001, l_32767, l_32768, l_60000, l_2147483647, zJ_lt, zJ_le, zJ_eq, zJ_add, zJ_sub, zJ_mul, zJ_neg, zJ_dv, t_I, t_Ie, t_R, t_Re, t_N, t_Nn, t_V, t_Ve, t_b, t_x, t_w, e_0, e_1, e_2, e_3, ↓t_0, ↓t_1, t_00, t_11, if_true, if_false, ite_not, not_false_eq_true, not_true_eq_false, Int.reduceEq, Int.reduceLT, Int.reduceLE, Int.reduceNeg, Nat.reduceEqDiff, Bool.false_eq_true, e1]
    rfl
  | succ m ih =>
    intro k X' hk h
    obtain ⟨i1, i2, i3, i4⟩ := id h
    have e1 : ¬(8 : Int) ≤ (k : Int) := by omega
    have hRk := hR k (by omega)
    have hI' : iAll t Y.2.2.2.2 X' := iAll_l (fun f hf => i1 f (by omega) (by omega)) hY.2.2.2.1.2 hY.2.2.2.2.2.1.2 hI
    have h13' : X' 1113 2 = g2 := by rw [i1 1113 (by decide) (by decide)]; exact h13
    have hofw : ev_ G 207 0 [.ref (wA Y 13 0), .int (zJ 5), .int (zJ g2), .int (zJ k), .int (zJ 0), .int (zJ 0), .int (zJ 0), zU] [] (wd Y n s X') = some (.inl (some (.int (zJ (R k)))), wd Y n s X') := by
      rw [d_ofWire hY hG hI' ⟨hg.1, hgQ⟩ (by omega) (by omega), if_neg (show ¬(k : Int) = -1 by omega), i1 1011 (by decide) (by decide), i1 1014 (by decide) (by decide), i1 1015 (by decide) (by decide), hRk]
      by_cases hkL : k < L
      · rw [if_pos ⟨h11, by omega⟩, if_pos hkL, h15 k hkL]
      · rw [if_neg (fun g => hkL (by omega)), if_neg hkL]
    have hrow : ∀ X'' : zX, zld false (wd Y n s X'') a (zJ k) = some (zJ (R k)) := fun X'' => za_ld hRole hRow (by decide) (by omega) (show (k : Int) < ((8 : Nat) : Int) by omega)
    have s1 : ev_ G 218 1005 [.ref (wA Y 13 0), .ref (wA Y 15 600), .ref (wA Y 15 601), .ref (wA Y 15 602), .ref (wA Y 15 603), .ref (wA Y 15 604), .ref (wA Y 15 613), .int (zJ 3), .int (zJ q), .int (zJ r), .int (zJ f), .int (zJ o), .int (zJ A), .int (zJ p), .int (zJ u), .int (zJ z), .int (zJ F), .int (zJ (8 * f + p)), .int (zJ (8 * o + u)), .int (zJ c), .ref a, .int (zJ best), .int (zJ 1), .int (zJ k)] [] (wd Y n s X') = ev_ G 218 1049 [.ref (wA Y 13 0), .ref (wA Y 15 600), .ref (wA Y 15 601), .ref (wA Y 15 602), .ref (wA Y 15 603), .ref (wA Y 15 604), .ref (wA Y 15 613), .int (zJ 3), .int (zJ q), .int (zJ r), .int (zJ f), .int (zJ o), .int (zJ A), .int (zJ p), .int (zJ u), .int (zJ z), .int (zJ F), .int (zJ (8 * f + p)), .int (zJ (8 * o + u)), .int (zJ c), .ref a, .int (zJ best), .int (zJ 1), .int (zJ k)] [.int (zJ 1)] (wd Y n s X') := by
      rw [q_L_isHarness_1005]
      simp (disch := first | assumption | omega) only [↓reduceIte, l_0, l_1, l_2, l_3, l_4, l_5, l_6, l_7, l_8, l_9, l_10, l_12, l_16, l_24, l_31, l_32, l_48, l_96, l_99, l_100, l_150, l_180, l_200, l_240, l_255, l_260, l_384, l_400, l_999, l_5000, l_9999, l_1000000, l_1000000000, l_11, l_13, l_14, l_15, l_17, l_18, l_19, l_20, l_21, l_22, l_23, l_25, l_26, l_28, l_30, l_34, l_38, l_42, l_44, l_54, l_60, l_64, l_81, l_90, l_101, l_103, l_110, l_120, l_128, l_140, l_256, l_401, l_403, l_450, l_512, l_853, l_983, l_1000, l_1001, l_2048, l_3000000, l_2000000, l_4096, l_5001, l_5002, l_10000, l_10001, l_32767, l_32768, l_60000, l_2147483647, zJ_lt, zJ_le, zJ_eq, zJ_add, zJ_sub, zJ_mul, zJ_neg, zJ_dv, t_I, t_Ie, t_R, t_Re, t_N, t_Nn, t_V, t_Ve, t_b, t_x, t_w, e_0, e_1, e_2, e_3, ↓t_0, ↓t_1, t_00, t_11, if_true, if_false, ite_not, not_false_eq_true, not_true_eq_false, Int.reduceEq, Int.reduceLT, Int.reduceLE, Int.reduceNeg, Nat.reduceEqDiff, Bool.false_eq_true, e1, hb0, lg_ hLy, h13', hofw, hrow]
    rw [s1, q_L_isHarness_1049]
    by_cases hkL : k < L
    · rw [if_pos hkL] at hRk
      have hbk := hb k hkL
      have p0 : 0 ≤ b k := hbk.1
      obtain ⟨X8, w1, w2⟩ := ih (k + 1) _ (by omega) (zIw_y h hkL hb hne)
      refine ⟨X8, w1, Eq.trans ?_ w2⟩
      simp (disch := first | assumption | omega) only [↓reduceIte, l_0, l_1, l_2, l_3, l_4, l_5, l_6, l_7, l_8, l_9, l_10, l_12, l_16, l_24, l_31, l_32, l_48, l_96, l_99, l_100, l_150, l_180, l_200, l_240, l_255, l_260, l_384, l_400, l_999, l_5000, l_9999, l_1000000, l_1000000000, l_11, l_13, l_14, l_15, l_17, l_18, l_19, l_20, l_21, l_22, l_23, l_25, l_26, l_28, l_30, l_34, l_38, l_42, l_44, l_54, l_60, l_64, l_81, l_90, l_101, l_103, l_110, l_120, l_128, l_140, l_256, l_401, l_403, l_450, l_512, l_853, l_983, l_1000, l_1001, l_2048, l_3000000, l_2000000, l_4096, l_5001, l_5002, l_10000, l_10001, l_32767, l_32768, l_60000, l_2147483647, zJ_lt, zJ_le, zJ_eq, zJ_add, zJ_sub, zJ_mul, zJ_neg, zJ_dv, t_I, t_Ie, t_R, t_Re, t_N, t_Nn, t_V, t_Ve, t_b, t_x, t_w, e_0, e_1, e_2, e_3, ↓t_0, ↓t_1, t_00, t_11, if_true, if_false, ite_not, not_false_eq_true, not_true_eq_false, Int.reduceEq, Int.reduceLT, Int.reduceLE, Int.reduceNeg, Nat.reduceEqDiff, Bool.false_eq_true, lg_ hLy, h13', ly_ hLy, hrow, hRk, p0]
      rw [q_L_isHarness_1078]
      simp (disch := first | assumption | omega) only [↓reduceIte, l_0, l_1, l_2, l_3, l_4, l_5, l_6, l_7, l_8, l_9, l_10, l_12, l_16, l_24, l_31, l_32, l_48, l_96, l_99, l_100, l_150, l_180, l_200, l_240, l_255, l_260, l_384, l_400, l_999, l_5000, l_9999, l_1000000, l_1000000000, l_11, l_13, l_14, l_15, l_17, l_18, l_19, l_20, l_21, l_22, l_23, l_25, l_26, l_28, l_30, l_34, l_38, l_42, l_44, l_54, l_60, l_64, l_81, l_90, l_101, l_103, l_110, l_120, l_128, l_140, l_256, l_401, l_403, l_450, l_512, l_853, l_983, l_1000, l_1001, l_2048, l_3000000, l_2000000, l_4096, l_5001, l_5002, l_10000, l_10001, l_32767, l_32768, l_60000, l_2147483647, zJ_lt, zJ_le, zJ_eq, zJ_add, zJ_sub, zJ_mul, zJ_neg, zJ_dv, t_I, t_Ie, t_R, t_Re, t_N, t_Nn, t_V, t_Ve, t_b, t_x, t_w, e_0, e_1, e_2, e_3, ↓t_0, ↓t_1, t_00, t_11, if_true, if_false, ite_not, not_false_eq_true, not_true_eq_false, Int.reduceEq, Int.reduceLT, Int.reduceLE, Int.reduceNeg, Nat.reduceEqDiff, Bool.false_eq_true, sy_ hLy, zbO_e, hrow, hRk, p0, lu_ hLy, su_ hLy, wu_ne]
      rfl
    · rw [if_neg hkL] at hRk
      obtain ⟨X8, w1, w2⟩ := ih (k + 1) _ (by omega) (zIw_n h hkL)
      refine ⟨X8, w1, Eq.trans ?_ w2⟩
      have hsf : wu X' 1104 g2 (X' 1104 g2) = X' := wu_self
      simp (disch := first | assumption | omega) only [↓reduceIte, l_0, l_1, l_2, l_3, l_4, l_5, l_6, l_7, l_8, l_9, l_10, l_12, l_16, l_24, l_31, l_32, l_48, l_96, l_99, l_100, l_150, l_180, l_200, l_240, l_255, l_260, l_384, l_400, l_999, l_5000, l_9999, l_1000000, l_1000000000, l_11, l_13, l_14, l_15, l_17, l_18, l_19, l_20, l_21, l_22, l_23, l_25, l_26, l_28, l_30, l_34, l_38, l_42, l_44, l_54, l_60, l_64, l_81, l_90, l_101, l_103, l_110, l_120, l_128, l_140, l_256, l_401, l_403, l_450, l_512, l_853, l_983, l_1000, l_1001, l_2048, l_3000000, l_2000000, l_4096, l_5001, l_5002, l_10000, l_10001, l_32767, l_32768, l_60000, l_2147483647, zJ_lt, zJ_le, zJ_eq, zJ_add, zJ_sub, zJ_mul, zJ_neg, zJ_dv, t_I, t_Ie, t_R, t_Re, t_N, t_Nn, t_V, t_Ve, t_b, t_x, t_w, e_0, e_1, e_2, e_3, ↓t_0, ↓t_1, t_00, t_11, if_true, if_false, ite_not, not_false_eq_true, not_true_eq_false, Int.reduceEq, Int.reduceLT, Int.reduceLE, Int.reduceNeg, Nat.reduceEqDiff, Bool.false_eq_true, lg_ hLy, h13', ly_ hLy, hrow, hRk]
      rw [q_L_isHarness_1078]
      simp (disch := first | assumption | omega) only [↓reduceIte, l_0, l_1, l_2, l_3, l_4, l_5, l_6, l_7, l_8, l_9, l_10, l_12, l_16, l_24, l_31, l_32, l_48, l_96, l_99, l_100, l_150, l_180, l_200, l_240, l_255, l_260, l_384, l_400, l_999, l_5000, l_9999, l_1000000, l_1000000000, l_11, l_13, l_14, l_15, l_17, l_18, l_19, l_20, l_21, l_22, l_23, l_25, l_26, l_28, l_30, l_34, l_38, l_42, l_44, l_54, l_60, l_64, l_81, l_90, l_101, l_103, l_110, l_120, l_128, l_140, l_256, l_401, l_403, l_450, l_512, l_853, l_983, l_1000, l_1001, l_2048, l_3000000, l_2000000, l_4096, l_5001, l_5002, l_10000, l_10001, l_32767, l_32768, l_60000, l_2147483647, zJ_lt, zJ_le, zJ_eq, zJ_add, zJ_sub, zJ_mul, zJ_neg, zJ_dv, t_I, t_Ie, t_R, t_Re, t_N, t_Nn, t_V, t_Ve, t_b, t_x, t_w, e_0, e_1, e_2, e_3, ↓t_0, ↓t_1, t_00, t_11, if_true, if_false, ite_not, not_false_eq_true, not_true_eq_false, Int.reduceEq, Int.reduceLT, Int.reduceLE, Int.reduceNeg, Nat.reduceEqDiff, Bool.false_eq_true, sy_ hLy, or_0, hsf, hrow, hRk, lu_ hLy, su_ hLy]
      rfl
theorem H_end {x3 x4 x5 x6 x7 x8 x9 y1 y2 y3 y4 y5 y6 : Int32} {W : zW} : ev_ G 218 1005 [.ref (wA Y 13 0), .ref (wA Y 15 600), .ref (wA Y 15 601), .ref (wA Y 15 602), .ref (wA Y 15 603), .ref (wA Y 15 604), .ref (wA Y 15 613), .int x3, .int x4, .int x5, .int x6, .int x7, .int x8, .int x9, .int y1, .int y2, .int y3, .int y4, .int y5, .int y6, .ref a, .int (zJ (-1)), .int (zJ 1), .int (zJ 0)] [] W = some (.inl (some (.int (zJ 1))), W) := by
  rw [q_L_isHarness_1005]
  simp (disch := first | assumption | omega) only [↓reduceIte, l_0, l_1, l_2, l_3, l_4, l_5, l_6, l_7, l_8, l_9, l_10, l_12, l_16, l_24, l_31, l_32, l_48, l_96, l_99, l_100, l_150, l_180, l_200, l_240, l_255, l_260, l_384, l_400, l_999, l_5000, l_9999, l_1000000, l_1000000000, l_11, l_13, l_14, l_15, l_17, l_18, l_19, l_20, l_21, l_22, l_23, l_25, l_26, l_28, l_30, l_34, l_38, l_42, l_44, l_54, l_60, l_64, l_81, l_90, l_101, l_103, l_110, l_120, l_128, l_140, l_256, l_401, l_403, l_450, l_512, l_853, l_983, l_1000, l_1001, l_2048, l_3000000, l_2000000, l_4096, l_5001, l_5002, l_10000, l_10001, l_32767, l_32768, l_60000, l_2147483647, zJ_lt, zJ_le, zJ_eq, zJ_add, zJ_sub, zJ_mul, zJ_neg, zJ_dv, t_I, t_Ie, t_R, t_Re, t_N, t_Nn, t_V, t_Ve, t_b, t_x, t_w, e_0, e_1, e_2, e_3, ↓t_0, ↓t_1, t_00, t_11, if_true, if_false, ite_not, not_false_eq_true, not_true_eq_false, Int.reduceEq, Int.reduceLT, Int.reduceLE, Int.reduceNeg, Nat.reduceEqDiff, Bool.false_eq_true]
  rw [q_L_isHarness_1110, if_pos (show zJ (-1) < 0 by decide)]
  exact if_pos (by decide)
end ZL
