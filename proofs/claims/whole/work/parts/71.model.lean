/-! THE TWO SIDES, 22: the reference's loops -/
section ZM
variable {Y : zLy} {n s : Nat} {X : zX} {G : Nat × Nat} {i j : Int}
theorem m_faultsR {b f : Int} (hM : wM Y) (hb : 0 ≤ b ∧ b < 12) (hr : ∀ k, 0 ≤ k → k < 96 → 0 ≤ X 1041 k ∧ X 1041 k < 6 ∧ 0 ≤ X 1042 k ∧ X 1042 k ≤ 1) (hf : 0 ≤ f ∧ f ≤ 1) : ∀ (k : Nat) (i t : Int), 8 * b ≤ i → i + k = 8 * b + 8 → ev_ G 183 8 [.ref (wA Y 14 0), .int (zJ b), .int (zJ f), .int (zJ t), .int (zJ i)] [] (wd Y n s X) = some (.inl (some (.int (zJ (t + zsm (fun m => zB (X 1041 m ≠ 0 ∧ X 1042 m = f)) i k)))), wd Y n s X) := by
  have h14 := hM.2.1
  intro k
  induction k with
  | zero =>
    intro i t hi he
    rw [q_X12_faults_8]
    simp (disch := first | assumption | omega) only [l_0, l_1, l_2, l_3, l_4, l_5, l_6, l_7, l_8, l_9, l_10, l_12, l_16, l_24, l_31, l_32, l_48, l_96, l_99, l_100, l_150, l_180, l_200, l_240, l_255, l_260, l_384, l_400, l_999, l_5000, l_9999, l_1000000, l_1000000000, zJ_add, zJ_sub, zJ_mul, zJ_neg, zJ_lt, zJ_le, zJ_eq]
    rw [if_pos (by omega)]
    simp only [zsm, Int.add_zero]
  | succ k ih =>
    intro i t hi he
    have hx := hr i (by omega) (by omega)
    have hz : zsm (fun m => zB (X 1041 m ≠ 0 ∧ X 1042 m = f)) i (k + 1) = zB (X 1041 i ≠ 0 ∧ X 1042 i = f) + zsm (fun m => zB (X 1041 m ≠ 0 ∧ X 1042 m = f)) (i + 1) k := rfl
    rw [q_X12_faults_8]
    simp (disch := first | assumption | omega) only [l_0, l_1, l_2, l_3, l_4, l_5, l_6, l_7, l_8, l_9, l_10, l_12, l_16, l_24, l_31, l_32, l_48, l_96, l_99, l_100, l_150, l_180, l_200, l_240, l_255, l_260, l_384, l_400, l_999, l_5000, l_9999, l_1000000, l_1000000000, zJ_add, zJ_sub, zJ_mul, zJ_neg, zJ_lt, zJ_le, zJ_eq, g14_41, g14_42, t_I, t_Ie, t_R, t_Re, t_N, t_Nn, t_V, t_Ve, t_b, t_x, t_w, e_0, e_1, e_2, e_3]
    rw [if_neg (by omega), ml_41 hM (by omega) (by omega), t_b, hz]
    simp (disch := first | assumption | omega) only [zJ_lt, zJ_le, zJ_eq]
    by_cases q : X 1041 i = 0
    · rw [if_pos q, ih (i + 1) _ (by omega) (by omega), zB_0 (fun w => w.1 q), Int.zero_add, Int.add_zero]
    · rw [if_neg q, ml_42 hM (by omega) (by omega), t_b]
      simp (disch := first | assumption | omega) only [zJ_lt, zJ_le, zJ_eq]
      by_cases q' : X 1042 i = f
      · rw [if_pos q', ih (i + 1) _ (by omega) (by omega), zB_1 ⟨q, q'⟩, Int.add_assoc]
      · rw [if_neg q', ih (i + 1) _ (by omega) (by omega), zB_0 (fun w => q' w.2), Int.zero_add, Int.add_zero]
theorem m_faults {b f : Int} (hM : wM Y) (hb : 0 ≤ b ∧ b < 12) (hr : ∀ k, 0 ≤ k → k < 96 → 0 ≤ X 1041 k ∧ X 1041 k < 6 ∧ 0 ≤ X 1042 k ∧ X 1042 k ≤ 1) (hf : 0 ≤ f ∧ f ≤ 1) : ev_ G 183 0 [.ref (wA Y 14 0), .int (zJ b), .int (zJ f), zU, zU] [] (wd Y n s X) = some (.inl (some (.int (zJ (zsm (fun m => zB (X 1041 m ≠ 0 ∧ X 1042 m = f)) (8 * b) 8)))), wd Y n s X) := by
  rw [q_X12_faults_0]
  simp only [l_0, l_1, l_2, l_3, l_4, l_5, l_6, l_7, l_8, l_9, l_10, l_12, l_16, l_24, l_31, l_32, l_48, l_96, l_99, l_100, l_150, l_180, l_200, l_240, l_255, l_260, l_384, l_400, l_999, l_5000, l_9999, l_1000000, l_1000000000, zJ_add, zJ_sub, zJ_mul, zJ_neg]
  rw [m_faultsR hM hb hr hf 8 (8 * b) 0 (by omega) (by omega), Int.zero_add]
theorem m_peak2 {b m : Int} (hM : wM Y) (hm : 1 ≤ m ∧ m ≤ 100) (hh : ∀ z, 0 ≤ z → z < 4 → 0 ≤ X 1030 z ∧ X 1030 z ≤ 1000) : ∀ (c : Nat) (k x p : Int), 0 ≤ k → c + k = 12 → 0 ≤ x → x ≤ 1000 → -1 ≤ p → p ≤ 1000 → ev_ G 170 51 [.ref (wA Y 14 0), .int (zJ b), .int (zJ m), .int (zJ x), .int (zJ p), .int (zJ k)] [] (wd Y n s X) = some (.inl (some (.int (zJ (zpk (X 1030) m c k x p)))), wd Y n s X) := by
  have h14 := hM.2.1
  intro c
  induction c with
  | zero =>
    intro k x p hk he hx hx' hp hp'
    rw [q_X12_peakOf_51]
    simp (disch := first | assumption | omega) only [l_0, l_1, l_2, l_3, l_4, l_5, l_6, l_7, l_8, l_9, l_10, l_12, l_16, l_24, l_31, l_32, l_48, l_96, l_99, l_100, l_150, l_180, l_200, l_240, l_255, l_260, l_384, l_400, l_999, l_5000, l_9999, l_1000000, l_1000000000, zJ_lt, zJ_le, zJ_eq]
    rw [if_pos (by omega)]
    rfl
  | succ c ih =>
    intro k x p hk he hx hx' hp hp'
    have hb := hh (k / 3) (by omega) (by omega)
    have hd := zdv (d := X 1030 (k / 3) - x) hm.1
    have hzp : zpk (X 1030) m (c + 1) k x p = zpk (X 1030) m c (k + 1) (x + (X 1030 (k / 3) - x) / m) (max p (x + (X 1030 (k / 3) - x) / m)) := rfl
    rw [hzp]
    have hy : 0 ≤ x + (X 1030 (k / 3) - x) / m ∧ x + (X 1030 (k / 3) - x) / m ≤ 1000 := by
      by_cases q : 0 ≤ X 1030 (k / 3) - x
      · have := hd.1 q; omega
      · have := hd.2 (by omega); omega
    have e3 : zJ k / zJ 3 = zJ (k / 3) := by
      rw [zJ_div (by omega) (by omega) (by omega) (by omega), Int.tdiv_eq_ediv_of_nonneg hk]
    generalize hyy : x + (X 1030 (k / 3) - x) / m = y at hy ⊢
    have n3 : ¬((3 : Nat) = 0) := by decide
    rw [q_X12_peakOf_51]
    simp only [if_neg n3]
    simp (disch := first | assumption | omega) only [l_0, l_1, l_2, l_3, l_4, l_5, l_6, l_7, l_8, l_9, l_10, l_12, l_16, l_24, l_31, l_32, l_48, l_96, l_99, l_100, l_150, l_180, l_200, l_240, l_255, l_260, l_384, l_400, l_999, l_5000, l_9999, l_1000000, l_1000000000, zJ_lt, zJ_le, zJ_eq, g14_30, t_I, t_Ie, t_R, t_Re, t_N, t_Nn, t_V, t_Ve, t_b, t_x, t_w, e_0, e_1, e_2, e_3, e3]
    rw [if_neg (by omega), ml_30 hM (by omega) (by omega), t_b, zJ_sub, m_down (by omega) (by omega) (by omega) (by omega) (by omega), t_I]
    simp only [zJ_add, zJ_sub, zJ_mul, zJ_neg]
    rw [hyy]
    simp (disch := first | assumption | omega) only [zJ_lt, zJ_le, zJ_eq]
    by_cases q : y ≤ p
    · rw [if_pos q, ih (k + 1) y p (by omega) (by omega) hy.1 hy.2 hp hp', show max p y = p by omega]
    · rw [if_neg q, ih (k + 1) y y (by omega) (by omega) hy.1 hy.2 (by omega) (by omega), show max p y = y by omega]
theorem m_peak1 {b : Int} (hM : wM Y) (hb : 0 ≤ b ∧ b < 12) (hr : ∀ k, 0 ≤ k → k < 96 → -1 ≤ X 1038 k ∧ X 1038 k < 100) : ∀ (k : Nat) (i t : Int), 8 * b ≤ i → i + k = 8 * b + 8 → ev_ G 170 7 [.ref (wA Y 14 0), .int (zJ b), .int (zJ t), .int (zJ i), zU, zU] [] (wd Y n s X) = ev_ G 170 51 [.ref (wA Y 14 0), .int (zJ b), .int (zJ (t + zsm (fun m => zB (X 1038 m ≠ -1)) i k)), .int (zJ 25), .int (zJ (-1)), .int (zJ 0)] [] (wd Y n s X) := by
  have h14 := hM.2.1
  intro k
  induction k with
  | zero =>
    intro i t hi he
    rw [q_X12_peakOf_7]
    simp (disch := first | assumption | omega) only [l_0, l_1, l_2, l_3, l_4, l_5, l_6, l_7, l_8, l_9, l_10, l_12, l_16, l_24, l_31, l_32, l_48, l_96, l_99, l_100, l_150, l_180, l_200, l_240, l_255, l_260, l_384, l_400, l_999, l_5000, l_9999, l_1000000, l_1000000000, zJ_add, zJ_sub, zJ_mul, zJ_neg, zJ_lt, zJ_le, zJ_eq]
    rw [if_pos (by omega)]
    simp only [zsm, Int.add_zero]
    rfl
  | succ k ih =>
    intro i t hi he
    have hx := hr i (by omega) (by omega)
    have hz : zsm (fun m => zB (X 1038 m ≠ -1)) i (k + 1) = zB (X 1038 i ≠ -1) + zsm (fun m => zB (X 1038 m ≠ -1)) (i + 1) k := rfl
    rw [q_X12_peakOf_7]
    simp (disch := first | assumption | omega) only [l_0, l_1, l_2, l_3, l_4, l_5, l_6, l_7, l_8, l_9, l_10, l_12, l_16, l_24, l_31, l_32, l_48, l_96, l_99, l_100, l_150, l_180, l_200, l_240, l_255, l_260, l_384, l_400, l_999, l_5000, l_9999, l_1000000, l_1000000000, zJ_add, zJ_sub, zJ_mul, zJ_neg, zJ_lt, zJ_le, zJ_eq, g14_38, t_I, t_Ie, t_R, t_Re, t_N, t_Nn, t_V, t_Ve, t_b, t_x, t_w, e_0, e_1, e_2, e_3]
    rw [if_neg (by omega), ml_38 hM (by omega) (by omega), t_b, hz]
    simp (disch := first | assumption | omega) only [zJ_lt, zJ_le, zJ_eq]
    by_cases q : X 1038 i = -1
    · rw [if_pos q, ih (i + 1) _ (by omega) (by omega), zB_0 (fun w => w q), Int.zero_add, Int.add_zero]
    · rw [if_neg q, ih (i + 1) _ (by omega) (by omega), zB_1 q, Int.add_assoc]
def zmk (X : zX) (b : Int) : Int := 2 + zsm (fun m => zB (X 1038 m ≠ -1)) (8 * b) 8
theorem zmk_r (X : zX) (b : Int) : 2 ≤ zmk X b ∧ zmk X b ≤ 10 := by
  have := zsm_B (f := fun m => zB (X 1038 m ≠ -1)) (fun i => zB_r _) 8 (8 * b)
  unfold zmk
  omega
theorem m_peakOf {b : Int} (hM : wM Y) (hb : 0 ≤ b ∧ b < 12) (hr : ∀ k, 0 ≤ k → k < 96 → -1 ≤ X 1038 k ∧ X 1038 k < 100) (hh : ∀ z, 0 ≤ z → z < 4 → 0 ≤ X 1030 z ∧ X 1030 z ≤ 1000) : ev_ G 170 0 [.ref (wA Y 14 0), .int (zJ b), zU, zU, zU, zU] [] (wd Y n s X) = some (.inl (some (.int (zJ (zpk (X 1030) (zmk X b) 12 0 25 (-1))))), wd Y n s X) := by
  have hm := zmk_r X b
  rw [q_X12_peakOf_0]
  simp only [l_0, l_1, l_2, l_3, l_4, l_5, l_6, l_7, l_8, l_9, l_10, l_12, l_16, l_24, l_31, l_32, l_48, l_96, l_99, l_100, l_150, l_180, l_200, l_240, l_255, l_260, l_384, l_400, l_999, l_5000, l_9999, l_1000000, l_1000000000, zJ_add, zJ_sub, zJ_mul, zJ_neg]
  rw [m_peak1 hM hb hr 8 (8 * b) 2 (by omega) (by omega)]
  exact m_peak2 hM (by unfold zmk at hm; omega) hh 12 0 25 (-1) (by decide) (by decide) (by decide) (by decide) (by decide) (by decide)
-- lengths and weights
def zln1 (X : zX) (w : Int) : Int := if X 1011 w = 0 then zsm (fun k => X 1003 (X 1015 k)) (16 * w) (X 1014 w).toNat else 0
theorem m_lenR {w : Int} (hM : wM Y) (hw : 0 ≤ w ∧ w < 24) (hm : 0 ≤ X 1014 w ∧ X 1014 w ≤ 16) (ho : X 1011 w = 0) (hb : ∀ k, 16 * w ≤ k → k < 16 * w + X 1014 w → 0 ≤ X 1015 k ∧ X 1015 k < 16) : ∀ (k : Nat) (i t : Int), 16 * w ≤ i → i + k = 16 * w + X 1014 w → ev_ G 82 7 [.ref (wA Y 14 0), .int (zJ w), .int (zJ t), .int (zJ i)] [] (wd Y n s X) = some (.inl (some (.int (zJ (t + zsm (fun k => X 1003 (X 1015 k)) i k)))), wd Y n s X) := by
  have h14 := hM.2.1
  intro k
  induction k with
  | zero =>
    intro i t hi he
    rw [q_X12_lengthOf_7]
    simp (disch := first | assumption | omega) only [l_0, l_1, l_2, l_3, l_4, l_5, l_6, l_7, l_8, l_9, l_10, l_12, l_16, l_24, l_31, l_32, l_48, l_96, l_99, l_100, l_150, l_180, l_200, l_240, l_255, l_260, l_384, l_400, l_999, l_5000, l_9999, l_1000000, l_1000000000, g14_14, t_I, t_Ie, t_R, t_Re, t_N, t_Nn, t_V, t_Ve, t_b, t_x, t_w, e_0, e_1, e_2, e_3]
    rw [ml_14 hM hw.1 hw.2, t_b]
    simp (disch := first | assumption | omega) only [zJ_add, zJ_sub, zJ_mul, zJ_neg, zJ_lt, zJ_le, zJ_eq]
    rw [if_pos (by omega)]
    simp only [zsm, Int.add_zero]
  | succ k ih =>
    intro i t hi he
    have hz : zsm (fun k => X 1003 (X 1015 k)) i (k + 1) = X 1003 (X 1015 i) + zsm (fun k => X 1003 (X 1015 k)) (i + 1) k := rfl
    have hbi := hb i hi (by omega)
    rw [q_X12_lengthOf_7]
    simp (disch := first | assumption | omega) only [l_0, l_1, l_2, l_3, l_4, l_5, l_6, l_7, l_8, l_9, l_10, l_12, l_16, l_24, l_31, l_32, l_48, l_96, l_99, l_100, l_150, l_180, l_200, l_240, l_255, l_260, l_384, l_400, l_999, l_5000, l_9999, l_1000000, l_1000000000, g14_14, t_I, t_Ie, t_R, t_Re, t_N, t_Nn, t_V, t_Ve, t_b, t_x, t_w, e_0, e_1, e_2, e_3]
    rw [ml_14 hM hw.1 hw.2, t_b]
    simp (disch := first | assumption | omega) only [zJ_add, zJ_sub, zJ_mul, zJ_neg, zJ_lt, zJ_le, zJ_eq, g14_11, t_I, t_Ie, t_R, t_Re, t_N, t_Nn, t_V, t_Ve, t_b, t_x, t_w, e_0, e_1, e_2, e_3]
    rw [if_neg (by omega), ml_11 hM hw.1 hw.2, t_b, ho, e_2]
    simp (disch := first | assumption | omega) only [g14_3, g14_15, t_I, t_Ie, t_R, t_Re, t_N, t_Nn, t_V, t_Ve, t_b, t_x, t_w, e_0, e_1, e_2, e_3]
    rw [ml_15 hM (by omega) (by omega), t_b, ml_3 hM hbi.1 hbi.2, t_b]
    simp only [zJ_add, zJ_sub, zJ_mul, zJ_neg]
    rw [ih (i + 1) _ (by omega) (by omega), hz, Int.add_assoc]
theorem m_len {w : Int} (hM : wM Y) (hw : 0 ≤ w ∧ w < 24) (hm : 0 ≤ X 1014 w ∧ X 1014 w ≤ 16) (ho : 0 ≤ X 1011 w ∧ X 1011 w ≤ 1) (hb : ∀ k, 16 * w ≤ k → k < 16 * w + X 1014 w → 0 ≤ X 1015 k ∧ X 1015 k < 16) : ev_ G 82 0 [.ref (wA Y 14 0), .int (zJ w), zU, zU] [] (wd Y n s X) = some (.inl (some (.int (zJ (zln1 X w)))), wd Y n s X) := by
  have h14 := hM.2.1
  rw [q_X12_lengthOf_0]
  simp only [l_0, l_1, l_2, l_3, l_4, l_5, l_6, l_7, l_8, l_9, l_10, l_12, l_16, l_24, l_31, l_32, l_48, l_96, l_99, l_100, l_150, l_180, l_200, l_240, l_255, l_260, l_384, l_400, l_999, l_5000, l_9999, l_1000000, l_1000000000, zJ_add, zJ_sub, zJ_mul, zJ_neg]
  unfold zln1
  by_cases q : X 1011 w = 0
  · rw [if_pos q, m_lenR hM hw hm q hb (X 1014 w).toNat (16 * w) 0 (by omega) (by omega), Int.zero_add]
  · rw [if_neg q, q_X12_lengthOf_7]
    simp (disch := first | assumption | omega) only [l_0, l_1, l_2, l_3, l_4, l_5, l_6, l_7, l_8, l_9, l_10, l_12, l_16, l_24, l_31, l_32, l_48, l_96, l_99, l_100, l_150, l_180, l_200, l_240, l_255, l_260, l_384, l_400, l_999, l_5000, l_9999, l_1000000, l_1000000000, g14_14, t_I, t_Ie, t_R, t_Re, t_N, t_Nn, t_V, t_Ve, t_b, t_x, t_w, e_0, e_1, e_2, e_3]
    rw [ml_14 hM hw.1 hw.2, t_b]
    simp (disch := first | assumption | omega) only [zJ_add, zJ_sub, zJ_mul, zJ_neg, zJ_lt, zJ_le, zJ_eq, g14_11, t_I, t_Ie, t_R, t_Re, t_N, t_Nn, t_V, t_Ve, t_b, t_x, t_w, e_0, e_1, e_2, e_3]
    have o1 : X 1011 w = 1 := by omega
    split
    · rfl
    · rw [ml_11 hM hw.1 hw.2, t_b, o1, e_3]
end ZM
