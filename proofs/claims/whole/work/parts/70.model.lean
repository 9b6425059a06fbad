/-! THE TWO SIDES, 21: the reference's small methods -/
section ZM
variable {Y : zLy} {n s : Nat} {X : zX} {G : Nat × Nat} {i j : Int}
theorem m_isIn {a b c : Int} {W : zW} (ha : -2147483648 ≤ a) (ha' : a < 2147483648) (hb : -2147483648 ≤ b) (hb' : b < 2147483648) (hc : -2147483648 ≤ c) (hc' : c < 2147483648) : ev_ G 31 0 [.int (zJ a), .int (zJ b), .int (zJ c)] [] W = some (.inl (some (.int (zJ (zB (b ≤ a ∧ a ≤ c))))), W) := by
  rw [q_X12_isIn_0]
  simp only [t_0, t_1]
  simp (disch := first | assumption | omega) only [l_0, l_1, l_2, l_3, l_4, l_5, l_6, l_7, l_8, l_9, l_10, l_12, l_16, l_24, l_31, l_32, l_48, l_96, l_99, l_100, l_150, l_180, l_200, l_240, l_255, l_260, l_384, l_400, l_999, l_5000, l_9999, l_1000000, l_1000000000, zJ_lt, zJ_le, zJ_eq]
  unfold zB
  repeat' split
  all_goals first | rfl | (exfalso; omega)
theorem a_B (p : Prop) [Decidable p] : zJ (zB p) &&& zJ 1 = zJ (zB p) := a_b (zB_r p).1 (zB_r p).2
theorem m_isNode {a : Int} {W : zW} (ha : -2147483648 ≤ a) (ha' : a < 2147483648) : ev_ G 32 0 [.int (zJ a)] [] W = some (.inl (some (.int (zJ (zB (0 ≤ a ∧ a < 8))))), W) := by
  rw [q_X12_isNode_0]
  simp (disch := first | assumption | omega) only [l_0, l_1, l_2, l_3, l_4, l_5, l_6, l_7, l_8, l_9, l_10, l_12, l_16, l_24, l_31, l_32, l_48, l_96, l_99, l_100, l_150, l_180, l_200, l_240, l_255, l_260, l_384, l_400, l_999, l_5000, l_9999, l_1000000, l_1000000000, m_isIn, t_I, t_Ie, t_R, t_Re, t_N, t_Nn, t_V, t_Ve, t_b, t_x, t_w, e_0, e_1, e_2, e_3, a_B, if_true]
  have : (0 ≤ a ∧ a ≤ 7) = (0 ≤ a ∧ a < 8) := propext (by omega)
  simp only [this]
theorem m_isSlot {a : Int} {W : zW} (ha : -2147483648 ≤ a) (ha' : a < 2147483648) : ev_ G 154 0 [.int (zJ a)] [] W = some (.inl (some (.int (zJ (zB (0 ≤ a ∧ a < 8))))), W) := by
  rw [q_X12_isSlot_0]
  simp (disch := first | assumption | omega) only [l_0, l_1, l_2, l_3, l_4, l_5, l_6, l_7, l_8, l_9, l_10, l_12, l_16, l_24, l_31, l_32, l_48, l_96, l_99, l_100, l_150, l_180, l_200, l_240, l_255, l_260, l_384, l_400, l_999, l_5000, l_9999, l_1000000, l_1000000000, m_isIn, t_I, t_Ie, t_R, t_Re, t_N, t_Nn, t_V, t_Ve, t_b, t_x, t_w, e_0, e_1, e_2, e_3, a_B, if_true]
  have : (0 ≤ a ∧ a ≤ 7) = (0 ≤ a ∧ a < 8) := propext (by omega)
  simp only [this]
theorem m_isConnector {a : Int} (hM : wM Y) (hn : 0 ≤ X 405 0 ∧ X 405 0 < 1000) (ha : -2147483648 ≤ a) (ha' : a < 2147483648) : ev_ G 50 0 [.ref (wA Y 14 0), .int (zJ a)] [] (wd Y n s X) = some (.inl (some (.int (zJ (zB (0 ≤ a ∧ a < X 405 0))))), wd Y n s X) := by
  have h14 := hM.2.1
  rw [q_X12_isConnector_0]
  simp (disch := first | assumption | omega) only [l_0, l_1, l_2, l_3, l_4, l_5, l_6, l_7, l_8, l_9, l_10, l_12, l_16, l_24, l_31, l_32, l_48, l_96, l_99, l_100, l_150, l_180, l_200, l_240, l_255, l_260, l_384, l_400, l_999, l_5000, l_9999, l_1000000, l_1000000000, g14_5, zJ_add, zJ_sub, zJ_mul, zJ_neg, m_isIn, t_I, t_Ie, t_R, t_Re, t_N, t_Nn, t_V, t_Ve, t_b, t_x, t_w, e_0, e_1, e_2, e_3, a_B, if_true]
  have : (0 ≤ a ∧ a ≤ X 405 0 - 1) = (0 ≤ a ∧ a < X 405 0) := propext (by omega)
  simp only [this]
theorem m_isWire {a : Int} (hM : wM Y) (hn : 0 ≤ X 410 0 ∧ X 410 0 < 1000) (ha : -2147483648 ≤ a) (ha' : a < 2147483648) : ev_ G 81 0 [.ref (wA Y 14 0), .int (zJ a)] [] (wd Y n s X) = some (.inl (some (.int (zJ (zB (0 ≤ a ∧ a < X 410 0))))), wd Y n s X) := by
  have h14 := hM.2.1
  rw [q_X12_isWire_0]
  simp (disch := first | assumption | omega) only [l_0, l_1, l_2, l_3, l_4, l_5, l_6, l_7, l_8, l_9, l_10, l_12, l_16, l_24, l_31, l_32, l_48, l_96, l_99, l_100, l_150, l_180, l_200, l_240, l_255, l_260, l_384, l_400, l_999, l_5000, l_9999, l_1000000, l_1000000000, g14_10, zJ_add, zJ_sub, zJ_mul, zJ_neg, m_isIn, t_I, t_Ie, t_R, t_Re, t_N, t_Nn, t_V, t_Ve, t_b, t_x, t_w, e_0, e_1, e_2, e_3, a_B, if_true]
  have : (0 ≤ a ∧ a ≤ X 410 0 - 1) = (0 ≤ a ∧ a < X 410 0) := propext (by omega)
  simp only [this]
theorem m_isReel {a : Int} (hM : wM Y) (hn : 0 ≤ X 425 0 ∧ X 425 0 < 1000) (ha : -2147483648 ≤ a) (ha' : a < 2147483648) : ev_ G 135 0 [.ref (wA Y 14 0), .int (zJ a)] [] (wd Y n s X) = some (.inl (some (.int (zJ (zB (0 ≤ a ∧ a < X 425 0))))), wd Y n s X) := by
  have h14 := hM.2.1
  rw [q_X12_isReel_0]
  simp (disch := first | assumption | omega) only [l_0, l_1, l_2, l_3, l_4, l_5, l_6, l_7, l_8, l_9, l_10, l_12, l_16, l_24, l_31, l_32, l_48, l_96, l_99, l_100, l_150, l_180, l_200, l_240, l_255, l_260, l_384, l_400, l_999, l_5000, l_9999, l_1000000, l_1000000000, g14_25, zJ_add, zJ_sub, zJ_mul, zJ_neg, m_isIn, t_I, t_Ie, t_R, t_Re, t_N, t_Nn, t_V, t_Ve, t_b, t_x, t_w, e_0, e_1, e_2, e_3, a_B, if_true]
  have : (0 ≤ a ∧ a ≤ X 425 0 - 1) = (0 ≤ a ∧ a < X 425 0) := propext (by omega)
  simp only [this]
theorem m_isBoard {a : Int} (hM : wM Y) (hn : 0 ≤ X 434 0 ∧ X 434 0 < 1000) (ha : -2147483648 ≤ a) (ha' : a < 2147483648) : ev_ G 153 0 [.ref (wA Y 14 0), .int (zJ a)] [] (wd Y n s X) = some (.inl (some (.int (zJ (zB (0 ≤ a ∧ a < X 434 0))))), wd Y n s X) := by
  have h14 := hM.2.1
  rw [q_X12_isBoard_0]
  simp (disch := first | assumption | omega) only [l_0, l_1, l_2, l_3, l_4, l_5, l_6, l_7, l_8, l_9, l_10, l_12, l_16, l_24, l_31, l_32, l_48, l_96, l_99, l_100, l_150, l_180, l_200, l_240, l_255, l_260, l_384, l_400, l_999, l_5000, l_9999, l_1000000, l_1000000000, g14_34, zJ_add, zJ_sub, zJ_mul, zJ_neg, m_isIn, t_I, t_Ie, t_R, t_Re, t_N, t_Nn, t_V, t_Ve, t_b, t_x, t_w, e_0, e_1, e_2, e_3, a_B, if_true]
  have : (0 ≤ a ∧ a ≤ X 434 0 - 1) = (0 ≤ a ∧ a < X 434 0) := propext (by omega)
  simp only [this]
theorem m_fails {a : Int} (hM : wM Y) (ha : 0 ≤ a) (ha' : a < 100) : ev_ G 33 0 [.ref (wA Y 14 0), .int (zJ a)] [] (wd Y n s X) = some (.inl (some (.int (zJ (zB (0 < a))))), wd Y n s (wu X 444 0 a)) := by
  have h14 := hM.2.1
  have hI := hM.1
  rw [q_X12_fails_0]
  simp only [t_0, t_1]
  simp (disch := first | assumption | omega) only [l_0, l_1, l_2, l_3, l_4, l_5, l_6, l_7, l_8, l_9, l_10, l_12, l_16, l_24, l_31, l_32, l_48, l_96, l_99, l_100, l_150, l_180, l_200, l_240, l_255, l_260, l_384, l_400, l_999, l_5000, l_9999, l_1000000, l_1000000000, p14_44, t_I, t_Ie, t_R, t_Re, t_N, t_Nn, t_V, t_Ve, t_b, t_x, t_w, e_0, e_1, e_2, e_3, zJ_lt, zJ_le, zJ_eq]
  unfold zB
  repeat' split
  all_goals first | rfl | (exfalso; omega)
theorem m_thrown (hM : wM Y) : ev_ G 35 0 [.ref (wA Y 14 0)] [] (wd Y n s X) = some (.inl (some (.int (zJ (X 444 0)))), wd Y n s X) := by
  have h14 := hM.2.1
  rw [q_X12_thrown_0]
  simp (disch := first | assumption | omega) only [g14_44, t_I, t_Ie, t_R, t_Re, t_N, t_Nn, t_V, t_Ve, t_b, t_x, t_w, e_0, e_1, e_2, e_3]
theorem m_costOf (hM : wM Y) (hi : 0 ≤ i) (hi' : i < 16) : ev_ G 70 0 [.ref (wA Y 14 0), .int (zJ i)] [] (wd Y n s X) = some (.inl (some (.int (zJ (100 * X 1003 i + 1)))), wd Y n s X) := by
  have h14 := hM.2.1
  rw [q_X12_costOf_0]
  simp (disch := first | assumption | omega) only [l_0, l_1, l_2, l_3, l_4, l_5, l_6, l_7, l_8, l_9, l_10, l_12, l_16, l_24, l_31, l_32, l_48, l_96, l_99, l_100, l_150, l_180, l_200, l_240, l_255, l_260, l_384, l_400, l_999, l_5000, l_9999, l_1000000, l_1000000000, g14_3, ml_3, t_I, t_Ie, t_R, t_Re, t_N, t_Nn, t_V, t_Ve, t_b, t_x, t_w, e_0, e_1, e_2, e_3, zJ_add, zJ_sub, zJ_mul, zJ_neg]
theorem m_across {v : Int} (hM : wM Y) (hi : 0 ≤ i) (hi' : i < 16) (r1 : 0 ≤ X 1001 i ∧ X 1001 i < 8) (r2 : 0 ≤ X 1002 i ∧ X 1002 i < 8) (r3 : -1 ≤ v ∧ v < 8) : ev_ G 73 0 [.ref (wA Y 14 0), .int (zJ i), .int (zJ v)] [] (wd Y n s X) = some (.inl (some (.int (zJ (zac (X 1001 i) (X 1002 i) v)))), wd Y n s X) := by
  have h14 := hM.2.1
  rw [q_X12_across_0]
  simp (disch := first | assumption | omega) only [l_0, l_1, l_2, l_3, l_4, l_5, l_6, l_7, l_8, l_9, l_10, l_12, l_16, l_24, l_31, l_32, l_48, l_96, l_99, l_100, l_150, l_180, l_200, l_240, l_255, l_260, l_384, l_400, l_999, l_5000, l_9999, l_1000000, l_1000000000, g14_1, g14_2, ml_1, ml_2, t_I, t_Ie, t_R, t_Re, t_N, t_Nn, t_V, t_Ve, t_b, t_x, t_w, e_0, e_1, e_2, e_3, zJ_lt, zJ_le, zJ_eq, zJ_neg]
  unfold zac
  repeat' split
  all_goals first | rfl | (exfalso; omega)
theorem m_fit (hM : wM Y) (hi : 0 ≤ i) (hi' : i < 8) (hj : 0 ≤ j) (hj' : j < 8) (hr : ∀ a : Int, a = X 1007 i ∨ a = X 1007 j ∨ a = X 1008 i ∨ a = X 1008 j → 0 ≤ a ∧ a < 100) : ev_ G 51 0 [.ref (wA Y 14 0), .int (zJ i), .int (zJ j)] [] (wd Y n s X) = some (.inl (some (.int (zJ (zB (X 1007 i = X 1007 j ∧ X 1008 i = X 1008 j))))), wd Y n s X) := by
  have h14 := hM.2.1
  have r1 := hr (X 1007 i) (Or.inl rfl)
  have r2 := hr (X 1007 j) (Or.inr (Or.inl rfl))
  have r3 := hr (X 1008 i) (Or.inr (Or.inr (Or.inl rfl)))
  have r4 := hr (X 1008 j) (Or.inr (Or.inr (Or.inr rfl)))
  rw [q_X12_fit_0]
  simp only [t_0, t_1]
  simp (disch := first | assumption | omega) only [l_0, l_1, l_2, l_3, l_4, l_5, l_6, l_7, l_8, l_9, l_10, l_12, l_16, l_24, l_31, l_32, l_48, l_96, l_99, l_100, l_150, l_180, l_200, l_240, l_255, l_260, l_384, l_400, l_999, l_5000, l_9999, l_1000000, l_1000000000, g14_7, g14_8, ml_7, ml_8, t_I, t_Ie, t_R, t_Re, t_N, t_Nn, t_V, t_Ve, t_b, t_x, t_w, e_0, e_1, e_2, e_3, zJ_lt, zJ_le, zJ_eq]
  unfold zB
  repeat' split
  all_goals first | rfl | (exfalso; omega)
theorem m_runs (hM : wM Y) (hi : 0 ≤ i) (hi' : i < 12) (r1 : -1 ≤ X 1029 i ∧ X 1029 i < 10000) (r2 : 0 ≤ X 1028 i ∧ X 1028 i < 10000) (r3 : 0 ≤ X 424 0 ∧ X 424 0 < 10000) : ev_ G 136 0 [.ref (wA Y 14 0), .int (zJ i), zU] [] (wd Y n s X) = some (.inl (some (.int (zJ (zclk (X 1029 i + 1) (X 1028 i) (X 1029 i) (X 424 0))))), wd Y n s X) := by
  have h14 := hM.2.1
  rw [q_X12_runs_0]
  simp (disch := first | assumption | omega) only [l_0, l_1, l_2, l_3, l_4, l_5, l_6, l_7, l_8, l_9, l_10, l_12, l_16, l_24, l_31, l_32, l_48, l_96, l_99, l_100, l_150, l_180, l_200, l_240, l_255, l_260, l_384, l_400, l_999, l_5000, l_9999, l_1000000, l_1000000000, g14_29, g14_28, g14_24, ml_29, ml_28, t_I, t_Ie, t_R, t_Re, t_N, t_Nn, t_V, t_Ve, t_b, t_x, t_w, e_0, e_1, e_2, e_3, zJ_lt, zJ_le, zJ_eq, zJ_neg]
  unfold zclk
  by_cases q : X 1029 i = -1
  · rw [if_pos q, q_X12_runs_32]
    simp (disch := first | assumption | omega) only [l_0, l_1, l_2, l_3, l_4, l_5, l_6, l_7, l_8, l_9, l_10, l_12, l_16, l_24, l_31, l_32, l_48, l_96, l_99, l_100, l_150, l_180, l_200, l_240, l_255, l_260, l_384, l_400, l_999, l_5000, l_9999, l_1000000, l_1000000000, zJ_lt, zJ_le, zJ_eq]
    rw [if_neg (by omega), if_pos (by omega), zJ_neg]
  · rw [if_neg q]
    simp only [zJ_add, zJ_sub, zJ_mul, zJ_neg]
    rw [q_X12_runs_32]
    simp (disch := first | assumption | omega) only [l_0, l_1, l_2, l_3, l_4, l_5, l_6, l_7, l_8, l_9, l_10, l_12, l_16, l_24, l_31, l_32, l_48, l_96, l_99, l_100, l_150, l_180, l_200, l_240, l_255, l_260, l_384, l_400, l_999, l_5000, l_9999, l_1000000, l_1000000000, zJ_lt, zJ_le, zJ_eq]
    by_cases q2 : 0 ≤ X 1029 i + X 1028 i - X 424 0
    · rw [if_pos q2, if_neg (by omega), show X 1029 i + X 1028 i - X 424 0 = X 1028 i - (X 424 0 - X 1029 i) by omega]
    · rw [if_neg q2, if_pos (by omega), zJ_neg]
theorem m_gives (hM : wM Y) (hi : 0 ≤ i) (hi' : i < 12) (r1 : -1 ≤ X 1029 i ∧ X 1029 i < 10000) (r2 : 0 ≤ X 1028 i ∧ X 1028 i < 10000) (r3 : 0 ≤ X 424 0 ∧ X 424 0 < 10000) (r4 : 0 ≤ X 1027 i ∧ X 1027 i < 1000) : ev_ G 155 0 [.ref (wA Y 14 0), .int (zJ i)] [] (wd Y n s X) = some (.inl (some (.int (zJ (zB (0 < X 1027 i ∧ zclk (X 1029 i + 1) (X 1028 i) (X 1029 i) (X 424 0) ≠ -1))))), wd Y n s X) := by
  have h14 := hM.2.1
  have hz : -1 ≤ zclk (X 1029 i + 1) (X 1028 i) (X 1029 i) (X 424 0) ∧ zclk (X 1029 i + 1) (X 1028 i) (X 1029 i) (X 424 0) < 30000 := by
    unfold zclk
    split <;> omega
  rw [q_X12_gives_0]
  simp only [t_0, t_1]
  rw [k14 h14, m_runs hM hi hi' r1 r2 r3, t_I]
  simp (disch := first | assumption | omega) only [l_0, l_1, l_2, l_3, l_4, l_5, l_6, l_7, l_8, l_9, l_10, l_12, l_16, l_24, l_31, l_32, l_48, l_96, l_99, l_100, l_150, l_180, l_200, l_240, l_255, l_260, l_384, l_400, l_999, l_5000, l_9999, l_1000000, l_1000000000, g14_27, ml_27, t_I, t_Ie, t_R, t_Re, t_N, t_Nn, t_V, t_Ve, t_b, t_x, t_w, e_0, e_1, e_2, e_3, zJ_lt, zJ_le, zJ_eq, zJ_neg]
  unfold zB
  repeat' split
  all_goals first | rfl | (exfalso; omega)
theorem m_down {a b : Int} {W : zW} (ha : -2147483648 < a) (ha' : a < 2147483648) (hb : 0 < b) (hb' : b < 2147483648) (hab : -1000000 ≤ a ∧ a ≤ 1000000) : ev_ G 169 0 [.int (zJ a), .int (zJ b), zU] [] W = some (.inl (some (.int (zJ (a / b)))), W) := by
  have hr := ztd_r (a := a) (by omega) ha' hb
  have hm : -2147483648 ≤ a.tdiv b * b ∧ a.tdiv b * b < 2147483648 := by
    by_cases h : 0 ≤ a
    · rw [Int.tdiv_eq_ediv_of_nonneg h]
      have h1 := Int.ediv_mul_le a (Int.ne_of_gt hb)
      have h2 := Int.mul_nonneg (Int.ediv_nonneg h (Int.le_of_lt hb)) (Int.le_of_lt hb)
      omega
    · rw [show a = -(-a) by omega, Int.neg_tdiv, Int.tdiv_eq_ediv_of_nonneg (by omega), Int.neg_mul]
      have h1 := Int.ediv_mul_le (-a) (Int.ne_of_gt hb)
      have h2 := Int.mul_nonneg (Int.ediv_nonneg (show 0 ≤ -a by omega) (Int.le_of_lt hb)) (Int.le_of_lt hb)
      omega
  rw [q_X12_down_0]
  have hz : ¬zJ b = 0 := by
    rw [l_0, zJ_eq (by omega) hb' (by omega) (by omega)]
    omega
  have h1 : 0 ≤ a → a.tdiv b * b ≤ a := by
    intro h
    rw [Int.tdiv_eq_ediv_of_nonneg h]
    exact Int.ediv_mul_le a (Int.ne_of_gt hb)
  have h2 : ¬0 ≤ a → a ≤ a.tdiv b * b := by
    intro h
    have e : a.tdiv b = -((-a) / b) := by rw [show a = -(-a) by omega, Int.neg_tdiv, Int.tdiv_eq_ediv_of_nonneg (by omega), Int.neg_neg]
    have := Int.ediv_mul_le (-a) (Int.ne_of_gt hb)
    rw [e, Int.neg_mul]
    omega
  rw [if_neg hz, zJ_div (by omega) ha' hb hb', zJ_mul, ztd_e hb]
  simp (disch := first | assumption | omega) only [zJ_lt, zJ_le, zJ_eq, l_0, l_1, l_2, l_3, l_4, l_5, l_6, l_7, l_8, l_9, l_10, l_12, l_16, l_24, l_31, l_32, l_48, l_96, l_99, l_100, l_150, l_180, l_200, l_240, l_255, l_260, l_384, l_400, l_999, l_5000, l_9999, l_1000000, l_1000000000, zJ_add, zJ_sub, zJ_mul, zJ_neg]
  by_cases q : 0 ≤ a
  · rw [if_pos q, if_pos (h1 q)]
  · rw [if_neg q]
    have := h2 q
    by_cases q2 : a.tdiv b * b = a
    · rw [if_pos q2, if_pos (by omega)]
    · rw [if_neg q2, if_neg (by omega)]
end ZM
