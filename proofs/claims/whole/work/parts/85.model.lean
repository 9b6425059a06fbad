/-! THE TWO SIDES, 36: the reference's calls, on -/
section ZM
variable {Y : zLy} {n s : Nat} {X : zX} {G : Nat × Nat} {i j : Int}
theorem m_board (hM : wM Y) (hn : 0 ≤ X 434 0 ∧ X 434 0 ≤ 12) : (X 434 0 = 12 → ev_ G 145 0 [.ref (wA Y 14 0)] [] (wd Y n s X) = some (.inl (some (.int (zJ 0))), wd Y n s (wu X 444 0 1))) ∧ (¬X 434 0 = 12 → ev_ G 145 0 [.ref (wA Y 14 0)] [] (wd Y n s X) = some (.inl (some (.int (zJ (X 434 0)))), wd Y n s (wu (wu X 444 0 0) 434 0 (X 434 0 + 1)))) := by
  have h14 := hM.2.1
  have hI := hM.1
  refine ⟨fun h => ?_, fun h => ?_⟩
  · rw [q_X12_board_0]
    simp (disch := first | assumption | omega) only [l_0, l_1, l_2, l_3, l_4, l_5, l_6, l_7, l_8, l_9, l_10, l_12, l_16, l_24, l_31, l_32, l_48, l_96, l_99, l_100, l_150, l_180, l_200, l_240, l_255, l_260, l_384, l_400, l_999, l_5000, l_9999, l_1000000, l_1000000000, g14_34, t_I, t_Ie, t_R, t_Re, t_N, t_Nn, t_V, t_Ve, t_b, t_x, t_w, e_0, e_1, e_2, e_3, zJ_lt, zJ_le, zJ_eq]
    rw [if_pos h, q_X12_board_15, k14 h14, m_fails hM (by decide) (by decide), t_I, zB_1 (by decide), l_0, e_3]
  · rw [q_X12_board_0]
    simp (disch := first | assumption | omega) only [l_0, l_1, l_2, l_3, l_4, l_5, l_6, l_7, l_8, l_9, l_10, l_12, l_16, l_24, l_31, l_32, l_48, l_96, l_99, l_100, l_150, l_180, l_200, l_240, l_255, l_260, l_384, l_400, l_999, l_5000, l_9999, l_1000000, l_1000000000, g14_34, t_I, t_Ie, t_R, t_Re, t_N, t_Nn, t_V, t_Ve, t_b, t_x, t_w, e_0, e_1, e_2, e_3, zJ_lt, zJ_le, zJ_eq]
    have e : ∀ v, wu X 444 0 v 434 0 = X 434 0 := fun v => if_neg (by omega)
    have e2 : wu (wu X 444 0 0) 434 0 (X 434 0 + 1) 434 0 = X 434 0 + 1 := if_pos ⟨rfl, rfl⟩
    rw [if_neg h, q_X12_board_15, k14 h14, m_fails hM (by decide) (by decide), t_I, zB_0 (by decide), l_0, e_2]
    simp (disch := first | assumption | omega) only [l_0, l_1, l_2, l_3, l_4, l_5, l_6, l_7, l_8, l_9, l_10, l_12, l_16, l_24, l_31, l_32, l_48, l_96, l_99, l_100, l_150, l_180, l_200, l_240, l_255, l_260, l_384, l_400, l_999, l_5000, l_9999, l_1000000, l_1000000000, g14_34, p14_34, t_I, t_Ie, t_R, t_Re, t_N, t_Nn, t_V, t_Ve, t_b, t_x, t_w, e_0, e_1, e_2, e_3, zJ_add, zJ_sub, zJ_mul, zJ_neg, e, e2]
    rw [show X 434 0 + 1 - 1 = X 434 0 by omega]
theorem m_jointAnew {b sl : Int} (hM : wM Y) (hn : 0 ≤ X 434 0 ∧ X 434 0 ≤ 12) (hb : -2147483648 ≤ b ∧ b < 2147483648) (hs : -2147483648 ≤ sl ∧ sl < 2147483648) : (¬((0 ≤ b ∧ b < X 434 0) ∧ (0 ≤ sl ∧ sl < 8)) → ev_ G 200 0 [.ref (wA Y 14 0), .int (zJ b), .int (zJ sl)] [] (wd Y n s X) = some (.inl (some (.int (zJ 0))), wd Y n s (wu X 444 0 1))) ∧ (((0 ≤ b ∧ b < X 434 0) ∧ (0 ≤ sl ∧ sl < 8)) → ev_ G 200 0 [.ref (wA Y 14 0), .int (zJ b), .int (zJ sl)] [] (wd Y n s X) = some (.inl (some (.int (zJ (X 1040 (8 * b + sl))))), wd Y n s (wu X 444 0 0))) := by
  have h14 := hM.2.1
  have hI := hM.1
  have hbad : ev_ G 200 21 [.ref (wA Y 14 0), .int (zJ b), .int (zJ sl)] [.int (zJ 1), .ref (wA Y 14 0)] (wd Y n s X) = some (.inl (some (.int (zJ 0))), wd Y n s (wu X 444 0 1)) := by
    rw [q_X12_jointAnew_21, k14 h14, m_fails hM (by decide) (by decide), t_I, zB_1 (by decide), l_0, e_3]
  refine ⟨fun h => ?_, fun h => ?_⟩
  · rw [q_X12_jointAnew_0, k14 h14, m_isBoard hM (by omega) hb.1 hb.2, t_I, m_isSlot hs.1 hs.2, t_I, l_0, l_1]
    by_cases h1 : 0 ≤ b ∧ b < X 434 0
    · have h2 : ¬(0 ≤ sl ∧ sl < 8) := fun q => h ⟨h1, q⟩
      simp only [zB_1 h1, zB_0 h2, z_10, if_false, if_true]
      exact hbad
    · simp only [zB_0 h1, if_true]
      exact hbad
  · have e : ∀ v k, wu X 444 0 v 1040 k = X 1040 k := fun v k => if_neg (by omega)
    rw [q_X12_jointAnew_0, k14 h14, m_isBoard hM (by omega) hb.1 hb.2, t_I, m_isSlot hs.1 hs.2, t_I, l_0, l_1]
    simp only [zB_1 h.1, zB_1 h.2, z_10, if_false]
    rw [q_X12_jointAnew_21, k14 h14, m_fails hM (by decide) (by decide), t_I, zB_0 (by decide), l_0, e_2]
    simp (disch := first | assumption | omega) only [l_0, l_1, l_2, l_3, l_4, l_5, l_6, l_7, l_8, l_9, l_10, l_12, l_16, l_24, l_31, l_32, l_48, l_96, l_99, l_100, l_150, l_180, l_200, l_240, l_255, l_260, l_384, l_400, l_999, l_5000, l_9999, l_1000000, l_1000000000, g14_40, t_I, t_Ie, t_R, t_Re, t_N, t_Nn, t_V, t_Ve, t_b, t_x, t_w, e_0, e_1, e_2, e_3, zJ_add, zJ_sub, zJ_mul, zJ_neg]
    rw [ml_40 hM (by omega) (by omega), t_b, e]
end ZM
