/-! THE TWO SIDES, 35: the reference's calls, the short ones -/
theorem z_00 : (zJ 0 = zJ 0) = True := eq_self _
theorem z_10 : (zJ 1 = zJ 0) = False := eq_false (by decide)
section ZM
variable {Y : zLy} {n s : Nat} {X : zX} {G : Nat × Nat} {i j : Int}
theorem m_pass33 {p e : Int} (hM : wM Y) (he : 0 < e ∧ e < 100) : ev_ G 194 33 [.ref (wA Y 14 0), .int (zJ p)] [.int (zJ e), .ref (wA Y 14 0)] (wd Y n s X) = some (.inl (some (.int (zJ 0))), wd Y n s (wu X 444 0 e)) := by
  have h14 := hM.2.1
  rw [q_X12_pass_33, k14 h14, m_fails hM (by omega) he.2, t_I, zB_1 he.1, l_0, e_3]
theorem m_pass {p : Int} (hM : wM Y) (hp : -2147483648 ≤ p ∧ p < 2147483648) (hm : 0 ≤ X 424 0 ∧ X 424 0 < 10000) : (¬(1 ≤ p ∧ p ≤ 999) → ev_ G 194 0 [.ref (wA Y 14 0), .int (zJ p)] [] (wd Y n s X) = some (.inl (some (.int (zJ 0))), wd Y n s (wu X 444 0 1))) ∧ ((1 ≤ p ∧ p ≤ 999) → ¬X 424 0 + p ≤ 9999 → ev_ G 194 0 [.ref (wA Y 14 0), .int (zJ p)] [] (wd Y n s X) = some (.inl (some (.int (zJ 0))), wd Y n s (wu X 444 0 2))) ∧ ((1 ≤ p ∧ p ≤ 999) → X 424 0 + p ≤ 9999 → ev_ G 194 0 [.ref (wA Y 14 0), .int (zJ p)] [] (wd Y n s X) = some (.inl (some (.int (zJ (X 424 0 + p)))), wd Y n s (wu (wu X 444 0 0) 424 0 (X 424 0 + p)))) := by
  have h14 := hM.2.1
  have hI := hM.1
  refine ⟨fun h => ?_, fun h h' => ?_, fun h h' => ?_⟩
  · rw [q_X12_pass_0]
    simp (disch := first | assumption | omega) only [l_0, l_1, l_2, l_3, l_4, l_5, l_6, l_7, l_8, l_9, l_10, l_12, l_16, l_24, l_31, l_32, l_48, l_96, l_99, l_100, l_150, l_180, l_200, l_240, l_255, l_260, l_384, l_400, l_999, l_5000, l_9999, l_1000000, l_1000000000, m_isIn, t_I, t_Ie, t_R, t_Re, t_N, t_Nn, t_V, t_Ve, t_b, t_x, t_w, e_0, e_1, e_2, e_3]
    simp only [zB_0 h, if_true]
    rw [m_pass33 hM (by decide)]
  · rw [q_X12_pass_0]
    simp (disch := first | assumption | omega) only [l_0, l_1, l_2, l_3, l_4, l_5, l_6, l_7, l_8, l_9, l_10, l_12, l_16, l_24, l_31, l_32, l_48, l_96, l_99, l_100, l_150, l_180, l_200, l_240, l_255, l_260, l_384, l_400, l_999, l_5000, l_9999, l_1000000, l_1000000000, m_isIn, t_I, t_Ie, t_R, t_Re, t_N, t_Nn, t_V, t_Ve, t_b, t_x, t_w, e_0, e_1, e_2, e_3, g14_24, zJ_add, zJ_sub, zJ_mul, zJ_neg, zJ_lt, zJ_le, zJ_eq]
    simp only [zB_1 h, z_10, if_false, if_neg h']
    rw [m_pass33 hM (by decide)]
  · rw [q_X12_pass_0]
    simp (disch := first | assumption | omega) only [l_0, l_1, l_2, l_3, l_4, l_5, l_6, l_7, l_8, l_9, l_10, l_12, l_16, l_24, l_31, l_32, l_48, l_96, l_99, l_100, l_150, l_180, l_200, l_240, l_255, l_260, l_384, l_400, l_999, l_5000, l_9999, l_1000000, l_1000000000, m_isIn, t_I, t_Ie, t_R, t_Re, t_N, t_Nn, t_V, t_Ve, t_b, t_x, t_w, e_0, e_1, e_2, e_3, g14_24, zJ_add, zJ_sub, zJ_mul, zJ_neg, zJ_lt, zJ_le, zJ_eq]
    have e : ∀ v, wu X 444 0 v 424 0 = X 424 0 := fun v => if_neg (by omega)
    have e2 : wu (wu X 444 0 0) 424 0 (X 424 0 + p) 424 0 = X 424 0 + p := if_pos ⟨rfl, rfl⟩
    simp only [zB_1 h, z_10, if_false, if_pos h']
    rw [q_X12_pass_33, k14 h14, m_fails hM (by decide) (by decide), t_I, zB_0 (by decide), l_0, e_2]
    simp (disch := first | assumption | omega) only [g14_24, p14_24, t_I, t_Ie, t_R, t_Re, t_N, t_Nn, t_V, t_Ve, t_b, t_x, t_w, e_0, e_1, e_2, e_3, zJ_add, zJ_sub, zJ_mul, zJ_neg, e, e2]
end ZM
