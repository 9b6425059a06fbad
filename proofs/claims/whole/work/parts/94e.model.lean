/-! THE TWO SIDES, 49: the reference's calls: ofWire, place -/
section ZM
variable {Y : zLy} {n s : Nat} {X : zX} {G : Nat × Nat} {i j p q r t e : Int}
theorem m_ofWire0 (hM : wM Y) (hn : 0 ≤ X 410 0 ∧ X 410 0 ≤ 24) (hp : -2147483648 ≤ p ∧ p < 2147483648) (hq : -2147483648 ≤ q ∧ q < 2147483648) : ev_ G 87 0 [.ref (wA Y 14 0), .int (zJ p), .int (zJ q)] [] (wd Y n s X) = ev_ G 87 19 [.ref (wA Y 14 0), .int (zJ p), .int (zJ q)] [.int (zJ (if (0 ≤ p ∧ p < X 410 0) ∧ -1 ≤ q then 0 else 1)), .ref (wA Y 14 0)] (wd Y n s X) := by
  have h14 := hM.2.1
  rw [q_X12_ofWire_0, k14 h14, m_isWire hM (by omega) hp.1 hp.2, t_I, l_0, l_1, zJ_neg]
  by_cases h : 0 ≤ p ∧ p < X 410 0
  · simp only [zB_1 h, z_10, if_false]
    simp (disch := first | assumption | omega) only [zJ_lt, zJ_le, zJ_eq]
    by_cases h2 : q < -1
    · rw [if_pos h2, if_neg (by omega)]
    · rw [if_neg h2, if_pos ⟨h, by omega⟩]
  · simp only [zB_0 h, if_true, if_neg (fun g : (0 ≤ p ∧ p < X 410 0) ∧ -1 ≤ q => h g.1)]
theorem m_placeG {u v : Int32} (hM : wM Y) (hp : 0 ≤ p ∧ p < 12) (hq : 0 ≤ q ∧ q < 8) (hr : 0 ≤ r ∧ r < 12) : ev_ G 156 94 [.ref (wA Y 14 0), .int (zJ p), .int (zJ q), .int (zJ r), .int u, .int v] [.int (zJ 0), .ref (wA Y 14 0)] (wd Y n s X) = some (.inl (some (.int (zJ (X 1027 r - 1)))), wd Y n s (wu (wu (wu (wu X 444 0 0) 1038 (8 * p + q) r) 1039 (8 * p + q) (X 424 0)) 1027 r (X 1027 r - 1))) := by
  have h14 := hM.2.1
  have e1 : wu (wu X 444 0 0) 1038 (8 * p + q) r 424 0 = X 424 0 := by rw [wu_ne (by decide), wu_ne (by decide)]
  have e2 : wu (wu (wu X 444 0 0) 1038 (8 * p + q) r) 1039 (8 * p + q) (X 424 0) 1027 r = X 1027 r := by rw [wu_ne (by decide), wu_ne (by decide), wu_ne (by decide)]
  rw [q_X12_place_94, k14 h14, m_fails hM (by decide) (by decide), t_I, zB_0 (by decide), l_0, e_2]
  simp (disch := first | assumption | omega) only [g14_38, t_I, t_Ie, t_R, t_Re, t_N, t_Nn, t_V, t_Ve, t_b, t_x, t_w, e_0, e_1, e_2, e_3, l_0, l_1, l_2, l_3, l_4, l_5, l_6, l_7, l_8, l_9, l_10, l_12, l_16, l_24, l_31, l_32, l_48, l_96, l_99, l_100, l_150, l_180, l_200, l_240, l_255, l_260, l_384, l_400, l_999, l_5000, l_9999, l_1000000, l_1000000000, zJ_add, zJ_sub, zJ_mul, zJ_neg]
  rw [ms_38 hM (by omega) (by omega), t_b]
  simp (disch := first | assumption | omega) only [g14_39, g14_24, t_I, t_Ie, t_R, t_Re, t_N, t_Nn, t_V, t_Ve, t_b, t_x, t_w, e_0, e_1, e_2, e_3, e1]
  rw [ms_39 hM (by omega) (by omega), t_b]
  simp (disch := first | assumption | omega) only [g14_27, t_I, t_Ie, t_R, t_Re, t_N, t_Nn, t_V, t_Ve, t_b, t_x, t_w, e_0, e_1, e_2, e_3]
  rw [ml_27 hM hr.1 hr.2, t_b, e2, zJ_sub, ms_27 hM hr.1 hr.2, t_b]
  simp (disch := first | assumption | omega) only [g14_27, t_I, t_Ie, t_R, t_Re, t_N, t_Nn, t_V, t_Ve, t_b, t_x, t_w, e_0, e_1, e_2, e_3]
  rw [ml_27 hM hr.1 hr.2, t_b, wu_eq]
end ZM
