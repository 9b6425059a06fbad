/-! THE TWO SIDES, 44: the reference's calls: connector, on -/
section ZM
variable {Y : zLy} {n s : Nat} {X : zX} {G : Nat × Nat} {i j p q r t e : Int}
theorem m_connectorG {u : Int32} (hM : wM Y) (ho : 0 ≤ X 405 0 ∧ X 405 0 < 8) : ev_ G 40 62 [.ref (wA Y 14 0), .int (zJ p), .int (zJ q), .int (zJ r), .int u] [.int (zJ 0), .ref (wA Y 14 0)] (wd Y n s X) = some (.inl (some (.int (zJ (X 405 0)))), wd Y n s (wu (wu (wu (wu (wu X 444 0 0) 1006 (X 405 0) p) 1007 (X 405 0) q) 1008 (X 405 0) r) 405 0 (X 405 0 + 1))) := by
  have h14 := hM.2.1
  have hI := hM.1
  have e1 : wu X 444 0 0 405 0 = X 405 0 := wu_ne (by decide)
  have e2 : wu (wu X 444 0 0) 1006 (X 405 0) p 405 0 = X 405 0 := by rw [wu_ne (by decide), e1]
  have e3 : wu (wu (wu X 444 0 0) 1006 (X 405 0) p) 1007 (X 405 0) q 405 0 = X 405 0 := by rw [wu_ne (by decide), e2]
  have e4 : wu (wu (wu (wu X 444 0 0) 1006 (X 405 0) p) 1007 (X 405 0) q) 1008 (X 405 0) r 405 0 = X 405 0 := by rw [wu_ne (by decide), e3]
  have e6 : ∀ X' : zX, wu X' 405 0 (X 405 0 + 1) 405 0 = X 405 0 + 1 := fun X' => wu_eq
  rw [q_X12_connector_62, k14 h14, m_fails hM (by decide) (by decide), t_I, zB_0 (by decide), l_0, e_2]
  simp (disch := first | assumption | omega) only [g14_6, g14_5, t_I, t_Ie, t_R, t_Re, t_N, t_Nn, t_V, t_Ve, t_b, t_x, t_w, e_0, e_1, e_2, e_3, e1]
  rw [ms_6 hM ho.1 ho.2, t_b]
  simp (disch := first | assumption | omega) only [g14_7, g14_5, t_I, t_Ie, t_R, t_Re, t_N, t_Nn, t_V, t_Ve, t_b, t_x, t_w, e_0, e_1, e_2, e_3, e2]
  rw [ms_7 hM ho.1 ho.2, t_b]
  simp (disch := first | assumption | omega) only [g14_8, g14_5, t_I, t_Ie, t_R, t_Re, t_N, t_Nn, t_V, t_Ve, t_b, t_x, t_w, e_0, e_1, e_2, e_3, e3]
  rw [ms_8 hM ho.1 ho.2, t_b]
  simp (disch := first | assumption | omega) only [g14_5, p14_5, t_I, t_Ie, t_R, t_Re, t_N, t_Nn, t_V, t_Ve, t_b, t_x, t_w, e_0, e_1, e_2, e_3, l_0, l_1, l_2, l_3, l_4, l_5, l_6, l_7, l_8, l_9, l_10, l_12, l_16, l_24, l_31, l_32, l_48, l_96, l_99, l_100, l_150, l_180, l_200, l_240, l_255, l_260, l_384, l_400, l_999, l_5000, l_9999, l_1000000, l_1000000000, zJ_add, zJ_sub, zJ_mul, zJ_neg, e4, e6]
  rw [show X 405 0 + 1 - 1 = X 405 0 by omega]
end ZM
