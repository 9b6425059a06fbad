/-! THE TWO SIDES, 42: the reference's calls: bundle -/
section ZM
variable {Y : zLy} {n s : Nat} {X : zX} {G : Nat × Nat} {i j p q r t e : Int}
theorem m_bundleE {u v : Int32} (hM : wM Y) (he : 0 < e ∧ e < 100) : ev_ G 34 88 [.ref (wA Y 14 0), .int (zJ p), .int (zJ q), .int (zJ r), .int (zJ t), .int u, .int v] [.int (zJ e), .ref (wA Y 14 0)] (wd Y n s X) = some (.inl (some (.int (zJ 0))), wd Y n s (wu X 444 0 e)) := by
  have h14 := hM.2.1
  rw [q_X12_bundle_88, k14 h14, m_fails hM (by omega) he.2, t_I, zB_1 he.1, l_0, e_3]
theorem m_bundleG {u v : Int32} (hM : wM Y) (ho : 0 ≤ X 400 0 ∧ X 400 0 < 16) : ev_ G 34 88 [.ref (wA Y 14 0), .int (zJ p), .int (zJ q), .int (zJ r), .int (zJ t), .int u, .int v] [.int (zJ 0), .ref (wA Y 14 0)] (wd Y n s X) = some (.inl (some (.int (zJ (X 400 0)))), wd Y n s (wu (wu (wu (wu (wu (wu X 444 0 0) 1001 (X 400 0) p) 1002 (X 400 0) q) 1003 (X 400 0) r) 1004 (X 400 0) t) 400 0 (X 400 0 + 1))) := by
  have h14 := hM.2.1
  have hI := hM.1
  have e1 : wu X 444 0 0 400 0 = X 400 0 := wu_ne (by decide)
  have e2 : wu (wu X 444 0 0) 1001 (X 400 0) p 400 0 = X 400 0 := by rw [wu_ne (by decide), e1]
  have e3 : wu (wu (wu X 444 0 0) 1001 (X 400 0) p) 1002 (X 400 0) q 400 0 = X 400 0 := by rw [wu_ne (by decide), e2]
  have e4 : wu (wu (wu (wu X 444 0 0) 1001 (X 400 0) p) 1002 (X 400 0) q) 1003 (X 400 0) r 400 0 = X 400 0 := by rw [wu_ne (by decide), e3]
  have e5 : wu (wu (wu (wu (wu X 444 0 0) 1001 (X 400 0) p) 1002 (X 400 0) q) 1003 (X 400 0) r) 1004 (X 400 0) t 400 0 = X 400 0 := by rw [wu_ne (by decide), e4]
  have e6 : ∀ X' : zX, wu X' 400 0 (X 400 0 + 1) 400 0 = X 400 0 + 1 := fun X' => wu_eq
  rw [q_X12_bundle_88, k14 h14, m_fails hM (by decide) (by decide), t_I, zB_0 (by decide), l_0, e_2]
  simp (disch := first | assumption | omega) only [g14_1, g14_0, t_I, t_Ie, t_R, t_Re, t_N, t_Nn, t_V, t_Ve, t_b, t_x, t_w, e_0, e_1, e_2, e_3, e1]
  rw [ms_1 hM ho.1 ho.2, t_b]
  simp (disch := first | assumption | omega) only [g14_2, g14_0, t_I, t_Ie, t_R, t_Re, t_N, t_Nn, t_V, t_Ve, t_b, t_x, t_w, e_0, e_1, e_2, e_3, e2]
  rw [ms_2 hM ho.1 ho.2, t_b]
  simp (disch := first | assumption | omega) only [g14_3, g14_0, t_I, t_Ie, t_R, t_Re, t_N, t_Nn, t_V, t_Ve, t_b, t_x, t_w, e_0, e_1, e_2, e_3, e3]
  rw [ms_3 hM ho.1 ho.2, t_b]
  simp (disch := first | assumption | omega) only [g14_4, g14_0, t_I, t_Ie, t_R, t_Re, t_N, t_Nn, t_V, t_Ve, t_b, t_x, t_w, e_0, e_1, e_2, e_3, e4]
  rw [ms_4 hM ho.1 ho.2, t_b]
  simp (disch := first | assumption | omega) only [g14_0, p14_0, t_I, t_Ie, t_R, t_Re, t_N, t_Nn, t_V, t_Ve, t_b, t_x, t_w, e_0, e_1, e_2, e_3, l_0, l_1, l_2, l_3, l_4, l_5, l_6, l_7, l_8, l_9, l_10, l_12, l_16, l_24, l_31, l_32, l_48, l_96, l_99, l_100, l_150, l_180, l_200, l_240, l_255, l_260, l_384, l_400, l_999, l_5000, l_9999, l_1000000, l_1000000000, zJ_add, zJ_sub, zJ_mul, zJ_neg, e5, e6]
  rw [show X 400 0 + 1 - 1 = X 400 0 by omega]
end ZM
