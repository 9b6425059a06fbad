/-! THE TWO SIDES, 38: the reference's calls: order, crimps, open, ofReel -/
section ZM
variable {Y : zLy} {n s : Nat} {X : zX} {G : Nat × Nat} {i j p q r e : Int}
theorem m_orderG {u : Int32} (hM : wM Y) (ho : 0 ≤ X 417 0 ∧ X 417 0 < 5) : ev_ G 97 45 [.ref (wA Y 14 0), .int (zJ p), .int (zJ q), .int u] [.int (zJ 0), .ref (wA Y 14 0)] (wd Y n s X) = some (.inl (some (.int (zJ (X 417 0)))), wd Y n s (wu (wu (wu (wu X 444 0 0) 1018 (X 417 0) p) 1019 (X 417 0) q) 417 0 (X 417 0 + 1))) := by
  have h14 := hM.2.1
  have hI := hM.1
  have e1 : wu X 444 0 0 417 0 = X 417 0 := if_neg (by omega)
  have e2 : ∀ a b c, wu (wu X 444 0 0) 1018 a b 417 c = X 417 c := fun a b c => by unfold wu; rw [if_neg (by omega), if_neg (by omega)]
  have e3 : ∀ a b c d f, wu (wu (wu X 444 0 0) 1018 a b) 1019 c d 417 f = X 417 f := fun a b c d f => by unfold wu; rw [if_neg (by omega), if_neg (by omega), if_neg (by omega)]
  have e4 : ∀ X' : zX, wu X' 417 0 (X 417 0 + 1) 417 0 = X 417 0 + 1 := fun X' => if_pos ⟨rfl, rfl⟩
  rw [q_X12_order_45, k14 h14, m_fails hM (by decide) (by decide), t_I, zB_0 (by decide), l_0, e_2]
  simp (disch := first | assumption | omega) only [g14_18, g14_17, t_I, t_Ie, t_R, t_Re, t_N, t_Nn, t_V, t_Ve, t_b, t_x, t_w, e_0, e_1, e_2, e_3, e1]
  rw [ms_18 hM ho.1 ho.2, t_b]
  simp (disch := first | assumption | omega) only [g14_19, g14_17, t_I, t_Ie, t_R, t_Re, t_N, t_Nn, t_V, t_Ve, t_b, t_x, t_w, e_0, e_1, e_2, e_3, e2]
  rw [ms_19 hM ho.1 ho.2, t_b]
  simp (disch := first | assumption | omega) only [g14_17, p14_17, t_I, t_Ie, t_R, t_Re, t_N, t_Nn, t_V, t_Ve, t_b, t_x, t_w, e_0, e_1, e_2, e_3, l_0, l_1, l_2, l_3, l_4, l_5, l_6, l_7, l_8, l_9, l_10, l_12, l_16, l_24, l_31, l_32, l_48, l_96, l_99, l_100, l_150, l_180, l_200, l_240, l_255, l_260, l_384, l_400, l_999, l_5000, l_9999, l_1000000, l_1000000000, zJ_add, zJ_sub, zJ_mul, zJ_neg, e3, e4]
  rw [show X 417 0 + 1 - 1 = X 417 0 by omega]
theorem m_crimps0 (hM : wM Y) (hp : -2147483648 ≤ p ∧ p < 2147483648) : ev_ G 125 0 [.ref (wA Y 14 0), .int (zJ p)] [] (wd Y n s X) = ev_ G 125 15 [.ref (wA Y 14 0), .int (zJ p)] [.int (zJ (if 0 ≤ p ∧ p ≤ 2 then 0 else 1)), .ref (wA Y 14 0)] (wd Y n s X) := by
  rw [q_X12_crimps_0, l_0, l_1, l_2, m_isIn hp.1 hp.2 (by decide) (by decide) (by decide) (by decide), t_I]
  by_cases h : 0 ≤ p ∧ p ≤ 2
  · simp only [zB_1 h, z_10, if_false, if_pos h]
  · simp only [zB_0 h, if_true, if_neg h]
theorem m_crimpsE (hM : wM Y) (he : 0 < e ∧ e < 100) : ev_ G 125 15 [.ref (wA Y 14 0), .int (zJ p)] [.int (zJ e), .ref (wA Y 14 0)] (wd Y n s X) = some (.inl (some (.int (zJ 0))), wd Y n s (wu X 444 0 e)) := by
  have h14 := hM.2.1
  rw [q_X12_crimps_15, k14 h14, m_fails hM (by omega) he.2, t_I, zB_1 he.1, l_0, e_3]
end ZM
