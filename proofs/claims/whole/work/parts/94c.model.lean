/-! THE TWO SIDES, 47: the reference's calls: pull, ofWire -/
section ZM
variable {Y : zLy} {n s : Nat} {X : zX} {G : Nat × Nat} {i j p q r t e : Int}
theorem m_pull0 (hM : wM Y) (hw : wWm X) (hp : -2147483648 ≤ p ∧ p < 2147483648) : ev_ G 83 0 [.ref (wA Y 14 0), .int (zJ p), zU, zU] [] (wd Y n s X) = ev_ G 83 27 [.ref (wA Y 14 0), .int (zJ p), zU, zU] [.int (zJ (if 0 ≤ p ∧ p < X 410 0 then (if X 1011 p = 0 then 0 else 2) else 1)), .ref (wA Y 14 0)] (wd Y n s X) := by
  have h14 := hM.2.1
  have hn := hw.1
  rw [q_X12_pull_0, k14 h14, m_isWire hM (by omega) hp.1 hp.2, t_I, l_0, l_1, l_2]
  by_cases h : 0 ≤ p ∧ p < X 410 0
  · obtain ⟨-, r2, -⟩ := hw.2 p h.1 h.2
    simp only [zB_1 h, z_10, if_false, if_pos h]
    simp (disch := first | assumption | omega) only [g14_11, t_I, t_Ie, t_R, t_Re, t_N, t_Nn, t_V, t_Ve, t_b, t_x, t_w, e_0, e_1, e_2, e_3]
    rw [ml_11 hM h.1 (by omega), t_b]
    simp (disch := first | assumption | omega) only [zJ_lt, zJ_le, zJ_eq]
    split <;> rfl
  · simp only [zB_0 h, if_true, if_neg h]
theorem m_pullE (hM : wM Y) (he : 0 < e ∧ e < 100) : ev_ G 83 27 [.ref (wA Y 14 0), .int (zJ p), zU, zU] [.int (zJ e), .ref (wA Y 14 0)] (wd Y n s X) = some (.inl (some (.int (zJ 0))), wd Y n s (wu X 444 0 e)) := by
  have h14 := hM.2.1
  rw [q_X12_pull_27, k14 h14, m_fails hM (by omega) he.2, t_I, zB_1 he.1, l_0, e_3]
theorem m_ofWireE (hM : wM Y) (he : 0 < e ∧ e < 100) : ev_ G 87 19 [.ref (wA Y 14 0), .int (zJ p), .int (zJ q)] [.int (zJ e), .ref (wA Y 14 0)] (wd Y n s X) = some (.inl (some (.int (zJ 0))), wd Y n s (wu X 444 0 e)) := by
  have h14 := hM.2.1
  rw [q_X12_ofWire_19, k14 h14, m_fails hM (by omega) he.2, t_I, zB_1 he.1, l_0, e_3]
end ZM
