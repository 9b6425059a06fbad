/-! THE TWO SIDES, 43: the reference's calls: connector -/
section ZM
variable {Y : zLy} {n s : Nat} {X : zX} {G : Nat × Nat} {i j p q r t e : Int}
theorem m_connector0 (hM : wM Y) (hn : 0 ≤ X 405 0 ∧ X 405 0 ≤ 8) (hp : -2147483648 ≤ p ∧ p < 2147483648) (hq : -2147483648 ≤ q ∧ q < 2147483648) (hr : -2147483648 ≤ r ∧ r < 2147483648) : ∃ u, ev_ G 40 0 [.ref (wA Y 14 0), .int (zJ p), .int (zJ q), .int (zJ r), zU] [] (wd Y n s X) = ev_ G 40 62 [.ref (wA Y 14 0), .int (zJ p), .int (zJ q), .int (zJ r), .int u] [.int (zJ (if 0 ≤ p ∧ p < 8 then (if (1 ≤ q ∧ q ≤ 8) ∧ (0 ≤ r ∧ r ≤ 9) then (if X 405 0 = 8 then 3 else 0) else 2) else 1)), .ref (wA Y 14 0)] (wd Y n s X) := by
  have h14 := hM.2.1
  have h25 : ∀ a : Int, ev_ G 40 25 [.ref (wA Y 14 0), .int (zJ p), .int (zJ q), .int (zJ r), zU] [.int (zJ a)] (wd Y n s X) = ev_ G 40 62 [.ref (wA Y 14 0), .int (zJ p), .int (zJ q), .int (zJ r), .int (zJ a)] [.int (if 0 ≤ p ∧ p < 8 then (if zJ a = zJ 0 then zJ 2 else if X 405 0 = 8 then zJ 3 else zJ 0) else zJ 1), .ref (wA Y 14 0)] (wd Y n s X) := by
    intro a
    rw [q_X12_connector_25, m_isNode hp.1 hp.2, t_I]
    simp (disch := first | assumption | omega) only [g14_5, t_I, t_Ie, t_R, t_Re, t_N, t_Nn, t_V, t_Ve, t_b, t_x, t_w, e_0, e_1, e_2, e_3, l_0, l_1, l_2, l_3, l_4, l_5, l_6, l_7, l_8, l_9, l_10, l_12, l_16, l_24, l_31, l_32, l_48, l_96, l_99, l_100, l_150, l_180, l_200, l_240, l_255, l_260, l_384, l_400, l_999, l_5000, l_9999, l_1000000, l_1000000000, zJ_lt, zJ_le, zJ_eq]
    by_cases h : 0 ≤ p ∧ p < 8
    · simp only [zB_1 h, z_10, if_false, if_pos h]
      split
      · rfl
      · split <;> rfl
    · simp only [zB_0 h, if_true, if_neg h]
  have h0 : ev_ G 40 0 [.ref (wA Y 14 0), .int (zJ p), .int (zJ q), .int (zJ r), zU] [] (wd Y n s X) = ev_ G 40 25 [.ref (wA Y 14 0), .int (zJ p), .int (zJ q), .int (zJ r), zU] [.int (zJ (zB ((1 ≤ q ∧ q ≤ 8) ∧ (0 ≤ r ∧ r ≤ 9))))] (wd Y n s X) := by
    rw [q_X12_connector_0]
    simp (disch := first | assumption | omega) only [l_0, l_1, l_2, l_3, l_4, l_5, l_6, l_7, l_8, l_9, l_10, l_12, l_16, l_24, l_31, l_32, l_48, l_96, l_99, l_100, l_150, l_180, l_200, l_240, l_255, l_260, l_384, l_400, l_999, l_5000, l_9999, l_1000000, l_1000000000, m_isIn, t_I, t_Ie, t_R, t_Re, t_N, t_Nn, t_V, t_Ve, t_b, t_x, t_w, e_0, e_1, e_2, e_3]
    by_cases h2 : 1 ≤ q ∧ q ≤ 8
    · by_cases h3 : 0 ≤ r ∧ r ≤ 9
      · simp only [zB_1 h2, zB_1 h3, z_10, if_false, zB_1 (And.intro h2 h3)]
      · simp only [zB_1 h2, zB_0 h3, z_10, if_false, if_true, zB_0 (fun g : (1 ≤ q ∧ q ≤ 8) ∧ (0 ≤ r ∧ r ≤ 9) => h3 g.2)]
    · simp only [zB_0 h2, if_true, zB_0 (fun g : (1 ≤ q ∧ q ≤ 8) ∧ (0 ≤ r ∧ r ≤ 9) => h2 g.1)]
  refine ⟨zJ (zB ((1 ≤ q ∧ q ≤ 8) ∧ (0 ≤ r ∧ r ≤ 9))), ?_⟩
  have hcode : (if 0 ≤ p ∧ p < 8 then (if zJ (zB ((1 ≤ q ∧ q ≤ 8) ∧ (0 ≤ r ∧ r ≤ 9))) = zJ 0 then zJ 2 else if X 405 0 = 8 then zJ 3 else zJ 0) else zJ 1) = zJ (if 0 ≤ p ∧ p < 8 then (if (1 ≤ q ∧ q ≤ 8) ∧ (0 ≤ r ∧ r ≤ 9) then (if X 405 0 = 8 then 3 else 0) else 2) else 1) := by
    by_cases h1 : 0 ≤ p ∧ p < 8
    · by_cases h2 : (1 ≤ q ∧ q ≤ 8) ∧ (0 ≤ r ∧ r ≤ 9)
      · simp only [zB_1 h2, z_10, if_false, if_pos h1, if_pos h2]
        split <;> rfl
      · simp only [zB_0 h2, if_true, if_pos h1, if_neg h2]
    · simp only [if_neg h1]
  rw [h0, h25, hcode]
theorem m_connectorE {u : Int32} (hM : wM Y) (he : 0 < e ∧ e < 100) : ev_ G 40 62 [.ref (wA Y 14 0), .int (zJ p), .int (zJ q), .int (zJ r), .int u] [.int (zJ e), .ref (wA Y 14 0)] (wd Y n s X) = some (.inl (some (.int (zJ 0))), wd Y n s (wu X 444 0 e)) := by
  have h14 := hM.2.1
  rw [q_X12_connector_62, k14 h14, m_fails hM (by omega) he.2, t_I, zB_1 he.1, l_0, e_3]
end ZM
