/-! THE TWO SIDES, 50: the reference's calls: place's code -/
section ZM
variable {Y : zLy} {n s : Nat} {X : zX} {G : Nat × Nat} {i j p q r t e : Int}
theorem m_place0 (hM : wM Y) (hn : 0 ≤ X 434 0 ∧ X 434 0 ≤ 12) (hn2 : 0 ≤ X 425 0 ∧ X 425 0 ≤ 12) (hp : -2147483648 ≤ p ∧ p < 2147483648) (hq : -2147483648 ≤ q ∧ q < 2147483648) (hr : -2147483648 ≤ r ∧ r < 2147483648) (hs : ∀ b, 0 ≤ b → b < 12 → 0 ≤ X 1035 b ∧ X 1035 b ≤ 1) (hk : ∀ k, 0 ≤ k → k < 96 → -1 ≤ X 1038 k ∧ X 1038 k < 12) (hre : ∀ k, 0 ≤ k → k < 12 → (-1 ≤ X 1029 k ∧ X 1029 k < 10000) ∧ (0 ≤ X 1028 k ∧ X 1028 k < 10000) ∧ (0 ≤ X 1027 k ∧ X 1027 k < 1000)) (hm : 0 ≤ X 424 0 ∧ X 424 0 < 10000) : ∃ u v, ev_ G 156 0 [.ref (wA Y 14 0), .int (zJ p), .int (zJ q), .int (zJ r), zU, zU] [] (wd Y n s X) = ev_ G 156 94 [.ref (wA Y 14 0), .int (zJ p), .int (zJ q), .int (zJ r), .int u, .int v] [.int (zJ (if (0 ≤ p ∧ p < X 434 0) ∧ (0 ≤ q ∧ q < 8) ∧ (0 ≤ r ∧ r < X 425 0) then (if X 1035 p = 0 ∧ X 1038 (8 * p + q) = -1 ∧ (0 < X 1027 r ∧ zclk (X 1029 r + 1) (X 1028 r) (X 1029 r) (X 424 0) ≠ -1) then 0 else 2) else 1)), .ref (wA Y 14 0)] (wd Y n s X) := by
  have h14 := hM.2.1
  have h72 : ∀ a b : Int, ev_ G 156 72 [.ref (wA Y 14 0), .int (zJ p), .int (zJ q), .int (zJ r), .int (zJ a), zU] [.int (zJ b)] (wd Y n s X) = ev_ G 156 94 [.ref (wA Y 14 0), .int (zJ p), .int (zJ q), .int (zJ r), .int (zJ a), .int (zJ b)] [.int (if zJ a = zJ 0 then zJ 1 else if zJ b = zJ 0 then zJ 2 else zJ 0), .ref (wA Y 14 0)] (wd Y n s X) := by
    intro a b
    rw [q_X12_place_72]
    simp only [l_0, l_1, l_2, l_3, l_4, l_5, l_6, l_7, l_8, l_9, l_10, l_12, l_16, l_24, l_31, l_32, l_48, l_96, l_99, l_100, l_150, l_180, l_200, l_240, l_255, l_260, l_384, l_400, l_999, l_5000, l_9999, l_1000000, l_1000000000]
    by_cases ha : zJ a = zJ 0
    · simp only [ha, if_true]
    · simp only [ha, if_false]
      by_cases hb : zJ b = zJ 0
      · simp only [hb, if_true]
      · simp only [hb, if_false]
  have h0 : ev_ G 156 0 [.ref (wA Y 14 0), .int (zJ p), .int (zJ q), .int (zJ r), zU, zU] [] (wd Y n s X) = ev_ G 156 28 [.ref (wA Y 14 0), .int (zJ p), .int (zJ q), .int (zJ r), zU, zU] [.int (zJ (zB ((0 ≤ p ∧ p < X 434 0) ∧ (0 ≤ q ∧ q < 8) ∧ (0 ≤ r ∧ r < X 425 0))))] (wd Y n s X) := by
    rw [q_X12_place_0, k14 h14, m_isBoard hM (by omega) hp.1 hp.2, t_I, m_isSlot hq.1 hq.2, t_I, k14 h14, m_isReel hM (by omega) hr.1 hr.2, t_I, l_0, l_1]
    by_cases h1 : 0 ≤ p ∧ p < X 434 0
    · by_cases h2 : 0 ≤ q ∧ q < 8
      · by_cases h3 : 0 ≤ r ∧ r < X 425 0
        · simp only [zB_1 h1, zB_1 h2, zB_1 h3, z_10, if_false, zB_1 (And.intro h1 (And.intro h2 h3))]
        · simp only [zB_1 h1, zB_1 h2, zB_0 h3, z_10, if_false, if_true, zB_0 (fun g : (0 ≤ p ∧ p < X 434 0) ∧ (0 ≤ q ∧ q < 8) ∧ (0 ≤ r ∧ r < X 425 0) => h3 g.2.2)]
      · simp only [zB_1 h1, zB_0 h2, z_10, if_false, if_true, zB_0 (fun g : (0 ≤ p ∧ p < X 434 0) ∧ (0 ≤ q ∧ q < 8) ∧ (0 ≤ r ∧ r < X 425 0) => h2 g.2.1)]
    · simp only [zB_0 h1, if_true, zB_0 (fun g : (0 ≤ p ∧ p < X 434 0) ∧ (0 ≤ q ∧ q < 8) ∧ (0 ≤ r ∧ r < X 425 0) => h1 g.1)]
  by_cases h : (0 ≤ p ∧ p < X 434 0) ∧ (0 ≤ q ∧ q < 8) ∧ (0 ≤ r ∧ r < X 425 0)
  · obtain ⟨h1, h2, h3⟩ := h
    have hx := hs p h1.1 (by omega)
    have hy := hk (8 * p + q) (by omega) (by omega)
    obtain ⟨z1, z2, z3⟩ := hre r h3.1 (by omega)
    have hg := m_gives (G := G) (n := n) (s := s) (X := X) (i := r) hM h3.1 (by omega) z1 z2 hm z3
    refine ⟨zJ 1, zJ (zB (X 1035 p = 0 ∧ X 1038 (8 * p + q) = -1 ∧ (0 < X 1027 r ∧ zclk (X 1029 r + 1) (X 1028 r) (X 1029 r) (X 424 0) ≠ -1))), ?_⟩
    have h28 : ev_ G 156 28 [.ref (wA Y 14 0), .int (zJ p), .int (zJ q), .int (zJ r), zU, zU] [.int (zJ 1)] (wd Y n s X) = ev_ G 156 72 [.ref (wA Y 14 0), .int (zJ p), .int (zJ q), .int (zJ r), .int (zJ 1), zU] [.int (zJ (zB (X 1035 p = 0 ∧ X 1038 (8 * p + q) = -1 ∧ (0 < X 1027 r ∧ zclk (X 1029 r + 1) (X 1028 r) (X 1029 r) (X 424 0) ≠ -1))))] (wd Y n s X) := by
      rw [q_X12_place_28, e_1]
      simp (disch := first | assumption | omega) only [g14_35, g14_38, t_I, t_Ie, t_R, t_Re, t_N, t_Nn, t_V, t_Ve, t_b, t_x, t_w, e_0, e_1, e_2, e_3, l_0, l_1, l_2, l_3, l_4, l_5, l_6, l_7, l_8, l_9, l_10, l_12, l_16, l_24, l_31, l_32, l_48, l_96, l_99, l_100, l_150, l_180, l_200, l_240, l_255, l_260, l_384, l_400, l_999, l_5000, l_9999, l_1000000, l_1000000000, zJ_add, zJ_sub, zJ_mul, zJ_neg]
      rw [ml_35 hM h1.1 (by omega), t_b, ml_38 hM (by omega) (by omega), t_b, k14 h14, hg, t_I]
      simp (disch := first | assumption | omega) only [zJ_lt, zJ_le, zJ_eq]
      by_cases q1 : X 1035 p = 0
      · rw [if_pos q1]
        by_cases q2 : X 1038 (8 * p + q) = -1
        · rw [if_pos q2]
          by_cases q3 : 0 < X 1027 r ∧ zclk (X 1029 r + 1) (X 1028 r) (X 1029 r) (X 424 0) ≠ -1
          · simp only [zB_1 q3, z_10, if_false, zB_1 (And.intro q1 (And.intro q2 q3))]
          · rw [zB_0 q3, zB_0 (fun g => q3 g.2.2)]
            simp only [if_true]
        · rw [if_neg q2, zB_0 (fun g => q2 g.2.1)]
      · rw [if_neg q1, zB_0 (fun g => q1 g.1)]
    rw [h0, zB_1 (And.intro h1 (And.intro h2 h3)), h28, h72, if_pos (And.intro h1 (And.intro h2 h3))]
    by_cases q4 : X 1035 p = 0 ∧ X 1038 (8 * p + q) = -1 ∧ (0 < X 1027 r ∧ zclk (X 1029 r + 1) (X 1028 r) (X 1029 r) (X 424 0) ≠ -1)
    · simp only [zB_1 q4, z_10, if_false, if_pos q4]
    · simp only [zB_0 q4, z_10, if_false, if_true, if_neg q4]
  · refine ⟨zJ 0, zJ 0, ?_⟩
    rw [h0, zB_0 h, q_X12_place_28, e_0, l_0, h72, if_neg h]
    rfl
end ZM
