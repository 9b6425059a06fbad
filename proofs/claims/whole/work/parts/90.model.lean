/-! THE TWO SIDES, 41: the reference's calls: open, bundle -/
section ZM
variable {Y : zLy} {n s : Nat} {X : zX} {G : Nat × Nat} {i j p q r t e : Int}
theorem m_openG (hM : wM Y) (hp : 0 ≤ p ∧ p < 12) (r2 : 0 ≤ X 1028 p ∧ X 1028 p < 10000) (r3 : 0 ≤ X 424 0 ∧ X 424 0 < 10000) : ev_ G 137 32 [.ref (wA Y 14 0), .int (zJ p), .int (zJ q)] [.int (zJ 0), .ref (wA Y 14 0)] (wd Y n s X) = some (.inl (some (.int (zJ (zclk (X 424 0 + 1) (X 1028 p) (X 424 0) (X 424 0))))), wd Y n s (wu (wu X 444 0 0) 1029 p (X 424 0))) := by
  have h14 := hM.2.1
  have e1 : wu (wu X 444 0 0) 1029 p (X 424 0) 1029 p = X 424 0 := wu_eq
  have e2 : wu (wu X 444 0 0) 1029 p (X 424 0) 1028 p = X 1028 p := by rw [wu_ne (by decide), wu_ne (by decide)]
  have e3 : wu (wu X 444 0 0) 1029 p (X 424 0) 424 0 = X 424 0 := by rw [wu_ne (by decide), wu_ne (by decide)]
  have hr := m_runs (G := G) (n := n) (s := s) (X := wu (wu X 444 0 0) 1029 p (X 424 0)) (i := p) hM hp.1 hp.2 (by rw [e1]; omega) (by rw [e2]; exact r2) (by rw [e3]; exact r3)
  rw [e1, e2, e3] at hr
  rw [q_X12_open_32, k14 h14, m_fails hM (by decide) (by decide), t_I, zB_0 (by decide), l_0, e_2]
  simp (disch := first | assumption | omega) only [g14_29, g14_24, t_I, t_Ie, t_R, t_Re, t_N, t_Nn, t_V, t_Ve, t_b, t_x, t_w, e_0, e_1, e_2, e_3]
  rw [wu_ne (by decide), ms_29 hM hp.1 hp.2, t_b, k14 h14, hr, t_I]
theorem m_bundle0 (hM : wM Y) (hn : 0 ≤ X 400 0 ∧ X 400 0 ≤ 16) (hp : -2147483648 ≤ p ∧ p < 2147483648) (hq : -2147483648 ≤ q ∧ q < 2147483648) (hr : -2147483648 ≤ r ∧ r < 2147483648) (ht : -2147483648 ≤ t ∧ t < 2147483648) : ∃ u v, ev_ G 34 0 [.ref (wA Y 14 0), .int (zJ p), .int (zJ q), .int (zJ r), .int (zJ t), zU, zU] [] (wd Y n s X) = ev_ G 34 88 [.ref (wA Y 14 0), .int (zJ p), .int (zJ q), .int (zJ r), .int (zJ t), .int u, .int v] [.int (zJ (if (0 ≤ p ∧ p < 8) ∧ (0 ≤ q ∧ q < 8) then (if p ≠ q ∧ (1 ≤ r ∧ r ≤ 999) ∧ (1 ≤ t ∧ t ≤ 24) then (if X 400 0 = 16 then 3 else 0) else 2) else 1)), .ref (wA Y 14 0)] (wd Y n s X) := by
  have h14 := hM.2.1
  have h53 : ∀ a b : Int, ev_ G 34 53 [.ref (wA Y 14 0), .int (zJ p), .int (zJ q), .int (zJ r), .int (zJ t), .int (zJ a), zU] [.int (zJ b)] (wd Y n s X) = ev_ G 34 88 [.ref (wA Y 14 0), .int (zJ p), .int (zJ q), .int (zJ r), .int (zJ t), .int (zJ a), .int (zJ b)] [.int (if zJ a = zJ 0 then zJ 1 else if zJ b = zJ 0 then zJ 2 else if X 400 0 = 16 then zJ 3 else zJ 0), .ref (wA Y 14 0)] (wd Y n s X) := by
    intro a b
    rw [q_X12_bundle_53]
    simp (disch := first | assumption | omega) only [g14_0, t_I, t_Ie, t_R, t_Re, t_N, t_Nn, t_V, t_Ve, t_b, t_x, t_w, e_0, e_1, e_2, e_3, l_0, l_1, l_2, l_3, l_4, l_5, l_6, l_7, l_8, l_9, l_10, l_12, l_16, l_24, l_31, l_32, l_48, l_96, l_99, l_100, l_150, l_180, l_200, l_240, l_255, l_260, l_384, l_400, l_999, l_5000, l_9999, l_1000000, l_1000000000, zJ_lt, zJ_le, zJ_eq]
    split
    · rfl
    · split
      · rfl
      · split <;> rfl
  have h19 : ∀ a : Int, ev_ G 34 19 [.ref (wA Y 14 0), .int (zJ p), .int (zJ q), .int (zJ r), .int (zJ t), zU, zU] [.int (zJ a)] (wd Y n s X) = ev_ G 34 53 [.ref (wA Y 14 0), .int (zJ p), .int (zJ q), .int (zJ r), .int (zJ t), .int (zJ a), zU] [.int (zJ (zB (p ≠ q ∧ (1 ≤ r ∧ r ≤ 999) ∧ (1 ≤ t ∧ t ≤ 24))))] (wd Y n s X) := by
    intro a
    rw [q_X12_bundle_19]
    simp (disch := first | assumption | omega) only [l_0, l_1, l_2, l_3, l_4, l_5, l_6, l_7, l_8, l_9, l_10, l_12, l_16, l_24, l_31, l_32, l_48, l_96, l_99, l_100, l_150, l_180, l_200, l_240, l_255, l_260, l_384, l_400, l_999, l_5000, l_9999, l_1000000, l_1000000000, zJ_lt, zJ_le, zJ_eq, m_isIn, t_I, t_Ie, t_R, t_Re, t_N, t_Nn, t_V, t_Ve, t_b, t_x, t_w, e_0, e_1, e_2, e_3]
    by_cases h1 : p = q
    · rw [if_pos h1, zB_0 (fun g => g.1 h1)]
    · rw [if_neg h1]
      by_cases h2 : 1 ≤ r ∧ r ≤ 999
      · by_cases h3 : 1 ≤ t ∧ t ≤ 24
        · simp only [zB_1 h2, zB_1 h3, z_10, if_false, zB_1 (And.intro h1 (And.intro h2 h3))]
        · simp only [zB_1 h2, zB_0 h3, z_10, if_false, if_true, zB_0 (fun g : p ≠ q ∧ (1 ≤ r ∧ r ≤ 999) ∧ (1 ≤ t ∧ t ≤ 24) => h3 g.2.2)]
      · simp only [zB_0 h2, if_true, zB_0 (fun g : p ≠ q ∧ (1 ≤ r ∧ r ≤ 999) ∧ (1 ≤ t ∧ t ≤ 24) => h2 g.2.1)]
  have h0 : ev_ G 34 0 [.ref (wA Y 14 0), .int (zJ p), .int (zJ q), .int (zJ r), .int (zJ t), zU, zU] [] (wd Y n s X) = ev_ G 34 19 [.ref (wA Y 14 0), .int (zJ p), .int (zJ q), .int (zJ r), .int (zJ t), zU, zU] [.int (zJ (zB ((0 ≤ p ∧ p < 8) ∧ (0 ≤ q ∧ q < 8))))] (wd Y n s X) := by
    rw [q_X12_bundle_0, m_isNode hp.1 hp.2, t_I, m_isNode hq.1 hq.2, t_I, l_0, l_1]
    by_cases h2 : 0 ≤ p ∧ p < 8
    · by_cases h3 : 0 ≤ q ∧ q < 8
      · simp only [zB_1 h2, zB_1 h3, z_10, if_false, zB_1 (And.intro h2 h3)]
      · simp only [zB_1 h2, zB_0 h3, z_10, if_false, if_true, zB_0 (fun g : (0 ≤ p ∧ p < 8) ∧ (0 ≤ q ∧ q < 8) => h3 g.2)]
    · simp only [zB_0 h2, if_true, zB_0 (fun g : (0 ≤ p ∧ p < 8) ∧ (0 ≤ q ∧ q < 8) => h2 g.1)]
  have hcode : (if zJ (zB ((0 ≤ p ∧ p < 8) ∧ (0 ≤ q ∧ q < 8))) = zJ 0 then zJ 1 else if zJ (zB (p ≠ q ∧ (1 ≤ r ∧ r ≤ 999) ∧ (1 ≤ t ∧ t ≤ 24))) = zJ 0 then zJ 2 else if X 400 0 = 16 then zJ 3 else zJ 0) = zJ (if (0 ≤ p ∧ p < 8) ∧ (0 ≤ q ∧ q < 8) then (if p ≠ q ∧ (1 ≤ r ∧ r ≤ 999) ∧ (1 ≤ t ∧ t ≤ 24) then (if X 400 0 = 16 then 3 else 0) else 2) else 1) := by
    by_cases h1 : (0 ≤ p ∧ p < 8) ∧ (0 ≤ q ∧ q < 8)
    · by_cases h2 : p ≠ q ∧ (1 ≤ r ∧ r ≤ 999) ∧ (1 ≤ t ∧ t ≤ 24)
      · simp only [zB_1 h1, zB_1 h2, z_10, if_false, if_pos h1, if_pos h2]
        split <;> rfl
      · simp only [zB_1 h1, zB_0 h2, z_10, if_false, if_true, if_pos h1, if_neg h2]
    · simp only [zB_0 h1, if_true, if_neg h1]
  refine ⟨zJ (zB ((0 ≤ p ∧ p < 8) ∧ (0 ≤ q ∧ q < 8))), zJ (zB (p ≠ q ∧ (1 ≤ r ∧ r ≤ 999) ∧ (1 ≤ t ∧ t ≤ 24))), ?_⟩
  rw [h0, h19, h53, hcode]
end ZM
