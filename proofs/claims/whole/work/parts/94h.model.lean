/-! THE TWO SIDES, 52: the reference's calls by cases: mates, crimp, limits, solder -/
section ZM
variable {Y : zLy} {n s : Nat} {X : zX} {G : Nat × Nat} {i j p q r t e : Int} {X0 : zX}
theorem m_mates (hM : wM Y) (h0 : wu X 444 0 0 = X0) (hn : 0 ≤ X0 405 0 ∧ X0 405 0 ≤ 8) (hr : ∀ c, 0 ≤ c → c < 8 → 0 ≤ X0 1007 c ∧ X0 1007 c < 100 ∧ 0 ≤ X0 1008 c ∧ X0 1008 c < 100 ∧ -1 ≤ X0 1009 c ∧ X0 1009 c < 100) (hp : -2147483648 ≤ p ∧ p < 2147483648) (hq : -2147483648 ≤ q ∧ q < 2147483648) : (¬((0 ≤ p ∧ p < X0 405 0) ∧ (0 ≤ q ∧ q < X0 405 0)) → ev_ G 52 0 [.ref (wA Y 14 0), .int (zJ p), .int (zJ q), zU, zU, zU, zU] [] (wd Y n s X) = zfl Y n s X 1) ∧ (((0 ≤ p ∧ p < X0 405 0) ∧ (0 ≤ q ∧ q < X0 405 0)) → p = q → ev_ G 52 0 [.ref (wA Y 14 0), .int (zJ p), .int (zJ q), zU, zU, zU, zU] [] (wd Y n s X) = zfl Y n s X 2) ∧ (((0 ≤ p ∧ p < X0 405 0) ∧ (0 ≤ q ∧ q < X0 405 0)) → p ≠ q → ¬((X0 1007 p = X0 1007 q ∧ X0 1008 p = X0 1008 q) ∧ X0 1009 p = -1 ∧ X0 1009 q = -1) → ev_ G 52 0 [.ref (wA Y 14 0), .int (zJ p), .int (zJ q), zU, zU, zU, zU] [] (wd Y n s X) = zfl Y n s X 3) ∧ (((0 ≤ p ∧ p < X0 405 0) ∧ (0 ≤ q ∧ q < X0 405 0)) → p ≠ q → ((X0 1007 p = X0 1007 q ∧ X0 1008 p = X0 1008 q) ∧ X0 1009 p = -1 ∧ X0 1009 q = -1) → ev_ G 52 0 [.ref (wA Y 14 0), .int (zJ p), .int (zJ q), zU, zU, zU, zU] [] (wd Y n s X) = some (.inl (some (.int (zJ (0 + zsm (zprm (wu (wu X0 1009 p q) 1009 q p)) 0 (X0 405 0).toNat)))), wd Y n s (wu (wu X0 1009 p q) 1009 q p))) := by
  have h14 := hM.2.1
  have hX : ∀ f j, f ≠ 444 → X f j = X0 f j := fun f j h => by rw [← h0]; exact (wu_ne h).symm
  have x405 : X 405 0 = X0 405 0 := hX _ _ (by decide)
  have x7 : ∀ j, X 1007 j = X0 1007 j := fun j => hX _ _ (by decide)
  have x8 : ∀ j, X 1008 j = X0 1008 j := fun j => hX _ _ (by decide)
  have x9 : ∀ j, X 1009 j = X0 1009 j := fun j => hX _ _ (by decide)
  have hr' : ∀ c, 0 ≤ c → c < 8 → 0 ≤ X 1007 c ∧ X 1007 c < 100 ∧ 0 ≤ X 1008 c ∧ X 1008 c < 100 ∧ -1 ≤ X 1009 c ∧ X 1009 c < 100 := fun c a b => by rw [x7, x8, x9]; exact hr c a b
  have c1 := m_isConnector (G := G) (n := n) (s := s) (X := X) (a := p) hM (by omega) hp.1 hp.2
  have c2 := m_isConnector (G := G) (n := n) (s := s) (X := X) (a := q) hM (by omega) hq.1 hq.2
  rw [x405] at c1 c2
  refine ⟨fun h => ?_, fun h h2 => ?_, fun h h2 h3 => ?_, fun h h2 h3 => ?_⟩
  · by_cases g1 : 0 ≤ p ∧ p < X0 405 0
    · by_cases g2 : 0 ≤ q ∧ q < X0 405 0
      · exact absurd ⟨g1, g2⟩ h
      · simp (disch := first | assumption | omega) only [q_X12_mates_0, q_X12_mates_21, q_X12_mates_74, ↓reduceIte, zB_if, ite_not, z_10, z_00, i_10, i_00, if_true, if_false, m_fz hM, m_fe hM, k14 h14, wu_eq, wu_ne, l_0, l_1, l_2, l_3, l_4, l_5, l_6, l_7, l_8, l_9, l_10, l_12, l_16, l_24, l_31, l_32, l_48, l_96, l_99, l_100, l_150, l_180, l_200, l_240, l_255, l_260, l_384, l_400, l_999, l_5000, l_9999, l_1000000, l_1000000000, t_I, t_Ie, t_R, t_Re, t_N, t_Nn, t_V, t_Ve, t_b, t_x, t_w, e_0, e_1, e_2, e_3, c1, c2, g1, g2, and_self]; rfl
    · simp (disch := first | assumption | omega) only [q_X12_mates_0, q_X12_mates_21, q_X12_mates_74, ↓reduceIte, zB_if, ite_not, z_10, z_00, i_10, i_00, if_true, if_false, m_fz hM, m_fe hM, k14 h14, wu_eq, wu_ne, l_0, l_1, l_2, l_3, l_4, l_5, l_6, l_7, l_8, l_9, l_10, l_12, l_16, l_24, l_31, l_32, l_48, l_96, l_99, l_100, l_150, l_180, l_200, l_240, l_255, l_260, l_384, l_400, l_999, l_5000, l_9999, l_1000000, l_1000000000, t_I, t_Ie, t_R, t_Re, t_N, t_Nn, t_V, t_Ve, t_b, t_x, t_w, e_0, e_1, e_2, e_3, c1, g1, and_self]; rfl
  · subst h2
    have g1 := h.1
    simp (disch := first | assumption | omega) only [q_X12_mates_0, q_X12_mates_21, q_X12_mates_74, ↓reduceIte, zB_if, ite_not, z_10, z_00, i_10, i_00, if_true, if_false, m_fz hM, m_fe hM, k14 h14, wu_eq, wu_ne, l_0, l_1, l_2, l_3, l_4, l_5, l_6, l_7, l_8, l_9, l_10, l_12, l_16, l_24, l_31, l_32, l_48, l_96, l_99, l_100, l_150, l_180, l_200, l_240, l_255, l_260, l_384, l_400, l_999, l_5000, l_9999, l_1000000, l_1000000000, t_I, t_Ie, t_R, t_Re, t_N, t_Nn, t_V, t_Ve, t_b, t_x, t_w, e_0, e_1, e_2, e_3, c1, c2, g1, and_self]; rfl
  · obtain ⟨g1, g2⟩ := h
    have f1 := m_fit (G := G) (n := n) (s := s) (X := X) (i := p) (j := q) hM g1.1 (by omega) g2.1 (by omega) (fun a ha => by
      have z1 := hr' p g1.1 (by omega)
      have z2 := hr' q g2.1 (by omega)
      omega)
    have z1 := hr p g1.1 (by omega)
    have z2 := hr q g2.1 (by omega)
    rw [x7, x7, x8, x8] at f1
    by_cases h4 : X0 1007 p = X0 1007 q ∧ X0 1008 p = X0 1008 q
    · by_cases h5 : X0 1009 p = -1
      · have h6 : ¬X0 1009 q = -1 := fun g => h3 ⟨h4, h5, g⟩
        simp (disch := first | assumption | omega) only [q_X12_mates_0, q_X12_mates_21, q_X12_mates_74, ↓reduceIte, zB_if, ite_not, z_10, z_00, i_10, i_00, if_true, if_false, m_fz hM, m_fe hM, k14 h14, wu_eq, wu_ne, l_0, l_1, l_2, l_3, l_4, l_5, l_6, l_7, l_8, l_9, l_10, l_12, l_16, l_24, l_31, l_32, l_48, l_96, l_99, l_100, l_150, l_180, l_200, l_240, l_255, l_260, l_384, l_400, l_999, l_5000, l_9999, l_1000000, l_1000000000, t_I, t_Ie, t_R, t_Re, t_N, t_Nn, t_V, t_Ve, t_b, t_x, t_w, e_0, e_1, e_2, e_3, zJ_lt, zJ_le, zJ_eq, zJ_add, zJ_sub, zJ_mul, zJ_neg, c1, c2, f1, g14_9, ml_9 hM, g1, g2, h2, h4, h5, h6, x9, and_self]; rfl
      · simp (disch := first | assumption | omega) only [q_X12_mates_0, q_X12_mates_21, q_X12_mates_74, ↓reduceIte, zB_if, ite_not, z_10, z_00, i_10, i_00, if_true, if_false, m_fz hM, m_fe hM, k14 h14, wu_eq, wu_ne, l_0, l_1, l_2, l_3, l_4, l_5, l_6, l_7, l_8, l_9, l_10, l_12, l_16, l_24, l_31, l_32, l_48, l_96, l_99, l_100, l_150, l_180, l_200, l_240, l_255, l_260, l_384, l_400, l_999, l_5000, l_9999, l_1000000, l_1000000000, t_I, t_Ie, t_R, t_Re, t_N, t_Nn, t_V, t_Ve, t_b, t_x, t_w, e_0, e_1, e_2, e_3, zJ_lt, zJ_le, zJ_eq, zJ_add, zJ_sub, zJ_mul, zJ_neg, c1, c2, f1, g14_9, ml_9 hM, g1, g2, h2, h4, h5, x9, and_self]; rfl
    · simp (disch := first | assumption | omega) only [q_X12_mates_0, q_X12_mates_21, q_X12_mates_74, ↓reduceIte, zB_if, ite_not, z_10, z_00, i_10, i_00, if_true, if_false, m_fz hM, m_fe hM, k14 h14, wu_eq, wu_ne, l_0, l_1, l_2, l_3, l_4, l_5, l_6, l_7, l_8, l_9, l_10, l_12, l_16, l_24, l_31, l_32, l_48, l_96, l_99, l_100, l_150, l_180, l_200, l_240, l_255, l_260, l_384, l_400, l_999, l_5000, l_9999, l_1000000, l_1000000000, t_I, t_Ie, t_R, t_Re, t_N, t_Nn, t_V, t_Ve, t_b, t_x, t_w, e_0, e_1, e_2, e_3, zJ_lt, zJ_le, zJ_eq, zJ_add, zJ_sub, zJ_mul, zJ_neg, c1, c2, f1, g14_9, ml_9 hM, g1, g2, h2, h4, x9, and_self]; rfl
  · obtain ⟨g1, g2⟩ := h
    have f1 := m_fit (G := G) (n := n) (s := s) (X := X) (i := p) (j := q) hM g1.1 (by omega) g2.1 (by omega) (fun a ha => by
      have z1 := hr' p g1.1 (by omega)
      have z2 := hr' q g2.1 (by omega)
      omega)
    rw [x7, x7, x8, x8] at f1
    obtain ⟨h4, h5, h6⟩ := h3
    have e5 : wu (wu X0 1009 p q) 1009 q p 405 0 = X0 405 0 := by rw [wu_ne (by decide), wu_ne (by decide)]
    have hr2 : ∀ c, 0 ≤ c → c < 8 → 0 ≤ wu (wu X0 1009 p q) 1009 q p 1007 c ∧ wu (wu X0 1009 p q) 1009 q p 1007 c < 100 ∧ 0 ≤ wu (wu X0 1009 p q) 1009 q p 1008 c ∧ wu (wu X0 1009 p q) 1009 q p 1008 c < 100 ∧ -1 ≤ wu (wu X0 1009 p q) 1009 q p 1009 c ∧ wu (wu X0 1009 p q) 1009 q p 1009 c < 100 := by
      intro c a b
      obtain ⟨a1, a2, a3, a4, a5, a6⟩ := hr c a b
      have a7 : -1 ≤ wu (wu X0 1009 p q) 1009 q p 1009 c ∧ wu (wu X0 1009 p q) 1009 q p 1009 c < 100 := by
        simp only [wu, true_and]
        split
        · omega
        · split <;> omega
      rw [wu_ne (by decide), wu_ne (by decide), wu_ne (by decide), wu_ne (by decide)]
      exact ⟨a1, a2, a3, a4, a7⟩
    have hp1 := m_pairs1 (G := G) (n := n) (s := s) (X := wu (wu X0 1009 p q) 1009 q p) (c := p) (d := q) (e := 1) hM (by rw [e5]; exact hn) hr2 (X0 405 0).toNat 0 0 zU (by omega) (by rw [e5]; omega)
    simp (disch := first | assumption | omega) only [q_X12_mates_0, q_X12_mates_21, q_X12_mates_74, ↓reduceIte, zB_if, ite_not, z_10, z_00, i_10, i_00, if_true, if_false, m_fz hM, m_fe hM, k14 h14, wu_eq, wu_ne, l_0, l_1, l_2, l_3, l_4, l_5, l_6, l_7, l_8, l_9, l_10, l_12, l_16, l_24, l_31, l_32, l_48, l_96, l_99, l_100, l_150, l_180, l_200, l_240, l_255, l_260, l_384, l_400, l_999, l_5000, l_9999, l_1000000, l_1000000000, t_I, t_Ie, t_R, t_Re, t_N, t_Nn, t_V, t_Ve, t_b, t_x, t_w, e_0, e_1, e_2, e_3, zJ_lt, zJ_le, zJ_eq, zJ_add, zJ_sub, zJ_mul, zJ_neg, c1, c2, f1, g14_9, ml_9 hM, ms_9 hM, g1, g2, h2, h4, h5, h6, x9, h0, and_self]
    exact hp1
theorem m_crimp (hM : wM Y) (h0 : wu X 444 0 0 = X0) (hp : -2147483648 ≤ p ∧ p < 2147483648) (hg : 0 ≤ X0 422 0 ∧ X0 422 0 < 100000) (hc : 0 ≤ X0 421 0 ∧ X0 421 0 < 100000) (hf : ∀ k, 0 ≤ k → k < 8 → 0 ≤ X0 1023 k ∧ X0 1023 k < 10000) (hw : 0 ≤ zwin2 X0 ∧ zwin2 X0 < 10000) : (¬(1 ≤ p ∧ p ≤ 9999) → ev_ G 122 0 [.ref (wA Y 14 0), .int (zJ p), zU, zU] [] (wd Y n s X) = zfl Y n s X 1) ∧ ((1 ≤ p ∧ p ≤ 9999) → ¬(X0 422 0 < 3 ∨ 10 * (if zwin2 X0 < p then p - zwin2 X0 else zwin2 X0 - p) ≤ zwin2 X0) → ev_ G 122 0 [.ref (wA Y 14 0), .int (zJ p), zU, zU] [] (wd Y n s X) = some (.inl (some (.int (zJ 0))), wd Y n s (wu X0 421 0 (X0 421 0 + 1)))) ∧ ((1 ≤ p ∧ p ≤ 9999) → (X0 422 0 < 3 ∨ 10 * (if zwin2 X0 < p then p - zwin2 X0 else zwin2 X0 - p) ≤ zwin2 X0) → ev_ G 122 0 [.ref (wA Y 14 0), .int (zJ p), zU, zU] [] (wd Y n s X) = some (.inl (some (.int (zJ 1))), wd Y n s (wu (wu (wu X0 421 0 (X0 421 0 + 1)) 1023 (X0 422 0 % 8) p) 422 0 (X0 422 0 + 1)))) := by
  have h14 := hM.2.1
  have hI := hM.1
  have hw2 := m_window (G := G) (n := n) (s := s) (X := X0) hM hg hf
  have h73 : ∀ a : Int, ev_ G 122 73 [.ref (wA Y 14 0), .int (zJ p), .int (zJ a), zU] [.int (zJ 0)] (wd Y n s X0) = some (.inl (some (.int (zJ 0))), wd Y n s (wu X0 421 0 (X0 421 0 + 1))) := by
    intro a
    simp (disch := first | assumption | omega) only [q_X12_crimp_73, ↓reduceIte, zB_if, ite_not, z_10, z_00, i_10, i_00, if_true, if_false, m_fz hM, m_fe hM, k14 h14, wu_eq, wu_ne, l_0, l_1, l_2, l_3, l_4, l_5, l_6, l_7, l_8, l_9, l_10, l_12, l_16, l_24, l_31, l_32, l_48, l_96, l_99, l_100, l_150, l_180, l_200, l_240, l_255, l_260, l_384, l_400, l_999, l_5000, l_9999, l_1000000, l_1000000000, t_I, t_Ie, t_R, t_Re, t_N, t_Nn, t_V, t_Ve, t_b, t_x, t_w, e_0, e_1, e_2, e_3, zJ_add, zJ_sub, zJ_mul, zJ_neg, g14_21, p14_21, a_01, show zJ 0 &&& zJ 1 = zJ 0 from rfl]
  have hmod : zJ (X0 422 0) - zJ (X0 422 0) / zJ 8 * zJ 8 = zJ (X0 422 0 % 8) := by
    rw [zJ_div (by omega) (by omega) (by omega) (by omega), zJ_mul, zJ_sub, Int.tdiv_eq_ediv_of_nonneg hg.1]
    congr 1
    omega
  have h73b : ∀ a : Int, ev_ G 122 73 [.ref (wA Y 14 0), .int (zJ p), .int (zJ a), zU] [.int (zJ 1)] (wd Y n s X0) = some (.inl (some (.int (zJ 1))), wd Y n s (wu (wu (wu X0 421 0 (X0 421 0 + 1)) 1023 (X0 422 0 % 8) p) 422 0 (X0 422 0 + 1))) := by
    intro a
    rw [q_X12_crimp_73]
    simp (disch := first | assumption | omega) only [l_0, l_1, l_2, l_3, l_4, l_5, l_6, l_7, l_8, l_9, l_10, l_12, l_16, l_24, l_31, l_32, l_48, l_96, l_99, l_100, l_150, l_180, l_200, l_240, l_255, l_260, l_384, l_400, l_999, l_5000, l_9999, l_1000000, l_1000000000, t_I, t_Ie, t_R, t_Re, t_N, t_Nn, t_V, t_Ve, t_b, t_x, t_w, e_0, e_1, e_2, e_3, zJ_add, g14_21, p14_21, g14_22, p14_22, g14_23, ↓reduceIte, zB_if, ite_not, z_10, z_00, i_10, i_00, if_true, if_false, m_fz hM, m_fe hM, k14 h14, wu_eq, wu_ne, show zJ 1 &&& zJ 1 = zJ 1 from rfl, show (zJ 8 = zJ 0) = False from eq_false (by decide), hmod, ms_23 hM]
    exact if_neg (by decide)
  refine ⟨fun h => ?_, fun h h2 => ?_, fun h h2 => ?_⟩
  · simp (disch := first | assumption | omega) only [q_X12_crimp_0, q_X12_crimp_17, ↓reduceIte, zB_if, ite_not, z_10, z_00, i_10, i_00, if_true, if_false, m_fz hM, m_fe hM, k14 h14, wu_eq, wu_ne, l_0, l_1, l_2, l_3, l_4, l_5, l_6, l_7, l_8, l_9, l_10, l_12, l_16, l_24, l_31, l_32, l_48, l_96, l_99, l_100, l_150, l_180, l_200, l_240, l_255, l_260, l_384, l_400, l_999, l_5000, l_9999, l_1000000, l_1000000000, t_I, t_Ie, t_R, t_Re, t_N, t_Nn, t_V, t_Ve, t_b, t_x, t_w, e_0, e_1, e_2, e_3, m_isIn, h, show zJ 0 &&& zJ 1 = zJ 0 from rfl]; rfl
  · have g1 : ¬X0 422 0 < 3 := fun g => h2 (.inl g)
    by_cases g2 : zwin2 X0 < p
    · have g3 : ¬p ≤ zwin2 X0 := by omega
      rw [if_pos g2] at h2
      have g4 : zwin2 X0 < 10 * (p - zwin2 X0) := by omega
      simp (disch := first | assumption | omega) only [q_X12_crimp_0, q_X12_crimp_17, q_X12_crimp_48, ↓reduceIte, zB_if, ite_not, z_10, z_00, i_10, i_00, if_true, if_false, m_fz hM, m_fe hM, k14 h14, wu_eq, wu_ne, l_0, l_1, l_2, l_3, l_4, l_5, l_6, l_7, l_8, l_9, l_10, l_12, l_16, l_24, l_31, l_32, l_48, l_96, l_99, l_100, l_150, l_180, l_200, l_240, l_255, l_260, l_384, l_400, l_999, l_5000, l_9999, l_1000000, l_1000000000, t_I, t_Ie, t_R, t_Re, t_N, t_Nn, t_V, t_Ve, t_b, t_x, t_w, e_0, e_1, e_2, e_3, zJ_lt, zJ_le, zJ_eq, zJ_add, zJ_sub, zJ_mul, zJ_neg, m_isIn, h, h0, hw2, g14_22, g1, g3, g4, and_self, h73]
    · have g3 : p ≤ zwin2 X0 := by omega
      rw [if_neg g2] at h2
      have g4 : zwin2 X0 < 10 * (zwin2 X0 - p) := by omega
      simp (disch := first | assumption | omega) only [q_X12_crimp_0, q_X12_crimp_17, q_X12_crimp_48, ↓reduceIte, zB_if, ite_not, z_10, z_00, i_10, i_00, if_true, if_false, m_fz hM, m_fe hM, k14 h14, wu_eq, wu_ne, l_0, l_1, l_2, l_3, l_4, l_5, l_6, l_7, l_8, l_9, l_10, l_12, l_16, l_24, l_31, l_32, l_48, l_96, l_99, l_100, l_150, l_180, l_200, l_240, l_255, l_260, l_384, l_400, l_999, l_5000, l_9999, l_1000000, l_1000000000, t_I, t_Ie, t_R, t_Re, t_N, t_Nn, t_V, t_Ve, t_b, t_x, t_w, e_0, e_1, e_2, e_3, zJ_lt, zJ_le, zJ_eq, zJ_add, zJ_sub, zJ_mul, zJ_neg, m_isIn, h, h0, hw2, g14_22, g1, g3, g4, and_self, h73]
  · by_cases g1 : X0 422 0 < 3
    · by_cases g2 : zwin2 X0 < p
      · have g3 : ¬p ≤ zwin2 X0 := by omega
        simp (disch := first | assumption | omega) only [q_X12_crimp_0, q_X12_crimp_17, q_X12_crimp_48, ↓reduceIte, zB_if, ite_not, z_10, z_00, i_10, i_00, if_true, if_false, m_fz hM, m_fe hM, k14 h14, wu_eq, wu_ne, l_0, l_1, l_2, l_3, l_4, l_5, l_6, l_7, l_8, l_9, l_10, l_12, l_16, l_24, l_31, l_32, l_48, l_96, l_99, l_100, l_150, l_180, l_200, l_240, l_255, l_260, l_384, l_400, l_999, l_5000, l_9999, l_1000000, l_1000000000, t_I, t_Ie, t_R, t_Re, t_N, t_Nn, t_V, t_Ve, t_b, t_x, t_w, e_0, e_1, e_2, e_3, zJ_lt, zJ_le, zJ_eq, zJ_add, zJ_sub, zJ_mul, zJ_neg, m_isIn, h, h0, hw2, g14_22, g1, g3, and_self, h73b]
      · have g3 : p ≤ zwin2 X0 := by omega
        simp (disch := first | assumption | omega) only [q_X12_crimp_0, q_X12_crimp_17, q_X12_crimp_48, ↓reduceIte, zB_if, ite_not, z_10, z_00, i_10, i_00, if_true, if_false, m_fz hM, m_fe hM, k14 h14, wu_eq, wu_ne, l_0, l_1, l_2, l_3, l_4, l_5, l_6, l_7, l_8, l_9, l_10, l_12, l_16, l_24, l_31, l_32, l_48, l_96, l_99, l_100, l_150, l_180, l_200, l_240, l_255, l_260, l_384, l_400, l_999, l_5000, l_9999, l_1000000, l_1000000000, t_I, t_Ie, t_R, t_Re, t_N, t_Nn, t_V, t_Ve, t_b, t_x, t_w, e_0, e_1, e_2, e_3, zJ_lt, zJ_le, zJ_eq, zJ_add, zJ_sub, zJ_mul, zJ_neg, m_isIn, h, h0, hw2, g14_22, g1, g3, and_self, h73b]
    · by_cases g2 : zwin2 X0 < p
      · have g3 : ¬p ≤ zwin2 X0 := by omega
        rw [if_pos g2] at h2
        have g4 : ¬zwin2 X0 < 10 * (p - zwin2 X0) := by omega
        simp (disch := first | assumption | omega) only [q_X12_crimp_0, q_X12_crimp_17, q_X12_crimp_48, ↓reduceIte, zB_if, ite_not, z_10, z_00, i_10, i_00, if_true, if_false, m_fz hM, m_fe hM, k14 h14, wu_eq, wu_ne, l_0, l_1, l_2, l_3, l_4, l_5, l_6, l_7, l_8, l_9, l_10, l_12, l_16, l_24, l_31, l_32, l_48, l_96, l_99, l_100, l_150, l_180, l_200, l_240, l_255, l_260, l_384, l_400, l_999, l_5000, l_9999, l_1000000, l_1000000000, t_I, t_Ie, t_R, t_Re, t_N, t_Nn, t_V, t_Ve, t_b, t_x, t_w, e_0, e_1, e_2, e_3, zJ_lt, zJ_le, zJ_eq, zJ_add, zJ_sub, zJ_mul, zJ_neg, m_isIn, h, h0, hw2, g14_22, g1, g3, g4, and_self, h73b]
      · have g3 : p ≤ zwin2 X0 := by omega
        rw [if_neg g2] at h2
        have g4 : ¬zwin2 X0 < 10 * (zwin2 X0 - p) := by omega
        simp (disch := first | assumption | omega) only [q_X12_crimp_0, q_X12_crimp_17, q_X12_crimp_48, ↓reduceIte, zB_if, ite_not, z_10, z_00, i_10, i_00, if_true, if_false, m_fz hM, m_fe hM, k14 h14, wu_eq, wu_ne, l_0, l_1, l_2, l_3, l_4, l_5, l_6, l_7, l_8, l_9, l_10, l_12, l_16, l_24, l_31, l_32, l_48, l_96, l_99, l_100, l_150, l_180, l_200, l_240, l_255, l_260, l_384, l_400, l_999, l_5000, l_9999, l_1000000, l_1000000000, t_I, t_Ie, t_R, t_Re, t_N, t_Nn, t_V, t_Ve, t_b, t_x, t_w, e_0, e_1, e_2, e_3, zJ_lt, zJ_le, zJ_eq, zJ_add, zJ_sub, zJ_mul, zJ_neg, m_isIn, h, h0, hw2, g14_22, g1, g3, g4, and_self, h73b]
end ZM
