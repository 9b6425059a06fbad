/-! THE TWO SIDES, 54: the reference's calls by cases: test, repair, ofSlot, recall -/
section ZM
variable {Y : zLy} {n s : Nat} {X : zX} {G : Nat × Nat} {i j p q r t e z : Int} {X0 : zX}
theorem m_test (hM : wM Y) (h0 : wu X 444 0 0 = X0) (hp : -2147483648 ≤ p ∧ p < 2147483648) (hn : 0 ≤ X0 434 0 ∧ X0 434 0 ≤ 12) (hs : ∀ b, 0 ≤ b → b < 12 → (0 ≤ X0 1035 b ∧ X0 1035 b ≤ 1) ∧ (0 ≤ X0 1037 b ∧ X0 1037 b ≤ 1)) (h1 : ∀ k, 0 ≤ k → k < 96 → 0 ≤ X0 1041 k ∧ X0 1041 k < 6 ∧ 0 ≤ X0 1042 k ∧ X0 1042 k ≤ 1) (h2 : ∀ k, 0 ≤ k → k < 8 → 0 ≤ X0 1033 k ∧ X0 1033 k ≤ 1) : (¬(0 ≤ p ∧ p < X0 434 0) → ev_ G 184 0 [.ref (wA Y 14 0), .int (zJ p), zU, zU] [] (wd Y n s X) = zfl Y n s X 1) ∧ ((0 ≤ p ∧ p < X0 434 0) → ¬(X0 1035 p ≠ 0 ∧ X0 1037 p = 0) → ev_ G 184 0 [.ref (wA Y 14 0), .int (zJ p), zU, zU] [] (wd Y n s X) = zfl Y n s X 2) ∧ ((0 ≤ p ∧ p < X0 434 0) → (X0 1035 p ≠ 0 ∧ X0 1037 p = 0) → ∀ X', X' = ztsm p 8 0 (wu X0 1036 p 1) → ev_ G 184 0 [.ref (wA Y 14 0), .int (zJ p), zU, zU] [] (wd Y n s X) = some (.inl (some (.int (zJ (zsm (fun k => zB (X' 1041 k ≠ 0 ∧ X' 1042 k = 1)) (8 * p) 8)))), wd Y n s X')) := by
  have h14 := hM.2.1
  have hX : ∀ f j, f ≠ 444 → X f j = X0 f j := fun f j h => by rw [← h0]; exact (wu_ne h).symm
  have x434 : X 434 0 = X0 434 0 := hX _ _ (by decide)
  have x35 : ∀ j, X 1035 j = X0 1035 j := fun j => hX _ _ (by decide)
  have x37 : ∀ j, X 1037 j = X0 1037 j := fun j => hX _ _ (by decide)
  have c1 := m_isBoard (G := G) (n := n) (s := s) (X := X) (a := p) hM (by omega) hp.1 hp.2
  rw [x434] at c1
  refine ⟨fun h => ?_, fun h h4 => ?_, fun h h4 X' hX' => ?_⟩
  · simp (disch := first | assumption | omega) only [q_X12_test_0, q_X12_test_36, ↓reduceIte, zB_if, ite_not, z_10, z_00, i_10, i_00, if_true, if_false, m_fz hM, m_fe hM, k14 h14, wu_eq, wu_ne, l_0, l_1, l_2, l_3, l_4, l_5, l_6, l_7, l_8, l_9, l_10, l_12, l_16, l_24, l_31, l_32, l_48, l_96, l_99, l_100, l_150, l_180, l_200, l_240, l_255, l_260, l_384, l_400, l_999, l_5000, l_9999, l_1000000, l_1000000000, t_I, t_Ie, t_R, t_Re, t_N, t_Nn, t_V, t_Ve, t_b, t_x, t_w, e_0, e_1, e_2, e_3, c1, h]; rfl
  · have z1 := hs p h.1 (by omega)
    by_cases k1 : X0 1035 p = 0
    · simp (disch := first | assumption | omega) only [q_X12_test_0, q_X12_test_36, ↓reduceIte, zB_if, ite_not, z_10, z_00, i_10, i_00, if_true, if_false, m_fz hM, m_fe hM, k14 h14, wu_eq, wu_ne, l_0, l_1, l_2, l_3, l_4, l_5, l_6, l_7, l_8, l_9, l_10, l_12, l_16, l_24, l_31, l_32, l_48, l_96, l_99, l_100, l_150, l_180, l_200, l_240, l_255, l_260, l_384, l_400, l_999, l_5000, l_9999, l_1000000, l_1000000000, t_I, t_Ie, t_R, t_Re, t_N, t_Nn, t_V, t_Ve, t_b, t_x, t_w, e_0, e_1, e_2, e_3, zJ_lt, zJ_le, zJ_eq, c1, h, and_self, g14_35, ml_35 hM, x35, k1]; rfl
    · have k2 : ¬X0 1037 p = 0 := fun g => h4 ⟨k1, g⟩
      simp (disch := first | assumption | omega) only [q_X12_test_0, q_X12_test_36, ↓reduceIte, zB_if, ite_not, z_10, z_00, i_10, i_00, if_true, if_false, m_fz hM, m_fe hM, k14 h14, wu_eq, wu_ne, l_0, l_1, l_2, l_3, l_4, l_5, l_6, l_7, l_8, l_9, l_10, l_12, l_16, l_24, l_31, l_32, l_48, l_96, l_99, l_100, l_150, l_180, l_200, l_240, l_255, l_260, l_384, l_400, l_999, l_5000, l_9999, l_1000000, l_1000000000, t_I, t_Ie, t_R, t_Re, t_N, t_Nn, t_V, t_Ve, t_b, t_x, t_w, e_0, e_1, e_2, e_3, zJ_lt, zJ_le, zJ_eq, c1, h, and_self, g14_35, ml_35 hM, x35, k1, g14_37, ml_37 hM, x37, k2]; rfl
  · have z1 := hs p h.1 (by omega)
    obtain ⟨k1, k2⟩ := h4
    have hw : ∀ f j, f ≠ 1036 → wu X0 1036 p 1 f j = X0 f j := fun f j h => wu_ne h
    have ht := m_testR (G := G) (n := n) (s := s) (Y := Y) (b := p) hM ⟨h.1, by omega⟩ 8 0 zU (wu X0 1036 p 1) (fun k a b => by rw [hw _ _ (by decide), hw _ _ (by decide)]; exact h1 k a b) (fun k a b => by rw [hw _ _ (by decide)]; exact h2 k a b) (by omega) (by omega)
    rw [← hX'] at ht
    simp (disch := first | assumption | omega) only [q_X12_test_0, q_X12_test_36, ↓reduceIte, zB_if, ite_not, z_10, z_00, i_10, i_00, if_true, if_false, m_fz hM, m_fe hM, k14 h14, wu_eq, wu_ne, l_0, l_1, l_2, l_3, l_4, l_5, l_6, l_7, l_8, l_9, l_10, l_12, l_16, l_24, l_31, l_32, l_48, l_96, l_99, l_100, l_150, l_180, l_200, l_240, l_255, l_260, l_384, l_400, l_999, l_5000, l_9999, l_1000000, l_1000000000, t_I, t_Ie, t_R, t_Re, t_N, t_Nn, t_V, t_Ve, t_b, t_x, t_w, e_0, e_1, e_2, e_3, zJ_lt, zJ_le, zJ_eq, c1, h, and_self, g14_35, ml_35 hM, x35, k1, g14_37, ml_37 hM, x37, k2, h0, g14_36, ms_36 hM, show zJ 1 &&& zJ 1 = zJ 1 from rfl]
    exact ht
theorem wu_ni {f i v g k : Int} (h : k ≠ i) : wu X f i v g k = X g k := if_neg (fun q => h q.2)
theorem m_repairE {u v w : Int32} (hM : wM Y) (he : 0 < e ∧ e < 100) : ev_ G 188 128 [.ref (wA Y 14 0), .int (zJ p), .int (zJ q), .int (zJ r), .int u, .int v, .int w] [.int (zJ e), .ref (wA Y 14 0)] (wd Y n s X) = zfl Y n s X e := by
  have h14 := hM.2.1
  rw [q_X12_repair_128, k14 h14, m_fails hM (by omega) he.2, t_I, zB_1 he.1, l_0, e_3]
  rfl
theorem m_repair (hM : wM Y) (h0 : wu X 444 0 0 = X0) (hp : -2147483648 ≤ p ∧ p < 2147483648) (hq : -2147483648 ≤ q ∧ q < 2147483648) (hr : -2147483648 ≤ r ∧ r < 2147483648) (hn : 0 ≤ X0 434 0 ∧ X0 434 0 ≤ 12) (hn2 : 0 ≤ X0 425 0 ∧ X0 425 0 ≤ 12) (hm : 0 ≤ X0 424 0 ∧ X0 424 0 < 10000) (h1 : ∀ k, 0 ≤ k → k < 96 → -1 ≤ X0 1038 k ∧ X0 1038 k < 12) (h2 : ∀ k, 0 ≤ k → k < 96 → 0 ≤ X0 1041 k ∧ X0 1041 k < 6 ∧ 0 ≤ X0 1042 k ∧ X0 1042 k ≤ 1) (h3 : ∀ k, 0 ≤ k → k < 96 → 0 ≤ X0 1043 k ∧ X0 1043 k ≤ 1) (h4 : ∀ k, 0 ≤ k → k < 96 → X0 1042 k ≠ 0 → 0 ≤ X0 1038 k) (h5 : ∀ r, 0 ≤ r → r < 12 → (0 ≤ X0 1026 r ∧ X0 1026 r < 6) ∧ (-1 ≤ X0 1029 r ∧ X0 1029 r < 10000) ∧ (0 ≤ X0 1028 r ∧ X0 1028 r < 10000) ∧ (0 ≤ X0 1027 r ∧ X0 1027 r < 1000)) : (¬((0 ≤ p ∧ p < X0 434 0) ∧ (0 ≤ q ∧ q < 8) ∧ (0 ≤ r ∧ r < X0 425 0)) → ev_ G 188 0 [.ref (wA Y 14 0), .int (zJ p), .int (zJ q), .int (zJ r), zU, zU, zU] [] (wd Y n s X) = zfl Y n s X 1) ∧ (((0 ≤ p ∧ p < X0 434 0) ∧ (0 ≤ q ∧ q < 8) ∧ (0 ≤ r ∧ r < X0 425 0)) → ¬(X0 1042 (8 * p + q) ≠ 0 ∧ X0 1043 (8 * p + q) = 0 ∧ X0 1026 r = X0 1026 (X0 1038 (8 * p + q)) ∧ (0 < X0 1027 r ∧ zclk (X0 1029 r + 1) (X0 1028 r) (X0 1029 r) (X0 424 0) ≠ -1)) → ev_ G 188 0 [.ref (wA Y 14 0), .int (zJ p), .int (zJ q), .int (zJ r), zU, zU, zU] [] (wd Y n s X) = zfl Y n s X 2) ∧ (((0 ≤ p ∧ p < X0 434 0) ∧ (0 ≤ q ∧ q < 8) ∧ (0 ≤ r ∧ r < X0 425 0)) → (X0 1042 (8 * p + q) ≠ 0 ∧ X0 1043 (8 * p + q) = 0 ∧ X0 1026 r = X0 1026 (X0 1038 (8 * p + q)) ∧ (0 < X0 1027 r ∧ zclk (X0 1029 r + 1) (X0 1028 r) (X0 1029 r) (X0 424 0) ≠ -1)) → ∀ X', X' = wu (wu (wu (wu (wu (wu (wu X0 1038 (8 * p + q) r) 1039 (8 * p + q) (X0 424 0)) 1027 r (X0 1027 r - 1)) 1041 (8 * p + q) 0) 1042 (8 * p + q) 0) 1043 (8 * p + q) 1) 1036 p 0 → ev_ G 188 0 [.ref (wA Y 14 0), .int (zJ p), .int (zJ q), .int (zJ r), zU, zU, zU] [] (wd Y n s X) = some (.inl (some (.int (zJ (zsm (fun m => zB (X' 1041 m ≠ 0 ∧ X' 1042 m = 1)) (8 * p) 8)))), wd Y n s X')) := by
  have h14 := hM.2.1
  have hX : ∀ f j, f ≠ 444 → X f j = X0 f j := fun f j h => by rw [← h0]; exact (wu_ne h).symm
  have x434 : X 434 0 = X0 434 0 := hX _ _ (by decide)
  have x425 : X 425 0 = X0 425 0 := hX _ _ (by decide)
  have x424 : X 424 0 = X0 424 0 := hX _ _ (by decide)
  have x26 : ∀ j, X 1026 j = X0 1026 j := fun j => hX _ _ (by decide)
  have x27 : ∀ j, X 1027 j = X0 1027 j := fun j => hX _ _ (by decide)
  have x28 : ∀ j, X 1028 j = X0 1028 j := fun j => hX _ _ (by decide)
  have x29 : ∀ j, X 1029 j = X0 1029 j := fun j => hX _ _ (by decide)
  have x38 : ∀ j, X 1038 j = X0 1038 j := fun j => hX _ _ (by decide)
  have x42 : ∀ j, X 1042 j = X0 1042 j := fun j => hX _ _ (by decide)
  have x43 : ∀ j, X 1043 j = X0 1043 j := fun j => hX _ _ (by decide)
  have c1 := m_isBoard (G := G) (n := n) (s := s) (X := X) (a := p) hM (by omega) hp.1 hp.2
  rw [x434] at c1
  have c2 := m_isReel (G := G) (n := n) (s := s) (X := X) (a := r) hM (by omega) hr.1 hr.2
  rw [x425] at c2
  refine ⟨fun h => ?_, fun h k => ?_, fun h k X' hX' => ?_⟩
  · have hS : ev_ G 188 0 [.ref (wA Y 14 0), .int (zJ p), .int (zJ q), .int (zJ r), zU, zU, zU] [] (wd Y n s X) = ev_ G 188 28 [.ref (wA Y 14 0), .int (zJ p), .int (zJ q), .int (zJ r), zU, zU, zU] [.int (zJ 0)] (wd Y n s X) := by
      by_cases g1 : 0 ≤ p ∧ p < X0 434 0
      · by_cases g2 : 0 ≤ q ∧ q < 8
        · have g3 : ¬(0 ≤ r ∧ r < X0 425 0) := fun g => h ⟨g1, g2, g⟩
          simp (disch := first | assumption | omega) only [q_X12_repair_0, ↓reduceIte, zB_if, ite_not, z_10, z_00, i_10, i_00, if_true, if_false, m_fz hM, m_fe hM, k14 h14, wu_eq, wu_ne, l_0, l_1, l_2, l_3, l_4, l_5, l_6, l_7, l_8, l_9, l_10, l_12, l_16, l_24, l_31, l_32, l_48, l_96, l_99, l_100, l_150, l_180, l_200, l_240, l_255, l_260, l_384, l_400, l_999, l_5000, l_9999, l_1000000, l_1000000000, t_I, t_Ie, t_R, t_Re, t_N, t_Nn, t_V, t_Ve, t_b, t_x, t_w, e_0, e_1, e_2, e_3, c1, c2, m_isSlot, g1, g2, g3, and_self]
        · simp (disch := first | assumption | omega) only [q_X12_repair_0, ↓reduceIte, zB_if, ite_not, z_10, z_00, i_10, i_00, if_true, if_false, m_fz hM, m_fe hM, k14 h14, wu_eq, wu_ne, l_0, l_1, l_2, l_3, l_4, l_5, l_6, l_7, l_8, l_9, l_10, l_12, l_16, l_24, l_31, l_32, l_48, l_96, l_99, l_100, l_150, l_180, l_200, l_240, l_255, l_260, l_384, l_400, l_999, l_5000, l_9999, l_1000000, l_1000000000, t_I, t_Ie, t_R, t_Re, t_N, t_Nn, t_V, t_Ve, t_b, t_x, t_w, e_0, e_1, e_2, e_3, c1, c2, m_isSlot, g1, g2, and_self]
      · simp (disch := first | assumption | omega) only [q_X12_repair_0, ↓reduceIte, zB_if, ite_not, z_10, z_00, i_10, i_00, if_true, if_false, m_fz hM, m_fe hM, k14 h14, wu_eq, wu_ne, l_0, l_1, l_2, l_3, l_4, l_5, l_6, l_7, l_8, l_9, l_10, l_12, l_16, l_24, l_31, l_32, l_48, l_96, l_99, l_100, l_150, l_180, l_200, l_240, l_255, l_260, l_384, l_400, l_999, l_5000, l_9999, l_1000000, l_1000000000, t_I, t_Ie, t_R, t_Re, t_N, t_Nn, t_V, t_Ve, t_b, t_x, t_w, e_0, e_1, e_2, e_3, c1, c2, m_isSlot, g1, and_self]
    rw [hS]
    simp (disch := first | assumption | omega) only [q_X12_repair_28, q_X12_repair_45, q_X12_repair_106, m_repairE hM (e := 1) (by decide), ↓reduceIte, zB_if, ite_not, z_10, z_00, i_10, i_00, if_true, if_false, m_fz hM, m_fe hM, k14 h14, wu_eq, wu_ne, l_0, l_1, l_2, l_3, l_4, l_5, l_6, l_7, l_8, l_9, l_10, l_12, l_16, l_24, l_31, l_32, l_48, l_96, l_99, l_100, l_150, l_180, l_200, l_240, l_255, l_260, l_384, l_400, l_999, l_5000, l_9999, l_1000000, l_1000000000, t_I, t_Ie, t_R, t_Re, t_N, t_Nn, t_V, t_Ve, t_b, t_x, t_w, e_0, e_1, e_2, e_3]
  · obtain ⟨g1, g2, g3⟩ := h
    have a1 : 0 ≤ 8 * p + q := by omega
    have a2 : 8 * p + q < 96 := by omega
    have z1 := h1 (8 * p + q) a1 a2
    have z2 := h2 (8 * p + q) a1 a2
    have z3 := h3 (8 * p + q) a1 a2
    have z4 := h4 (8 * p + q) a1 a2
    have z5 := h5 r g3.1 (by omega)
    have hS : ev_ G 188 0 [.ref (wA Y 14 0), .int (zJ p), .int (zJ q), .int (zJ r), zU, zU, zU] [] (wd Y n s X) = ev_ G 188 28 [.ref (wA Y 14 0), .int (zJ p), .int (zJ q), .int (zJ r), zU, zU, zU] [.int (zJ 1)] (wd Y n s X) := by
      simp (disch := first | assumption | omega) only [q_X12_repair_0, ↓reduceIte, zB_if, ite_not, z_10, z_00, i_10, i_00, if_true, if_false, m_fz hM, m_fe hM, k14 h14, wu_eq, wu_ne, l_0, l_1, l_2, l_3, l_4, l_5, l_6, l_7, l_8, l_9, l_10, l_12, l_16, l_24, l_31, l_32, l_48, l_96, l_99, l_100, l_150, l_180, l_200, l_240, l_255, l_260, l_384, l_400, l_999, l_5000, l_9999, l_1000000, l_1000000000, t_I, t_Ie, t_R, t_Re, t_N, t_Nn, t_V, t_Ve, t_b, t_x, t_w, e_0, e_1, e_2, e_3, c1, c2, m_isSlot, g1, g2, g3, and_self]
    rw [hS]
    by_cases k1 : X0 1042 (8 * p + q) = 0
    · simp (disch := first | assumption | omega) only [q_X12_repair_28, q_X12_repair_45, q_X12_repair_106, m_repairE hM (e := 1) (by decide), m_repairE hM (e := 2) (by decide), ↓reduceIte, zB_if, ite_not, z_10, z_00, i_10, i_00, if_true, if_false, m_fz hM, m_fe hM, k14 h14, wu_eq, wu_ne, l_0, l_1, l_2, l_3, l_4, l_5, l_6, l_7, l_8, l_9, l_10, l_12, l_16, l_24, l_31, l_32, l_48, l_96, l_99, l_100, l_150, l_180, l_200, l_240, l_255, l_260, l_384, l_400, l_999, l_5000, l_9999, l_1000000, l_1000000000, t_I, t_Ie, t_R, t_Re, t_N, t_Nn, t_V, t_Ve, t_b, t_x, t_w, e_0, e_1, e_2, e_3, zJ_lt, zJ_le, zJ_eq, zJ_add, zJ_sub, zJ_mul, zJ_neg, c1, c2, m_isSlot, g1, g2, g3, and_self, g14_42, ml_42 hM, x42, k1]
    · have z4 := z4 k1
      have z6 := h5 (X0 1038 (8 * p + q)) z4 z1.2
      by_cases k2 : X0 1043 (8 * p + q) = 0
      · by_cases k3 : X0 1026 r = X0 1026 (X0 1038 (8 * p + q))
        · have k4 : ¬(0 < X0 1027 r ∧ zclk (X0 1029 r + 1) (X0 1028 r) (X0 1029 r) (X0 424 0) ≠ -1) := fun g => k ⟨k1, k2, k3, g⟩
          have c3 := m_gives (G := G) (n := n) (s := s) (X := X) (i := r) hM g3.1 (by omega) (by rw [x29]; exact z5.2.1) (by rw [x28]; exact z5.2.2.1) (by omega) (by rw [x27]; exact z5.2.2.2)
          rw [x27, x28, x29, x424] at c3
          simp (disch := first | assumption | omega) only [q_X12_repair_28, q_X12_repair_45, q_X12_repair_106, m_repairE hM (e := 1) (by decide), m_repairE hM (e := 2) (by decide), ↓reduceIte, zB_if, ite_not, z_10, z_00, i_10, i_00, if_true, if_false, m_fz hM, m_fe hM, k14 h14, wu_eq, wu_ne, l_0, l_1, l_2, l_3, l_4, l_5, l_6, l_7, l_8, l_9, l_10, l_12, l_16, l_24, l_31, l_32, l_48, l_96, l_99, l_100, l_150, l_180, l_200, l_240, l_255, l_260, l_384, l_400, l_999, l_5000, l_9999, l_1000000, l_1000000000, t_I, t_Ie, t_R, t_Re, t_N, t_Nn, t_V, t_Ve, t_b, t_x, t_w, e_0, e_1, e_2, e_3, zJ_lt, zJ_le, zJ_eq, zJ_add, zJ_sub, zJ_mul, zJ_neg, c1, c2, c3, m_isSlot, g1, g2, g3, and_self, g14_42, ml_42 hM, x42, k1, g14_43, ml_43 hM, x43, k2, g14_26, g14_38, ml_26 hM, ml_38 hM, x38, x26, k3, k4]
        · simp (disch := first | assumption | omega) only [q_X12_repair_28, q_X12_repair_45, q_X12_repair_106, m_repairE hM (e := 1) (by decide), m_repairE hM (e := 2) (by decide), ↓reduceIte, zB_if, ite_not, z_10, z_00, i_10, i_00, if_true, if_false, m_fz hM, m_fe hM, k14 h14, wu_eq, wu_ne, l_0, l_1, l_2, l_3, l_4, l_5, l_6, l_7, l_8, l_9, l_10, l_12, l_16, l_24, l_31, l_32, l_48, l_96, l_99, l_100, l_150, l_180, l_200, l_240, l_255, l_260, l_384, l_400, l_999, l_5000, l_9999, l_1000000, l_1000000000, t_I, t_Ie, t_R, t_Re, t_N, t_Nn, t_V, t_Ve, t_b, t_x, t_w, e_0, e_1, e_2, e_3, zJ_lt, zJ_le, zJ_eq, zJ_add, zJ_sub, zJ_mul, zJ_neg, c1, c2, m_isSlot, g1, g2, g3, and_self, g14_42, ml_42 hM, x42, k1, g14_43, ml_43 hM, x43, k2, g14_26, g14_38, ml_26 hM, ml_38 hM, x38, x26, k3]
      · simp (disch := first | assumption | omega) only [q_X12_repair_28, q_X12_repair_45, q_X12_repair_106, m_repairE hM (e := 1) (by decide), m_repairE hM (e := 2) (by decide), ↓reduceIte, zB_if, ite_not, z_10, z_00, i_10, i_00, if_true, if_false, m_fz hM, m_fe hM, k14 h14, wu_eq, wu_ne, l_0, l_1, l_2, l_3, l_4, l_5, l_6, l_7, l_8, l_9, l_10, l_12, l_16, l_24, l_31, l_32, l_48, l_96, l_99, l_100, l_150, l_180, l_200, l_240, l_255, l_260, l_384, l_400, l_999, l_5000, l_9999, l_1000000, l_1000000000, t_I, t_Ie, t_R, t_Re, t_N, t_Nn, t_V, t_Ve, t_b, t_x, t_w, e_0, e_1, e_2, e_3, zJ_lt, zJ_le, zJ_eq, zJ_add, zJ_sub, zJ_mul, zJ_neg, c1, c2, m_isSlot, g1, g2, g3, and_self, g14_42, ml_42 hM, x42, k1, g14_43, ml_43 hM, x43, k2]
  · obtain ⟨g1, g2, g3⟩ := h
    have a1 : 0 ≤ 8 * p + q := by omega
    have a2 : 8 * p + q < 96 := by omega
    have z1 := h1 (8 * p + q) a1 a2
    have z2 := h2 (8 * p + q) a1 a2
    have z3 := h3 (8 * p + q) a1 a2
    obtain ⟨k1, k2, k3, k4⟩ := k
    have z4 := h4 (8 * p + q) a1 a2 k1
    have z5 := h5 r g3.1 (by omega)
    have z6 := h5 (X0 1038 (8 * p + q)) z4 z1.2
    have c3 := m_gives (G := G) (n := n) (s := s) (X := X) (i := r) hM g3.1 (by omega) (by rw [x29]; exact z5.2.1) (by rw [x28]; exact z5.2.2.1) (by omega) (by rw [x27]; exact z5.2.2.2)
    rw [x27, x28, x29, x424] at c3
    have hr2 : ∀ k, 0 ≤ k → k < 96 → 0 ≤ X' 1041 k ∧ X' 1041 k < 6 ∧ 0 ≤ X' 1042 k ∧ X' 1042 k ≤ 1 := by
      intro k a b
      have := h2 k a b
      have e1 : X' 1041 k = if k = 8 * p + q then 0 else X0 1041 k := by
        rw [hX', wu_ne (by decide), wu_ne (by decide), wu_ne (by decide)]
        by_cases hk : k = 8 * p + q
        · rw [hk, wu_eq, if_pos rfl]
        · rw [if_neg hk, wu_ni hk, wu_ne (by decide), wu_ne (by decide), wu_ne (by decide)]
      have e2 : X' 1042 k = if k = 8 * p + q then 0 else X0 1042 k := by
        rw [hX', wu_ne (by decide), wu_ne (by decide)]
        by_cases hk : k = 8 * p + q
        · rw [hk, wu_eq, if_pos rfl]
        · rw [if_neg hk, wu_ni hk, wu_ne (by decide), wu_ne (by decide), wu_ne (by decide), wu_ne (by decide)]
      rw [e1, e2]
      split <;> omega
    have hf := m_faults (G := G) (n := n) (s := s) (Y := Y) (X := X') (b := p) (f := 1) hM ⟨g1.1, by omega⟩ hr2 (by omega)
    have e27 : wu (wu X0 1038 (8 * p + q) r) 1039 (8 * p + q) (X0 424 0) 1027 r = X0 1027 r := by rw [wu_ne (by decide), wu_ne (by decide)]
    have e24 : wu X0 1038 (8 * p + q) r 424 0 = X0 424 0 := wu_ne (by decide)
    have hS : ev_ G 188 0 [.ref (wA Y 14 0), .int (zJ p), .int (zJ q), .int (zJ r), zU, zU, zU] [] (wd Y n s X) = ev_ G 188 28 [.ref (wA Y 14 0), .int (zJ p), .int (zJ q), .int (zJ r), zU, zU, zU] [.int (zJ 1)] (wd Y n s X) := by
      simp (disch := first | assumption | omega) only [q_X12_repair_0, ↓reduceIte, zB_if, ite_not, z_10, z_00, i_10, i_00, if_true, if_false, m_fz hM, m_fe hM, k14 h14, wu_eq, wu_ne, l_0, l_1, l_2, l_3, l_4, l_5, l_6, l_7, l_8, l_9, l_10, l_12, l_16, l_24, l_31, l_32, l_48, l_96, l_99, l_100, l_150, l_180, l_200, l_240, l_255, l_260, l_384, l_400, l_999, l_5000, l_9999, l_1000000, l_1000000000, t_I, t_Ie, t_R, t_Re, t_N, t_Nn, t_V, t_Ve, t_b, t_x, t_w, e_0, e_1, e_2, e_3, c1, c2, m_isSlot, g1, g2, g3, and_self]
    rw [hS]
    simp (disch := first | assumption | omega) only [q_X12_repair_28, q_X12_repair_45, q_X12_repair_106, ↓reduceIte, zB_if, ite_not, z_10, z_00, i_10, i_00, if_true, if_false, k14 h14, l_0, l_1, l_2, l_3, l_4, l_5, l_6, l_7, l_8, l_9, l_10, l_12, l_16, l_24, l_31, l_32, l_48, l_96, l_99, l_100, l_150, l_180, l_200, l_240, l_255, l_260, l_384, l_400, l_999, l_5000, l_9999, l_1000000, l_1000000000, t_I, t_Ie, t_R, t_Re, t_N, t_Nn, t_V, t_Ve, t_b, t_x, t_w, e_0, e_1, e_2, e_3, zJ_lt, zJ_le, zJ_eq, zJ_add, zJ_sub, zJ_mul, zJ_neg, c1, c2, c3, m_isSlot, g1, g2, g3, and_self, g14_42, ml_42 hM, x42, k1, g14_43, ml_43 hM, x43, k2, g14_26, g14_38, ml_26 hM, ml_38 hM, x38, x26, k3, eq_true k4]
    rw [q_X12_repair_128, k14 h14, m_fz hM, t_I, l_0, e_2, h0]
    simp (disch := first | assumption | omega) only [t_I, t_Ie, t_R, t_Re, t_N, t_Nn, t_V, t_Ve, t_b, t_x, t_w, e_0, e_1, e_2, e_3, g14_38, ms_38 hM, g14_39, g14_24, e24, ms_39 hM, g14_27, ml_27 hM, e27, l_0, l_1, l_2, l_3, l_4, l_5, l_6, l_7, l_8, l_9, l_10, l_12, l_16, l_24, l_31, l_32, l_48, l_96, l_99, l_100, l_150, l_180, l_200, l_240, l_255, l_260, l_384, l_400, l_999, l_5000, l_9999, l_1000000, l_1000000000, zJ_sub, ms_27 hM, g14_41, ms_41 hM, g14_42, ms_42 hM, g14_43, ms_43 hM, g14_36, ms_36 hM, show zJ 0 &&& zJ 1 = zJ 0 from rfl, show zJ 1 &&& zJ 1 = zJ 1 from rfl]
    rw [← hX', k14 h14, hf, t_I]
theorem m_ofSlot (hM : wM Y) (h0 : wu X 444 0 0 = X0) (hp : -2147483648 ≤ p ∧ p < 2147483648) (hq : -2147483648 ≤ q ∧ q < 2147483648) (hr : -2147483648 ≤ r ∧ r < 2147483648) (hn : 0 ≤ X0 434 0 ∧ X0 434 0 ≤ 12) (h2 : ∀ k, 0 ≤ k → k < 96 → 0 ≤ X0 1042 k ∧ X0 1042 k ≤ 1) (h3 : ∀ k, 0 ≤ k → k < 96 → 0 ≤ X0 1043 k ∧ X0 1043 k ≤ 1) : (¬((0 ≤ p ∧ p < X0 434 0) ∧ (0 ≤ q ∧ q < 8) ∧ (0 ≤ r ∧ r ≤ 3)) → ev_ G 197 0 [.ref (wA Y 14 0), .int (zJ p), .int (zJ q), .int (zJ r), zU] [] (wd Y n s X) = zfl Y n s X 1) ∧ (((0 ≤ p ∧ p < X0 434 0) ∧ (0 ≤ q ∧ q < 8) ∧ (0 ≤ r ∧ r ≤ 3)) → ev_ G 197 0 [.ref (wA Y 14 0), .int (zJ p), .int (zJ q), .int (zJ r), zU] [] (wd Y n s X) = some (.inl (some (.int (zJ (if r = 0 then X0 1038 (8 * p + q) else if r = 1 then X0 1039 (8 * p + q) else if r = 2 then (if X0 1042 (8 * p + q) = 0 then 0 else X0 1041 (8 * p + q)) else if X0 1043 (8 * p + q) = 0 then 0 else 1)))), wd Y n s X0)) := by
  have h14 := hM.2.1
  have hX : ∀ f j, f ≠ 444 → X f j = X0 f j := fun f j h => by rw [← h0]; exact (wu_ne h).symm
  have x434 : X 434 0 = X0 434 0 := hX _ _ (by decide)
  have c1 := m_isBoard (G := G) (n := n) (s := s) (X := X) (a := p) hM (by omega) hp.1 hp.2
  rw [x434] at c1
  refine ⟨fun h => ?_, fun h => ?_⟩
  · by_cases g1 : 0 ≤ p ∧ p < X0 434 0
    · by_cases g2 : 0 ≤ q ∧ q < 8
      · have g3 : ¬(0 ≤ r ∧ r ≤ 3) := fun g => h ⟨g1, g2, g⟩
        simp (disch := first | assumption | omega) only [q_X12_ofSlot_0, q_X12_ofSlot_30, ↓reduceIte, zB_if, ite_not, z_10, z_00, i_10, i_00, if_true, if_false, m_fz hM, m_fe hM, k14 h14, wu_eq, wu_ne, l_0, l_1, l_2, l_3, l_4, l_5, l_6, l_7, l_8, l_9, l_10, l_12, l_16, l_24, l_31, l_32, l_48, l_96, l_99, l_100, l_150, l_180, l_200, l_240, l_255, l_260, l_384, l_400, l_999, l_5000, l_9999, l_1000000, l_1000000000, t_I, t_Ie, t_R, t_Re, t_N, t_Nn, t_V, t_Ve, t_b, t_x, t_w, e_0, e_1, e_2, e_3, c1, m_isSlot, m_isIn, g1, g2, g3, and_self]; rfl
      · simp (disch := first | assumption | omega) only [q_X12_ofSlot_0, q_X12_ofSlot_30, ↓reduceIte, zB_if, ite_not, z_10, z_00, i_10, i_00, if_true, if_false, m_fz hM, m_fe hM, k14 h14, wu_eq, wu_ne, l_0, l_1, l_2, l_3, l_4, l_5, l_6, l_7, l_8, l_9, l_10, l_12, l_16, l_24, l_31, l_32, l_48, l_96, l_99, l_100, l_150, l_180, l_200, l_240, l_255, l_260, l_384, l_400, l_999, l_5000, l_9999, l_1000000, l_1000000000, t_I, t_Ie, t_R, t_Re, t_N, t_Nn, t_V, t_Ve, t_b, t_x, t_w, e_0, e_1, e_2, e_3, c1, m_isSlot, m_isIn, g1, g2, and_self]; rfl
    · simp (disch := first | assumption | omega) only [q_X12_ofSlot_0, q_X12_ofSlot_30, ↓reduceIte, zB_if, ite_not, z_10, z_00, i_10, i_00, if_true, if_false, m_fz hM, m_fe hM, k14 h14, wu_eq, wu_ne, l_0, l_1, l_2, l_3, l_4, l_5, l_6, l_7, l_8, l_9, l_10, l_12, l_16, l_24, l_31, l_32, l_48, l_96, l_99, l_100, l_150, l_180, l_200, l_240, l_255, l_260, l_384, l_400, l_999, l_5000, l_9999, l_1000000, l_1000000000, t_I, t_Ie, t_R, t_Re, t_N, t_Nn, t_V, t_Ve, t_b, t_x, t_w, e_0, e_1, e_2, e_3, c1, m_isSlot, m_isIn, g1, and_self]; rfl
  · obtain ⟨g1, g2, g3⟩ := h
    have a1 : 0 ≤ 8 * p + q := by omega
    have a2 : 8 * p + q < 96 := by omega
    have z2 := h2 (8 * p + q) a1 a2
    have z3 := h3 (8 * p + q) a1 a2
    have hS : ev_ G 197 0 [.ref (wA Y 14 0), .int (zJ p), .int (zJ q), .int (zJ r), zU] [] (wd Y n s X) = ev_ G 197 30 [.ref (wA Y 14 0), .int (zJ p), .int (zJ q), .int (zJ r), zU] [.int (zJ 0), .ref (wA Y 14 0)] (wd Y n s X) := by
      simp (disch := first | assumption | omega) only [q_X12_ofSlot_0, ↓reduceIte, zB_if, ite_not, z_10, z_00, i_10, i_00, if_true, if_false, m_fz hM, m_fe hM, k14 h14, wu_eq, wu_ne, l_0, l_1, l_2, l_3, l_4, l_5, l_6, l_7, l_8, l_9, l_10, l_12, l_16, l_24, l_31, l_32, l_48, l_96, l_99, l_100, l_150, l_180, l_200, l_240, l_255, l_260, l_384, l_400, l_999, l_5000, l_9999, l_1000000, l_1000000000, t_I, t_Ie, t_R, t_Re, t_N, t_Nn, t_V, t_Ve, t_b, t_x, t_w, e_0, e_1, e_2, e_3, c1, m_isSlot, m_isIn, g1, g2, g3, and_self]
    rw [hS, q_X12_ofSlot_30, k14 h14, m_fz hM, t_I, l_0, e_2, h0]
    simp (disch := first | assumption | omega) only [l_0, l_1, l_2, l_3, l_4, l_5, l_6, l_7, l_8, l_9, l_10, l_12, l_16, l_24, l_31, l_32, l_48, l_96, l_99, l_100, l_150, l_180, l_200, l_240, l_255, l_260, l_384, l_400, l_999, l_5000, l_9999, l_1000000, l_1000000000, t_I, t_Ie, t_R, t_Re, t_N, t_Nn, t_V, t_Ve, t_b, t_x, t_w, e_0, e_1, e_2, e_3, zJ_lt, zJ_le, zJ_eq, zJ_add, zJ_sub, zJ_mul, zJ_neg, g14_38, g14_39, g14_41, g14_42, g14_43, ml_38 hM, ml_39 hM, ml_41 hM, ml_42 hM, ml_43 hM]
    all_goals first | rfl | omega | ((repeat' split) <;> first | rfl | omega | (exfalso; omega) | contradiction)
theorem m_recall (hM : wM Y) (h0 : wu X 444 0 0 = X0) (hp : -2147483648 ≤ p ∧ p < 2147483648) (hn : 0 ≤ X0 434 0 ∧ X0 434 0 ≤ 12) (hn2 : 0 ≤ X0 425 0 ∧ X0 425 0 ≤ 12) (h1 : ∀ k, 0 ≤ k → k < 96 → -1 ≤ X0 1038 k ∧ X0 1038 k < 12) (hs : ∀ b, 0 ≤ b → b < 12 → 0 ≤ X0 1037 b ∧ X0 1037 b ≤ 1) : (¬(0 ≤ p ∧ p < X0 425 0) → ev_ G 204 0 [.ref (wA Y 14 0), .int (zJ p), zU, zU, zU, zU] [] (wd Y n s X) = zfl Y n s X 1) ∧ ((0 ≤ p ∧ p < X0 425 0) → ev_ G 204 0 [.ref (wA Y 14 0), .int (zJ p), zU, zU, zU, zU] [] (wd Y n s X) = some (.inl (some (.int (zJ (0 + zsm (fun b => zB (X0 1037 b ≠ 0 ∧ 0 < zsm (fun m => zB (X0 1038 m = p)) (8 * b) 8)) 0 (X0 434 0).toNat)))), wd Y n s X0)) := by
  have h14 := hM.2.1
  have hX : ∀ f j, f ≠ 444 → X f j = X0 f j := fun f j h => by rw [← h0]; exact (wu_ne h).symm
  have x425 : X 425 0 = X0 425 0 := hX _ _ (by decide)
  have c2 := m_isReel (G := G) (n := n) (s := s) (X := X) (a := p) hM (by omega) hp.1 hp.2
  rw [x425] at c2
  refine ⟨fun h => ?_, fun h => ?_⟩
  · simp (disch := first | assumption | omega) only [q_X12_recall_0, q_X12_recall_14, ↓reduceIte, zB_if, ite_not, z_10, z_00, i_10, i_00, if_true, if_false, m_fz hM, m_fe hM, k14 h14, wu_eq, wu_ne, l_0, l_1, l_2, l_3, l_4, l_5, l_6, l_7, l_8, l_9, l_10, l_12, l_16, l_24, l_31, l_32, l_48, l_96, l_99, l_100, l_150, l_180, l_200, l_240, l_255, l_260, l_384, l_400, l_999, l_5000, l_9999, l_1000000, l_1000000000, t_I, t_Ie, t_R, t_Re, t_N, t_Nn, t_V, t_Ve, t_b, t_x, t_w, e_0, e_1, e_2, e_3, c2, h]; rfl
  · have hr := m_recB (G := G) (n := n) (s := s) (Y := Y) (X := X0) (r := p) hM (fun k a b => by have := h1 k a b; omega) ⟨h.1, by omega⟩ hs hn (X0 434 0).toNat 0 0 zU zU (by omega) (by omega)
    simp (disch := first | assumption | omega) only [q_X12_recall_0, q_X12_recall_14, ↓reduceIte, zB_if, ite_not, z_10, z_00, i_10, i_00, if_true, if_false, m_fz hM, m_fe hM, k14 h14, wu_eq, wu_ne, l_0, l_1, l_2, l_3, l_4, l_5, l_6, l_7, l_8, l_9, l_10, l_12, l_16, l_24, l_31, l_32, l_48, l_96, l_99, l_100, l_150, l_180, l_200, l_240, l_255, l_260, l_384, l_400, l_999, l_5000, l_9999, l_1000000, l_1000000000, t_I, t_Ie, t_R, t_Re, t_N, t_Nn, t_V, t_Ve, t_b, t_x, t_w, e_0, e_1, e_2, e_3, c2, h, and_self, h0]
    exact hr
end ZM
