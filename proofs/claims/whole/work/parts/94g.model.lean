/-! THE TWO SIDES, 51: the reference's calls by cases: ofWire, pull, least, reel -/
theorem zB_if {p : Prop} [Decidable p] : (zJ (zB p) = zJ 0) = ¬p := by
  by_cases h : p
  · rw [zB_1 h]; exact propext ⟨fun g => absurd g (by decide), fun g => absurd h g⟩
  · rw [zB_0 h]; exact propext ⟨fun _ => h, fun _ => rfl⟩
theorem i_10 : ((1 : Int) = 0) = False := eq_false (by decide)
theorem i_00 : ((0 : Int) = 0) = True := eq_self _
def zfl (Y : zLy) (n s : Nat) (X : zX) (k : Int) : zR := some (.inl (some (.int (zJ 0))), wd Y n s (wu X 444 0 k))
section ZM
variable {Y : zLy} {n s : Nat} {X : zX} {G : Nat × Nat} {i j p q r t e : Int} {X0 : zX}
theorem m_fz (hM : wM Y) : ev_ G 33 0 [.ref (wA Y 14 0), .int (zJ 0)] [] (wd Y n s X) = some (.inl (some (.int (zJ 0))), wd Y n s (wu X 444 0 0)) := m_fails hM (by decide) (by decide)
theorem m_fe (hM : wM Y) (he : 0 < e) (he' : e < 100) : ev_ G 33 0 [.ref (wA Y 14 0), .int (zJ e)] [] (wd Y n s X) = some (.inl (some (.int (zJ 1))), wd Y n s (wu X 444 0 e)) := by
  rw [m_fails hM (by omega) he', zB_1 he]
theorem m_ofWireG (hM : wM Y) (h0 : wu X 444 0 0 = X0) (hw : wWm X0) (hp : 0 ≤ p ∧ p < X0 410 0) (hq : -1 ≤ q ∧ q < 2147483648) : ev_ G 87 19 [.ref (wA Y 14 0), .int (zJ p), .int (zJ q)] [.int (zJ 0), .ref (wA Y 14 0)] (wd Y n s X) = some (.inl (some (.int (zJ (if q = -1 then zln1 X0 p else if X0 1011 p = 0 ∧ q < X0 1014 p then X0 1015 (16 * p + q) else -1)))), wd Y n s X0) := by
  have h14 := hM.2.1
  have h24 := hw.1.2
  obtain ⟨w1, w2, w3⟩ := hw.2 p hp.1 hp.2
  have hl := m_len (G := G) (n := n) (s := s) (X := X0) hM ⟨hp.1, by omega⟩ w1 w2 w3
  by_cases h1 : q = -1
  · subst h1
    simp (disch := first | assumption | omega) only [q_X12_ofWire_19, ↓reduceIte, zB_if, ite_not, z_10, z_00, i_10, i_00, if_true, if_false, m_fz hM, m_fe hM, k14 h14, wu_eq, wu_ne, l_0, l_1, l_2, l_3, l_4, l_5, l_6, l_7, l_8, l_9, l_10, l_12, l_16, l_24, l_31, l_32, l_48, l_96, l_99, l_100, l_150, l_180, l_200, l_240, l_255, l_260, l_384, l_400, l_999, l_5000, l_9999, l_1000000, l_1000000000, t_I, t_Ie, t_R, t_Re, t_N, t_Nn, t_V, t_Ve, t_b, t_x, t_w, e_0, e_1, e_2, e_3, zJ_lt, zJ_le, zJ_eq, zJ_add, zJ_sub, zJ_mul, zJ_neg, h0, hl, if_true]
  · by_cases h2 : X0 1011 p = 0
    · by_cases h3 : X0 1014 p ≤ q
      · have h4 : ¬(X0 1011 p = 0 ∧ q < X0 1014 p) := fun g => by omega
        simp (disch := first | assumption | omega) only [q_X12_ofWire_19, ↓reduceIte, zB_if, ite_not, z_10, z_00, i_10, i_00, if_true, if_false, m_fz hM, m_fe hM, k14 h14, wu_eq, wu_ne, l_0, l_1, l_2, l_3, l_4, l_5, l_6, l_7, l_8, l_9, l_10, l_12, l_16, l_24, l_31, l_32, l_48, l_96, l_99, l_100, l_150, l_180, l_200, l_240, l_255, l_260, l_384, l_400, l_999, l_5000, l_9999, l_1000000, l_1000000000, t_I, t_Ie, t_R, t_Re, t_N, t_Nn, t_V, t_Ve, t_b, t_x, t_w, e_0, e_1, e_2, e_3, zJ_lt, zJ_le, zJ_eq, zJ_add, zJ_sub, zJ_mul, zJ_neg, h0, g14_11, g14_14, g14_15, ml_11 hM, ml_14 hM, ml_15 hM, h1, h2, h3, h4, if_true, if_false]
        rw [if_neg (fun g => h4 ⟨h2, g.2⟩)]
      · have h4 : X0 1011 p = 0 ∧ q < X0 1014 p := ⟨h2, by omega⟩
        simp (disch := first | assumption | omega) only [q_X12_ofWire_19, ↓reduceIte, zB_if, ite_not, z_10, z_00, i_10, i_00, if_true, if_false, m_fz hM, m_fe hM, k14 h14, wu_eq, wu_ne, l_0, l_1, l_2, l_3, l_4, l_5, l_6, l_7, l_8, l_9, l_10, l_12, l_16, l_24, l_31, l_32, l_48, l_96, l_99, l_100, l_150, l_180, l_200, l_240, l_255, l_260, l_384, l_400, l_999, l_5000, l_9999, l_1000000, l_1000000000, t_I, t_Ie, t_R, t_Re, t_N, t_Nn, t_V, t_Ve, t_b, t_x, t_w, e_0, e_1, e_2, e_3, zJ_lt, zJ_le, zJ_eq, zJ_add, zJ_sub, zJ_mul, zJ_neg, h0, g14_11, g14_14, g14_15, ml_11 hM, ml_14 hM, ml_15 hM, h1, h2, h3, if_true, if_false]
        simp only [h3, if_false, true_and, h4.2, if_true]
    · simp (disch := first | assumption | omega) only [q_X12_ofWire_19, ↓reduceIte, zB_if, ite_not, z_10, z_00, i_10, i_00, if_true, if_false, m_fz hM, m_fe hM, k14 h14, wu_eq, wu_ne, l_0, l_1, l_2, l_3, l_4, l_5, l_6, l_7, l_8, l_9, l_10, l_12, l_16, l_24, l_31, l_32, l_48, l_96, l_99, l_100, l_150, l_180, l_200, l_240, l_255, l_260, l_384, l_400, l_999, l_5000, l_9999, l_1000000, l_1000000000, t_I, t_Ie, t_R, t_Re, t_N, t_Nn, t_V, t_Ve, t_b, t_x, t_w, e_0, e_1, e_2, e_3, zJ_lt, zJ_le, zJ_eq, zJ_add, zJ_sub, zJ_mul, zJ_neg, h0, g14_11, ml_11 hM, h1, h2, if_true, if_false, false_and]
theorem m_pullG (hM : wM Y) (h0 : wu X 444 0 0 = X0) (hw : wWm X0) (hp : 0 ≤ p ∧ p < X0 410 0) : ev_ G 83 27 [.ref (wA Y 14 0), .int (zJ p), zU, zU] [.int (zJ 0), .ref (wA Y 14 0)] (wd Y n s X) = some (.inl (some (.int (zJ (zln1 X0 p)))), wd Y n s (zrm2 1 (16 * p) (X0 1014 p).toNat (wu X0 1011 p 1))) := by
  have h14 := hM.2.1
  have h24 := hw.1.2
  obtain ⟨w1, w2, w3⟩ := hw.2 p hp.1 hp.2
  have hl := m_len (G := G) (n := n) (s := s) (X := X0) hM ⟨hp.1, by omega⟩ w1 w2 w3
  have e4 : wu X0 1011 p 1 1014 p = X0 1014 p := wu_ne (by decide)
  have hr := m_pullR (G := G) (n := n) (s := s) (Y := Y) (w := p) (t := zln1 X0 p) hM ⟨hp.1, by omega⟩ (X0 1014 p).toNat (16 * p) (wu X0 1011 p 1) (by rw [e4]; exact w1) (fun k a b => by rw [e4] at b; rw [wu_ne (by decide)]; exact w3 k a b) (by omega) (by rw [e4]; omega)
  simp (disch := first | assumption | omega) only [q_X12_pull_27, ↓reduceIte, zB_if, ite_not, z_10, z_00, i_10, i_00, if_true, if_false, m_fz hM, m_fe hM, k14 h14, wu_eq, wu_ne, l_0, l_1, l_2, l_3, l_4, l_5, l_6, l_7, l_8, l_9, l_10, l_12, l_16, l_24, l_31, l_32, l_48, l_96, l_99, l_100, l_150, l_180, l_200, l_240, l_255, l_260, l_384, l_400, l_999, l_5000, l_9999, l_1000000, l_1000000000, t_I, t_Ie, t_R, t_Re, t_N, t_Nn, t_V, t_Ve, t_b, t_x, t_w, e_0, e_1, e_2, e_3, zJ_add, zJ_sub, zJ_mul, zJ_neg, h0, hl, g14_11, ms_11 hM, a_11, a_01, show zJ 1 &&& zJ 1 = zJ 1 from rfl]
  exact hr
theorem m_least (hM : wM Y) (h0 : wu X 444 0 0 = X0) (hp : -2147483648 ≤ p ∧ p < 2147483648) (hw : wWm X0) (ho : 0 ≤ X0 417 0 ∧ X0 417 0 ≤ 5) (hr : ∀ k, 0 ≤ k → k < 5 → 0 ≤ X0 1020 k ∧ X0 1020 k < 100) (hb : ∀ X', (∀ f j, f ≠ 1020 → X' f j = X0 f j) → (∀ k, 0 ≤ k → k < 5 → 0 ≤ X' 1020 k ∧ X' 1020 k < 100) → 1 ≤ p → p ≤ 5 → 0 ≤ zsm (zfw X') 0 p.toNat ∧ zsm (zfw X') 0 p.toNat ≤ 2000000000) : (¬(1 ≤ p ∧ p ≤ 5) → ev_ G 107 0 [.ref (wA Y 14 0), .int (zJ p)] [] (wd Y n s X) = zfl Y n s X 1) ∧ ((1 ≤ p ∧ p ≤ 5) → ev_ G 107 0 [.ref (wA Y 14 0), .int (zJ p)] [] (wd Y n s X) = some (.inl (some (.int (zJ (zlo p (X0 417 0).toNat (p ^ (X0 417 0).toNat).toNat 0 1000000000 X0).1))), wd Y n s (zlo p (X0 417 0).toNat (p ^ (X0 417 0).toNat).toNat 0 1000000000 X0).2)) := by
  have h14 := hM.2.1
  refine ⟨fun h => ?_, fun h => ?_⟩
  · simp (disch := first | assumption | omega) only [q_X12_least_0, q_X12_least_15, ↓reduceIte, zB_if, ite_not, z_10, z_00, i_10, i_00, if_true, if_false, m_fz hM, m_fe hM, k14 h14, wu_eq, wu_ne, l_0, l_1, l_2, l_3, l_4, l_5, l_6, l_7, l_8, l_9, l_10, l_12, l_16, l_24, l_31, l_32, l_48, l_96, l_99, l_100, l_150, l_180, l_200, l_240, l_255, l_260, l_384, l_400, l_999, l_5000, l_9999, l_1000000, l_1000000000, t_I, t_Ie, t_R, t_Re, t_N, t_Nn, t_V, t_Ve, t_b, t_x, t_w, e_0, e_1, e_2, e_3, m_isIn, h]
    rfl
  · have hl := m_leastOf (G := G) (n := n) (s := s) (X := X0) (fs := p) hM (by omega) hw ho hr (fun X' a b => hb X' a b h.1 h.2)
    have h' := h
    simp (disch := first | assumption | omega) only [q_X12_least_0, q_X12_least_15, ↓reduceIte, zB_if, ite_not, z_10, z_00, i_10, i_00, if_true, if_false, m_fz hM, m_fe hM, k14 h14, wu_eq, wu_ne, l_0, l_1, l_2, l_3, l_4, l_5, l_6, l_7, l_8, l_9, l_10, l_12, l_16, l_24, l_31, l_32, l_48, l_96, l_99, l_100, l_150, l_180, l_200, l_240, l_255, l_260, l_384, l_400, l_999, l_5000, l_9999, l_1000000, l_1000000000, t_I, t_Ie, t_R, t_Re, t_N, t_Nn, t_V, t_Ve, t_b, t_x, t_w, e_0, e_1, e_2, e_3, m_isIn, h, h', h0, hl, and_self, if_true]
theorem m_leastAnew {R : Int} {X' : zX} (hM : wM Y) (h : ev_ G 107 0 [.ref (wA Y 14 0), .int (zJ p)] [] (wd Y n s X) = some (.inl (some (.int (zJ R))), wd Y n s X')) : ev_ G 113 0 [.ref (wA Y 14 0), .int (zJ p)] [] (wd Y n s X) = some (.inl (some (.int (zJ R))), wd Y n s X') := by
  have h14 := hM.2.1
  rw [q_X12_leastAnew_0, k14 h14, h, t_I]
theorem m_reel (hM : wM Y) (h0 : wu X 444 0 0 = X0) (hp : -2147483648 ≤ p ∧ p < 2147483648) (hq : -2147483648 ≤ q ∧ q < 2147483648) (hr : -2147483648 ≤ r ∧ r < 2147483648) (ho : 0 ≤ X 425 0 ∧ X 425 0 ≤ 12) : (¬(0 ≤ p ∧ p < 6) → ev_ G 129 0 [.ref (wA Y 14 0), .int (zJ p), .int (zJ q), .int (zJ r), zU] [] (wd Y n s X) = zfl Y n s X 1) ∧ ((0 ≤ p ∧ p < 6) → ¬((1 ≤ q ∧ q ≤ 99) ∧ (1 ≤ r ∧ r ≤ 5000)) → ev_ G 129 0 [.ref (wA Y 14 0), .int (zJ p), .int (zJ q), .int (zJ r), zU] [] (wd Y n s X) = zfl Y n s X 2) ∧ ((0 ≤ p ∧ p < 6) → ((1 ≤ q ∧ q ≤ 99) ∧ (1 ≤ r ∧ r ≤ 5000)) → ¬X 425 0 < 12 → ev_ G 129 0 [.ref (wA Y 14 0), .int (zJ p), .int (zJ q), .int (zJ r), zU] [] (wd Y n s X) = zfl Y n s X 3) ∧ ((0 ≤ p ∧ p < 6) → ((1 ≤ q ∧ q ≤ 99) ∧ (1 ≤ r ∧ r ≤ 5000)) → X 425 0 < 12 → ev_ G 129 0 [.ref (wA Y 14 0), .int (zJ p), .int (zJ q), .int (zJ r), zU] [] (wd Y n s X) = some (.inl (some (.int (zJ (X0 425 0)))), wd Y n s (wu (wu (wu (wu (wu X0 1026 (X0 425 0) p) 1027 (X0 425 0) q) 1028 (X0 425 0) r) 1029 (X0 425 0) (-1)) 425 0 (X0 425 0 + 1)))) := by
  have h14 := hM.2.1
  have hI := hM.1
  have e0 : X0 425 0 = X 425 0 := by rw [← h0]; exact wu_ne (by decide)
  refine ⟨fun h => ?_, fun h h2 => ?_, fun h h2 h3 => ?_, fun h h2 h3 => ?_⟩
  · have h' : ¬(0 ≤ p ∧ p ≤ 5) := by omega
    by_cases g1 : 1 ≤ q ∧ q ≤ 99
    · by_cases g2 : 1 ≤ r ∧ r ≤ 5000
      · simp (disch := first | assumption | omega) only [q_X12_reel_0, q_X12_reel_26, q_X12_reel_65, ↓reduceIte, zB_if, ite_not, z_10, z_00, i_10, i_00, if_true, if_false, m_fz hM, m_fe hM, k14 h14, wu_eq, wu_ne, l_0, l_1, l_2, l_3, l_4, l_5, l_6, l_7, l_8, l_9, l_10, l_12, l_16, l_24, l_31, l_32, l_48, l_96, l_99, l_100, l_150, l_180, l_200, l_240, l_255, l_260, l_384, l_400, l_999, l_5000, l_9999, l_1000000, l_1000000000, t_I, t_Ie, t_R, t_Re, t_N, t_Nn, t_V, t_Ve, t_b, t_x, t_w, e_0, e_1, e_2, e_3, m_isIn, h', g1, g2, and_self]; rfl
      · simp (disch := first | assumption | omega) only [q_X12_reel_0, q_X12_reel_26, q_X12_reel_65, ↓reduceIte, zB_if, ite_not, z_10, z_00, i_10, i_00, if_true, if_false, m_fz hM, m_fe hM, k14 h14, wu_eq, wu_ne, l_0, l_1, l_2, l_3, l_4, l_5, l_6, l_7, l_8, l_9, l_10, l_12, l_16, l_24, l_31, l_32, l_48, l_96, l_99, l_100, l_150, l_180, l_200, l_240, l_255, l_260, l_384, l_400, l_999, l_5000, l_9999, l_1000000, l_1000000000, t_I, t_Ie, t_R, t_Re, t_N, t_Nn, t_V, t_Ve, t_b, t_x, t_w, e_0, e_1, e_2, e_3, m_isIn, h', g1, g2, and_self]; rfl
    · simp (disch := first | assumption | omega) only [q_X12_reel_0, q_X12_reel_26, q_X12_reel_65, ↓reduceIte, zB_if, ite_not, z_10, z_00, i_10, i_00, if_true, if_false, m_fz hM, m_fe hM, k14 h14, wu_eq, wu_ne, l_0, l_1, l_2, l_3, l_4, l_5, l_6, l_7, l_8, l_9, l_10, l_12, l_16, l_24, l_31, l_32, l_48, l_96, l_99, l_100, l_150, l_180, l_200, l_240, l_255, l_260, l_384, l_400, l_999, l_5000, l_9999, l_1000000, l_1000000000, t_I, t_Ie, t_R, t_Re, t_N, t_Nn, t_V, t_Ve, t_b, t_x, t_w, e_0, e_1, e_2, e_3, m_isIn, h', g1, and_self]; rfl
  · have h' : (0 ≤ p ∧ p ≤ 5) := by omega
    by_cases g1 : 1 ≤ q ∧ q ≤ 99
    · by_cases g2 : 1 ≤ r ∧ r ≤ 5000
      · exact absurd ⟨g1, g2⟩ h2
      · simp (disch := first | assumption | omega) only [q_X12_reel_0, q_X12_reel_26, q_X12_reel_65, ↓reduceIte, zB_if, ite_not, z_10, z_00, i_10, i_00, if_true, if_false, m_fz hM, m_fe hM, k14 h14, wu_eq, wu_ne, l_0, l_1, l_2, l_3, l_4, l_5, l_6, l_7, l_8, l_9, l_10, l_12, l_16, l_24, l_31, l_32, l_48, l_96, l_99, l_100, l_150, l_180, l_200, l_240, l_255, l_260, l_384, l_400, l_999, l_5000, l_9999, l_1000000, l_1000000000, t_I, t_Ie, t_R, t_Re, t_N, t_Nn, t_V, t_Ve, t_b, t_x, t_w, e_0, e_1, e_2, e_3, m_isIn, h', g1, g2, and_self]; rfl
    · simp (disch := first | assumption | omega) only [q_X12_reel_0, q_X12_reel_26, q_X12_reel_65, ↓reduceIte, zB_if, ite_not, z_10, z_00, i_10, i_00, if_true, if_false, m_fz hM, m_fe hM, k14 h14, wu_eq, wu_ne, l_0, l_1, l_2, l_3, l_4, l_5, l_6, l_7, l_8, l_9, l_10, l_12, l_16, l_24, l_31, l_32, l_48, l_96, l_99, l_100, l_150, l_180, l_200, l_240, l_255, l_260, l_384, l_400, l_999, l_5000, l_9999, l_1000000, l_1000000000, t_I, t_Ie, t_R, t_Re, t_N, t_Nn, t_V, t_Ve, t_b, t_x, t_w, e_0, e_1, e_2, e_3, m_isIn, h', g1, and_self]; rfl
  · have h' : (0 ≤ p ∧ p ≤ 5) := by omega
    have h4 : X 425 0 = 12 := by omega
    simp (disch := first | assumption | omega) only [q_X12_reel_0, q_X12_reel_26, q_X12_reel_65, ↓reduceIte, zB_if, ite_not, z_10, z_00, i_10, i_00, if_true, if_false, m_fz hM, m_fe hM, k14 h14, wu_eq, wu_ne, l_0, l_1, l_2, l_3, l_4, l_5, l_6, l_7, l_8, l_9, l_10, l_12, l_16, l_24, l_31, l_32, l_48, l_96, l_99, l_100, l_150, l_180, l_200, l_240, l_255, l_260, l_384, l_400, l_999, l_5000, l_9999, l_1000000, l_1000000000, t_I, t_Ie, t_R, t_Re, t_N, t_Nn, t_V, t_Ve, t_b, t_x, t_w, e_0, e_1, e_2, e_3, m_isIn, h', h2, g14_25, zJ_lt, zJ_le, zJ_eq, h4, and_self]; rfl
  · have h' : (0 ≤ p ∧ p ≤ 5) := by omega
    have h4 : ¬X 425 0 = 12 := by omega
    have e1 : wu X0 1026 (X0 425 0) p 425 0 = X0 425 0 := wu_ne (by decide)
    have e2 : wu (wu X0 1026 (X0 425 0) p) 1027 (X0 425 0) q 425 0 = X0 425 0 := by rw [wu_ne (by decide), e1]
    have e3 : wu (wu (wu X0 1026 (X0 425 0) p) 1027 (X0 425 0) q) 1028 (X0 425 0) r 425 0 = X0 425 0 := by rw [wu_ne (by decide), e2]
    have e4 : wu (wu (wu (wu X0 1026 (X0 425 0) p) 1027 (X0 425 0) q) 1028 (X0 425 0) r) 1029 (X0 425 0) (-1) 425 0 = X0 425 0 := by rw [wu_ne (by decide), e3]
    have e6 : ∀ X' : zX, wu X' 425 0 (X0 425 0 + 1) 425 0 = X0 425 0 + 1 := fun X' => wu_eq
    have e7 : X0 425 0 + 1 - 1 = X0 425 0 := by omega
    simp (disch := first | assumption | omega) only [q_X12_reel_0, q_X12_reel_26, zB_if, ite_not, z_10, z_00, i_10, i_00, if_true, if_false, l_0, l_1, l_2, l_3, l_4, l_5, l_6, l_7, l_8, l_9, l_10, l_12, l_16, l_24, l_31, l_32, l_48, l_96, l_99, l_100, l_150, l_180, l_200, l_240, l_255, l_260, l_384, l_400, l_999, l_5000, l_9999, l_1000000, l_1000000000, t_I, t_Ie, t_R, t_Re, t_N, t_Nn, t_V, t_Ve, t_b, t_x, t_w, e_0, e_1, e_2, e_3, m_isIn, h', h2, g14_25, zJ_lt, zJ_le, zJ_eq, h4, and_self]
    rw [q_X12_reel_65]
    simp (disch := first | assumption | omega) only [m_fz hM, k14 h14, z_00, if_true, h0, l_0, l_1, l_2, l_3, l_4, l_5, l_6, l_7, l_8, l_9, l_10, l_12, l_16, l_24, l_31, l_32, l_48, l_96, l_99, l_100, l_150, l_180, l_200, l_240, l_255, l_260, l_384, l_400, l_999, l_5000, l_9999, l_1000000, l_1000000000, t_I, t_Ie, t_R, t_Re, t_N, t_Nn, t_V, t_Ve, t_b, t_x, t_w, e_0, e_1, e_2, e_3, zJ_add, zJ_sub, zJ_mul, zJ_neg, g14_25, g14_26, ms_26 hM, e1, g14_27, ms_27 hM, e2, g14_28, ms_28 hM, e3, g14_29, ms_29 hM, e4, p14_25, e6, e7]
end ZM
