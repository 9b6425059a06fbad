/-! THE TWO SIDES, 55: the reference's calls by cases: wire -/
section ZM
variable {Y : zLy} {n s : Nat} {X : zX} {G : Nat × Nat} {i j p q r t e z : Int}
def zcv (X : zX) (c v : Int) : Prop := (0 ≤ c ∧ c < X 405 0) ∧ (0 ≤ v ∧ v < X 1007 c)
theorem m_isCav1 (hM : wM Y) (hn : 0 ≤ X 405 0 ∧ X 405 0 ≤ 8) (hv : ∀ c, 0 ≤ c → c < 8 → (0 ≤ X 1007 c ∧ X 1007 c ≤ 8) ∧ (0 ≤ X 1006 c ∧ X 1006 c < 8)) (hp : -2147483648 ≤ p ∧ p < 2147483648) (hq : -2147483648 ≤ q ∧ q < 2147483648) (h : zcv X p q) : ev_ G 69 0 [.ref (wA Y 14 0), .int (zJ p), .int (zJ q)] [] (wd Y n s X) = some (.inl (some (.int (zJ 1))), wd Y n s X) := by
  have h14 := hM.2.1
  have c1 := m_isConnector (G := G) (n := n) (s := s) (X := X) (a := p) hM (by omega) hp.1 hp.2
  obtain ⟨h1, h2⟩ := h
  have z1 := hv p h1.1 (by omega)
  have h3 : 0 ≤ q ∧ q ≤ X 1007 p - 1 := by omega
  simp (disch := first | assumption | omega) only [q_X12_isCavity_0, c1, zB_if, ite_not, z_10, z_00, if_true, if_false, k14 h14, l_0, l_1, l_2, l_3, l_4, l_5, l_6, l_7, l_8, l_9, l_10, l_12, l_16, l_24, l_31, l_32, l_48, l_96, l_99, l_100, l_150, l_180, l_200, l_240, l_255, l_260, l_384, l_400, l_999, l_5000, l_9999, l_1000000, l_1000000000, t_I, t_Ie, t_R, t_Re, t_N, t_Nn, t_V, t_Ve, t_b, t_x, t_w, e_0, e_1, e_2, e_3, zJ_add, zJ_sub, zJ_mul, zJ_neg, h1, and_self, g14_7, ml_7 hM, m_isIn, h3, show zJ 1 &&& zJ 1 = zJ 1 from rfl]
theorem m_isCav0 (hM : wM Y) (hn : 0 ≤ X 405 0 ∧ X 405 0 ≤ 8) (hv : ∀ c, 0 ≤ c → c < 8 → (0 ≤ X 1007 c ∧ X 1007 c ≤ 8) ∧ (0 ≤ X 1006 c ∧ X 1006 c < 8)) (hp : -2147483648 ≤ p ∧ p < 2147483648) (hq : -2147483648 ≤ q ∧ q < 2147483648) (h : ¬zcv X p q) : ev_ G 69 0 [.ref (wA Y 14 0), .int (zJ p), .int (zJ q)] [] (wd Y n s X) = some (.inl (some (.int (zJ 0))), wd Y n s X) := by
  have h14 := hM.2.1
  have c1 := m_isConnector (G := G) (n := n) (s := s) (X := X) (a := p) hM (by omega) hp.1 hp.2
  by_cases h1 : 0 ≤ p ∧ p < X 405 0
  · have z1 := hv p h1.1 (by omega)
    have h3 : ¬(0 ≤ q ∧ q ≤ X 1007 p - 1) := fun g => h ⟨h1, by omega⟩
    simp (disch := first | assumption | omega) only [q_X12_isCavity_0, c1, zB_if, ite_not, z_10, z_00, if_true, if_false, k14 h14, l_0, l_1, l_2, l_3, l_4, l_5, l_6, l_7, l_8, l_9, l_10, l_12, l_16, l_24, l_31, l_32, l_48, l_96, l_99, l_100, l_150, l_180, l_200, l_240, l_255, l_260, l_384, l_400, l_999, l_5000, l_9999, l_1000000, l_1000000000, t_I, t_Ie, t_R, t_Re, t_N, t_Nn, t_V, t_Ve, t_b, t_x, t_w, e_0, e_1, e_2, e_3, zJ_add, zJ_sub, zJ_mul, zJ_neg, h1, and_self, g14_7, ml_7 hM, m_isIn, h3, show zJ 0 &&& zJ 1 = zJ 0 from rfl]
  · simp (disch := first | assumption | omega) only [q_X12_isCavity_0, c1, zB_if, ite_not, z_10, z_00, if_true, if_false, k14 h14, l_0, l_1, l_2, l_3, l_4, l_5, l_6, l_7, l_8, l_9, l_10, l_12, l_16, l_24, l_31, l_32, l_48, l_96, l_99, l_100, l_150, l_180, l_200, l_240, l_255, l_260, l_384, l_400, l_999, l_5000, l_9999, l_1000000, l_1000000000, t_I, t_Ie, t_R, t_Re, t_N, t_Nn, t_V, t_Ve, t_b, t_x, t_w, e_0, e_1, e_2, e_3, zJ_add, zJ_sub, zJ_mul, zJ_neg, h1, show zJ 0 &&& zJ 1 = zJ 0 from rfl]
theorem zrm2_f {d f j : Int} (h : f ≠ 1004) : ∀ (k : Nat) (i : Int) (X : zX), zrm2 d i k X f j = X f j := by
  intro k
  induction k with
  | zero => intro i X; rfl
  | succ k ih => intro i X; exact (ih _ _).trans (wu_ne h)
def zty (X : zX) (c : Int) : Prop := ∃ w, 0 ≤ w ∧ w < X 410 0 ∧ ztk1 X c w
theorem m_isTaken {c : Int} (hM : wM Y) (hn : 0 ≤ X 410 0 ∧ X 410 0 ≤ 24) (hc : 0 ≤ c ∧ c < 100) (hr : ∀ w, 0 ≤ w → w < X 410 0 → (0 ≤ X 1011 w ∧ X 1011 w ≤ 1) ∧ (0 ≤ X 1012 (2 * w) ∧ X 1012 (2 * w) < 100) ∧ (0 ≤ X 1012 (2 * w + 1) ∧ X 1012 (2 * w + 1) < 100)) : (zty X c → ev_ G 72 0 [.ref (wA Y 14 0), .int (zJ c), zU, zU] [] (wd Y n s X) = some (.inl (some (.int (zJ 1))), wd Y n s X)) ∧ (¬zty X c → ev_ G 72 0 [.ref (wA Y 14 0), .int (zJ c), zU, zU] [] (wd Y n s X) = some (.inl (some (.int (zJ 0))), wd Y n s X)) := by
  have h := m_takenR (G := G) (n := n) (s := s) hM hn hc hr (X 410 0).toNat 0 0 (by omega) (by omega) (by omega) (by omega)
  rw [q_X12_isTaken_0, l_0]
  exact ⟨fun k => h.1 (.inr k), fun k => h.2 (fun g => g.elim (fun g => absurd g (by decide)) k)⟩
theorem m_wireE {u1 u2 u3 u4 u5 u6 u7 u8 u9 : Int32} (hM : wM Y) (he : 0 < e ∧ e < 100) : ev_ G 75 153 [.ref (wA Y 14 0), .int u1, .int u2, .int u3, .int u4, .int u5, .int u6, .int u7, .int u8, .int u9] [.int (zJ e), .ref (wA Y 14 0)] (wd Y n s X) = zfl Y n s X e := by
  have h14 := hM.2.1
  rw [q_X12_wire_153, k14 h14, m_fails hM (by omega) he.2, t_I, zB_1 he.1, l_0, e_3]
  rfl
theorem m_wire1 (hM : wM Y) (hn : 0 ≤ X 405 0 ∧ X 405 0 ≤ 8) (hv : ∀ c, 0 ≤ c → c < 8 → (0 ≤ X 1007 c ∧ X 1007 c ≤ 8) ∧ (0 ≤ X 1006 c ∧ X 1006 c < 8)) (hp : -2147483648 ≤ p ∧ p < 2147483648) (hq : -2147483648 ≤ q ∧ q < 2147483648) (hr : -2147483648 ≤ r ∧ r < 2147483648) (ht : -2147483648 ≤ t ∧ t < 2147483648) (he : -2147483648 ≤ e ∧ e < 2147483648) (h : ¬(zcv X p q ∧ zcv X r t)) : ev_ G 75 0 [.ref (wA Y 14 0), .int (zJ p), .int (zJ q), .int (zJ r), .int (zJ t), .int (zJ e), zU, zU, zU, zU] [] (wd Y n s X) = zfl Y n s X 1 := by
  have h14 := hM.2.1
  have h24 : ∀ x : Int, ∃ y : Int, ev_ G 75 24 [.ref (wA Y 14 0), .int (zJ p), .int (zJ q), .int (zJ r), .int (zJ t), .int (zJ e), zU, zU, zU, zU] [.int (zJ 0)] (wd Y n s X) = zfl Y n s X 1 := by
    intro x
    refine ⟨0, ?_⟩
    by_cases k1 : p = r
    · simp (disch := first | assumption | omega) only [q_X12_wire_24, q_X12_wire_47, q_X12_wire_69, q_X12_wire_153, ↓reduceIte, zB_if, ite_not, z_10, z_00, i_10, i_00, if_true, if_false, m_fz hM, m_fe hM, k14 h14, wu_eq, wu_ne, l_0, l_1, l_2, l_3, l_4, l_5, l_6, l_7, l_8, l_9, l_10, l_12, l_16, l_24, l_31, l_32, l_48, l_96, l_99, l_100, l_150, l_180, l_200, l_240, l_255, l_260, l_384, l_400, l_999, l_5000, l_9999, l_1000000, l_1000000000, t_I, t_Ie, t_R, t_Re, t_N, t_Nn, t_V, t_Ve, t_b, t_x, t_w, e_0, e_1, e_2, e_3, zJ_lt, zJ_le, zJ_eq, zJ_add, zJ_sub, zJ_mul, zJ_neg, k1]; rfl
    · by_cases k2 : 0 ≤ e ∧ e ≤ 7
      · simp (disch := first | assumption | omega) only [q_X12_wire_24, ↓reduceIte, zB_if, ite_not, z_10, z_00, i_10, i_00, if_true, if_false, m_fz hM, m_fe hM, k14 h14, wu_eq, wu_ne, l_0, l_1, l_2, l_3, l_4, l_5, l_6, l_7, l_8, l_9, l_10, l_12, l_16, l_24, l_31, l_32, l_48, l_96, l_99, l_100, l_150, l_180, l_200, l_240, l_255, l_260, l_384, l_400, l_999, l_5000, l_9999, l_1000000, l_1000000000, t_I, t_Ie, t_R, t_Re, t_N, t_Nn, t_V, t_Ve, t_b, t_x, t_w, e_0, e_1, e_2, e_3, zJ_lt, zJ_le, zJ_eq, zJ_add, zJ_sub, zJ_mul, zJ_neg, k1, m_isIn, k2, and_self]
        simp (disch := first | assumption | omega) only [q_X12_wire_47, q_X12_wire_69, m_wireE hM (e := 1) (by decide), ↓reduceIte, zB_if, ite_not, z_10, z_00, i_10, i_00, if_true, if_false, m_fz hM, m_fe hM, k14 h14, wu_eq, wu_ne, l_0, l_1, l_2, l_3, l_4, l_5, l_6, l_7, l_8, l_9, l_10, l_12, l_16, l_24, l_31, l_32, l_48, l_96, l_99, l_100, l_150, l_180, l_200, l_240, l_255, l_260, l_384, l_400, l_999, l_5000, l_9999, l_1000000, l_1000000000, t_I, t_Ie, t_R, t_Re, t_N, t_Nn, t_V, t_Ve, t_b, t_x, t_w, e_0, e_1, e_2, e_3]
      · simp (disch := first | assumption | omega) only [q_X12_wire_24, ↓reduceIte, zB_if, ite_not, z_10, z_00, i_10, i_00, if_true, if_false, m_fz hM, m_fe hM, k14 h14, wu_eq, wu_ne, l_0, l_1, l_2, l_3, l_4, l_5, l_6, l_7, l_8, l_9, l_10, l_12, l_16, l_24, l_31, l_32, l_48, l_96, l_99, l_100, l_150, l_180, l_200, l_240, l_255, l_260, l_384, l_400, l_999, l_5000, l_9999, l_1000000, l_1000000000, t_I, t_Ie, t_R, t_Re, t_N, t_Nn, t_V, t_Ve, t_b, t_x, t_w, e_0, e_1, e_2, e_3, zJ_lt, zJ_le, zJ_eq, zJ_add, zJ_sub, zJ_mul, zJ_neg, k1, m_isIn, k2]
        simp (disch := first | assumption | omega) only [q_X12_wire_47, q_X12_wire_69, m_wireE hM (e := 1) (by decide), m_wireE hM (e := 2) (by decide), ↓reduceIte, zB_if, ite_not, z_10, z_00, i_10, i_00, if_true, if_false, m_fz hM, m_fe hM, k14 h14, wu_eq, wu_ne, l_0, l_1, l_2, l_3, l_4, l_5, l_6, l_7, l_8, l_9, l_10, l_12, l_16, l_24, l_31, l_32, l_48, l_96, l_99, l_100, l_150, l_180, l_200, l_240, l_255, l_260, l_384, l_400, l_999, l_5000, l_9999, l_1000000, l_1000000000, t_I, t_Ie, t_R, t_Re, t_N, t_Nn, t_V, t_Ve, t_b, t_x, t_w, e_0, e_1, e_2, e_3]
  obtain ⟨_, h24⟩ := h24 0
  by_cases g1 : zcv X p q
  · have g2 : ¬zcv X r t := fun g => h ⟨g1, g⟩
    simp (disch := first | assumption | omega) only [q_X12_wire_0, k14 h14, m_isCav1 hM hn hv hp hq g1, m_isCav0 hM hn hv hr ht g2, l_0, l_1, l_2, l_3, l_4, l_5, l_6, l_7, l_8, l_9, l_10, l_12, l_16, l_24, l_31, l_32, l_48, l_96, l_99, l_100, l_150, l_180, l_200, l_240, l_255, l_260, l_384, l_400, l_999, l_5000, l_9999, l_1000000, l_1000000000, t_I, t_Ie, t_R, t_Re, t_N, t_Nn, t_V, t_Ve, t_b, t_x, t_w, e_0, e_1, e_2, e_3, z_10, z_00, if_true, if_false, h24]
  · simp (disch := first | assumption | omega) only [q_X12_wire_0, k14 h14, m_isCav0 hM hn hv hp hq g1, l_0, l_1, l_2, l_3, l_4, l_5, l_6, l_7, l_8, l_9, l_10, l_12, l_16, l_24, l_31, l_32, l_48, l_96, l_99, l_100, l_150, l_180, l_200, l_240, l_255, l_260, l_384, l_400, l_999, l_5000, l_9999, l_1000000, l_1000000000, t_I, t_Ie, t_R, t_Re, t_N, t_Nn, t_V, t_Ve, t_b, t_x, t_w, e_0, e_1, e_2, e_3, z_10, z_00, if_true, if_false, h24]
theorem m_wire2 (hM : wM Y) (hn : 0 ≤ X 405 0 ∧ X 405 0 ≤ 8) (hv : ∀ c, 0 ≤ c → c < 8 → (0 ≤ X 1007 c ∧ X 1007 c ≤ 8) ∧ (0 ≤ X 1006 c ∧ X 1006 c < 8)) (hp : -2147483648 ≤ p ∧ p < 2147483648) (hq : -2147483648 ≤ q ∧ q < 2147483648) (hr : -2147483648 ≤ r ∧ r < 2147483648) (ht : -2147483648 ≤ t ∧ t < 2147483648) (he : -2147483648 ≤ e ∧ e < 2147483648) (g1 : zcv X p q) (g2 : zcv X r t) (h : ¬(p ≠ r ∧ (0 ≤ e ∧ e ≤ 7))) : ev_ G 75 0 [.ref (wA Y 14 0), .int (zJ p), .int (zJ q), .int (zJ r), .int (zJ t), .int (zJ e), zU, zU, zU, zU] [] (wd Y n s X) = zfl Y n s X 2 := by
  have h14 := hM.2.1
  have h24 : ev_ G 75 24 [.ref (wA Y 14 0), .int (zJ p), .int (zJ q), .int (zJ r), .int (zJ t), .int (zJ e), zU, zU, zU, zU] [.int (zJ 1)] (wd Y n s X) = zfl Y n s X 2 := by
    by_cases k1 : p = r
    · simp (disch := first | assumption | omega) only [q_X12_wire_24, q_X12_wire_47, q_X12_wire_69, q_X12_wire_153, ↓reduceIte, zB_if, ite_not, z_10, z_00, i_10, i_00, if_true, if_false, m_fz hM, m_fe hM, k14 h14, wu_eq, wu_ne, l_0, l_1, l_2, l_3, l_4, l_5, l_6, l_7, l_8, l_9, l_10, l_12, l_16, l_24, l_31, l_32, l_48, l_96, l_99, l_100, l_150, l_180, l_200, l_240, l_255, l_260, l_384, l_400, l_999, l_5000, l_9999, l_1000000, l_1000000000, t_I, t_Ie, t_R, t_Re, t_N, t_Nn, t_V, t_Ve, t_b, t_x, t_w, e_0, e_1, e_2, e_3, zJ_lt, zJ_le, zJ_eq, zJ_add, zJ_sub, zJ_mul, zJ_neg, k1]; rfl
    · have k2 : ¬(0 ≤ e ∧ e ≤ 7) := fun g => h ⟨k1, g⟩
      simp (disch := first | assumption | omega) only [q_X12_wire_24, ↓reduceIte, zB_if, ite_not, z_10, z_00, i_10, i_00, if_true, if_false, m_fz hM, m_fe hM, k14 h14, wu_eq, wu_ne, l_0, l_1, l_2, l_3, l_4, l_5, l_6, l_7, l_8, l_9, l_10, l_12, l_16, l_24, l_31, l_32, l_48, l_96, l_99, l_100, l_150, l_180, l_200, l_240, l_255, l_260, l_384, l_400, l_999, l_5000, l_9999, l_1000000, l_1000000000, t_I, t_Ie, t_R, t_Re, t_N, t_Nn, t_V, t_Ve, t_b, t_x, t_w, e_0, e_1, e_2, e_3, zJ_lt, zJ_le, zJ_eq, zJ_add, zJ_sub, zJ_mul, zJ_neg, k1, m_isIn, k2]
      simp (disch := first | assumption | omega) only [q_X12_wire_47, q_X12_wire_69, m_wireE hM (e := 1) (by decide), m_wireE hM (e := 2) (by decide), ↓reduceIte, zB_if, ite_not, z_10, z_00, i_10, i_00, if_true, if_false, m_fz hM, m_fe hM, k14 h14, wu_eq, wu_ne, l_0, l_1, l_2, l_3, l_4, l_5, l_6, l_7, l_8, l_9, l_10, l_12, l_16, l_24, l_31, l_32, l_48, l_96, l_99, l_100, l_150, l_180, l_200, l_240, l_255, l_260, l_384, l_400, l_999, l_5000, l_9999, l_1000000, l_1000000000, t_I, t_Ie, t_R, t_Re, t_N, t_Nn, t_V, t_Ve, t_b, t_x, t_w, e_0, e_1, e_2, e_3]
  simp (disch := first | assumption | omega) only [q_X12_wire_0, k14 h14, m_isCav1 hM hn hv hp hq g1, m_isCav1 hM hn hv hr ht g2, l_0, l_1, l_2, l_3, l_4, l_5, l_6, l_7, l_8, l_9, l_10, l_12, l_16, l_24, l_31, l_32, l_48, l_96, l_99, l_100, l_150, l_180, l_200, l_240, l_255, l_260, l_384, l_400, l_999, l_5000, l_9999, l_1000000, l_1000000000, t_I, t_Ie, t_R, t_Re, t_N, t_Nn, t_V, t_Ve, t_b, t_x, t_w, e_0, e_1, e_2, e_3, z_10, z_00, if_true, if_false, h24]
theorem m_wireF {X1 : zX} (hM : wM Y) (hn : 0 ≤ X 405 0 ∧ X 405 0 ≤ 8) (hv : ∀ c, 0 ≤ c → c < 8 → (0 ≤ X 1007 c ∧ X 1007 c ≤ 8) ∧ (0 ≤ X 1006 c ∧ X 1006 c < 8)) (hb : wBm X (X 400 0)) (hnb : 0 ≤ X 400 0) (hf : zcbm (X 1016)) (hp : -2147483648 ≤ p ∧ p < 2147483648) (hq : -2147483648 ≤ q ∧ q < 2147483648) (hr : -2147483648 ≤ r ∧ r < 2147483648) (ht : -2147483648 ≤ t ∧ t < 2147483648) (he : -2147483648 ≤ e ∧ e < 2147483648) (g1 : zcv X p q) (g2 : zcv X r t) (h : p ≠ r ∧ (0 ≤ e ∧ e ≤ 7)) (hX1 : zrf X (zcsm X (X 400 0) (X 1006 r)) = X1) : ev_ G 75 0 [.ref (wA Y 14 0), .int (zJ p), .int (zJ q), .int (zJ r), .int (zJ t), .int (zJ e), zU, zU, zU, zU] [] (wd Y n s X) = ev_ G 75 69 [.ref (wA Y 14 0), .int (zJ p), .int (zJ q), .int (zJ r), .int (zJ t), .int (zJ e), .int (zJ 1), .int (zJ 1), zU, zU] [] (wd Y n s X1) := by
  have h14 := hM.2.1
  obtain ⟨k1, k2⟩ := h
  have z1 := hv r g2.1.1 (by have := g2.1.2; omega)
  have hg1 := g2.1
  have hf := m_finds (G := G) (n := n) (s := s) (goal := X 1006 r) hM hb hnb z1.2 hf
  rw [hX1] at hf
  have h24 : ev_ G 75 24 [.ref (wA Y 14 0), .int (zJ p), .int (zJ q), .int (zJ r), .int (zJ t), .int (zJ e), zU, zU, zU, zU] [.int (zJ 1)] (wd Y n s X) = ev_ G 75 69 [.ref (wA Y 14 0), .int (zJ p), .int (zJ q), .int (zJ r), .int (zJ t), .int (zJ e), .int (zJ 1), .int (zJ 1), zU, zU] [] (wd Y n s X1) := by
    simp (disch := first | assumption | omega) only [q_X12_wire_24, q_X12_wire_47, ↓reduceIte, zB_if, ite_not, z_10, z_00, i_10, i_00, if_true, if_false, m_fz hM, m_fe hM, k14 h14, wu_eq, wu_ne, l_0, l_1, l_2, l_3, l_4, l_5, l_6, l_7, l_8, l_9, l_10, l_12, l_16, l_24, l_31, l_32, l_48, l_96, l_99, l_100, l_150, l_180, l_200, l_240, l_255, l_260, l_384, l_400, l_999, l_5000, l_9999, l_1000000, l_1000000000, t_I, t_Ie, t_R, t_Re, t_N, t_Nn, t_V, t_Ve, t_b, t_x, t_w, e_0, e_1, e_2, e_3, zJ_lt, zJ_le, zJ_eq, zJ_add, zJ_sub, zJ_mul, zJ_neg, k1, m_isIn, k2, and_self, g14_6, ml_6 hM, hf]
  simp (disch := first | assumption | omega) only [q_X12_wire_0, k14 h14, m_isCav1 hM hn hv hp hq g1, m_isCav1 hM hn hv hr ht g2, l_0, l_1, l_2, l_3, l_4, l_5, l_6, l_7, l_8, l_9, l_10, l_12, l_16, l_24, l_31, l_32, l_48, l_96, l_99, l_100, l_150, l_180, l_200, l_240, l_255, l_260, l_384, l_400, l_999, l_5000, l_9999, l_1000000, l_1000000000, t_I, t_Ie, t_R, t_Re, t_N, t_Nn, t_V, t_Ve, t_b, t_x, t_w, e_0, e_1, e_2, e_3, z_10, z_00, if_true, if_false, h24]
theorem m_wire3 {X1 : zX} (hM : wM Y) (hn : 0 ≤ X1 405 0 ∧ X1 405 0 ≤ 8) (hv : ∀ c, 0 ≤ c → c < 8 → (0 ≤ X1 1007 c ∧ X1 1007 c ≤ 8) ∧ (0 ≤ X1 1006 c ∧ X1 1006 c < 8)) (hf : zcbm (X1 1016)) (hw : 0 ≤ X1 410 0 ∧ X1 410 0 ≤ 24) (hk : ∀ w, 0 ≤ w → w < X1 410 0 → (0 ≤ X1 1011 w ∧ X1 1011 w ≤ 1) ∧ (0 ≤ X1 1012 (2 * w) ∧ X1 1012 (2 * w) < 100) ∧ (0 ≤ X1 1012 (2 * w + 1) ∧ X1 1012 (2 * w + 1) < 100)) (g1 : zcv X1 p q) (g2 : zcv X1 r t) : (zty X1 (8 * p + q) ∨ zty X1 (8 * r + t) ∨ 1000000000 ≤ X1 1016 (X1 1006 p) ∨ X1 410 0 = 24 → ev_ G 75 69 [.ref (wA Y 14 0), .int (zJ p), .int (zJ q), .int (zJ r), .int (zJ t), .int (zJ e), .int (zJ 1), .int (zJ 1), zU, zU] [] (wd Y n s X1) = zfl Y n s X1 3) ∧ (¬(zty X1 (8 * p + q) ∨ zty X1 (8 * r + t) ∨ 1000000000 ≤ X1 1016 (X1 1006 p) ∨ X1 410 0 = 24) → ev_ G 75 69 [.ref (wA Y 14 0), .int (zJ p), .int (zJ q), .int (zJ r), .int (zJ t), .int (zJ e), .int (zJ 1), .int (zJ 1), zU, zU] [] (wd Y n s X1) = ev_ G 75 153 [.ref (wA Y 14 0), .int (zJ p), .int (zJ q), .int (zJ r), .int (zJ t), .int (zJ e), .int (zJ 1), .int (zJ 1), .int (zJ (8 * p + q)), .int (zJ (8 * r + t))] [.int (zJ 0), .ref (wA Y 14 0)] (wd Y n s X1)) := by
  have h14 := hM.2.1
  have a1 := g1.1
  have a2 := g1.2
  have a3 := g2.1
  have a4 := g2.2
  have z1 := hv p a1.1 (by omega)
  have z2 := hv r a3.1 (by omega)
  have z3 := hf (X1 1006 p)
  have k1 := m_isTaken (G := G) (n := n) (s := s) (c := 8 * p + q) hM hw (by omega) hk
  have k2 := m_isTaken (G := G) (n := n) (s := s) (c := 8 * r + t) hM hw (by omega) hk
  by_cases h1 : zty X1 (8 * p + q)
  · refine ⟨fun _ => ?_, fun h => absurd (.inl h1) h⟩
    simp (disch := first | assumption | omega) only [q_X12_wire_69, q_X12_wire_153, ↓reduceIte, zB_if, ite_not, z_10, z_00, i_10, i_00, if_true, if_false, m_fz hM, m_fe hM, k14 h14, wu_eq, wu_ne, l_0, l_1, l_2, l_3, l_4, l_5, l_6, l_7, l_8, l_9, l_10, l_12, l_16, l_24, l_31, l_32, l_48, l_96, l_99, l_100, l_150, l_180, l_200, l_240, l_255, l_260, l_384, l_400, l_999, l_5000, l_9999, l_1000000, l_1000000000, t_I, t_Ie, t_R, t_Re, t_N, t_Nn, t_V, t_Ve, t_b, t_x, t_w, e_0, e_1, e_2, e_3, zJ_add, zJ_sub, zJ_mul, zJ_neg, k1.1 h1]; rfl
  · by_cases h2 : zty X1 (8 * r + t)
    · refine ⟨fun _ => ?_, fun h => absurd (.inr (.inl h2)) h⟩
      simp (disch := first | assumption | omega) only [q_X12_wire_69, q_X12_wire_153, ↓reduceIte, zB_if, ite_not, z_10, z_00, i_10, i_00, if_true, if_false, m_fz hM, m_fe hM, k14 h14, wu_eq, wu_ne, l_0, l_1, l_2, l_3, l_4, l_5, l_6, l_7, l_8, l_9, l_10, l_12, l_16, l_24, l_31, l_32, l_48, l_96, l_99, l_100, l_150, l_180, l_200, l_240, l_255, l_260, l_384, l_400, l_999, l_5000, l_9999, l_1000000, l_1000000000, t_I, t_Ie, t_R, t_Re, t_N, t_Nn, t_V, t_Ve, t_b, t_x, t_w, e_0, e_1, e_2, e_3, zJ_add, zJ_sub, zJ_mul, zJ_neg, k1.2 h1, k2.1 h2]; rfl
    · by_cases h3 : 1000000000 ≤ X1 1016 (X1 1006 p)
      · refine ⟨fun _ => ?_, fun h => absurd (.inr (.inr (.inl h3))) h⟩
        simp (disch := first | assumption | omega) only [q_X12_wire_69, q_X12_wire_153, ↓reduceIte, zB_if, ite_not, z_10, z_00, i_10, i_00, if_true, if_false, m_fz hM, m_fe hM, k14 h14, wu_eq, wu_ne, l_0, l_1, l_2, l_3, l_4, l_5, l_6, l_7, l_8, l_9, l_10, l_12, l_16, l_24, l_31, l_32, l_48, l_96, l_99, l_100, l_150, l_180, l_200, l_240, l_255, l_260, l_384, l_400, l_999, l_5000, l_9999, l_1000000, l_1000000000, t_I, t_Ie, t_R, t_Re, t_N, t_Nn, t_V, t_Ve, t_b, t_x, t_w, e_0, e_1, e_2, e_3, zJ_add, zJ_sub, zJ_mul, zJ_neg, zJ_lt, zJ_le, zJ_eq, k1.2 h1, k2.2 h2, g14_16, g14_6, ml_6 hM, ml_16 hM, h3]; rfl
      · by_cases h4 : X1 410 0 = 24
        · refine ⟨fun _ => ?_, fun h => absurd (.inr (.inr (.inr h4))) h⟩
          simp (disch := first | assumption | omega) only [q_X12_wire_69, q_X12_wire_153, ↓reduceIte, zB_if, ite_not, z_10, z_00, i_10, i_00, if_true, if_false, m_fz hM, m_fe hM, k14 h14, wu_eq, wu_ne, l_0, l_1, l_2, l_3, l_4, l_5, l_6, l_7, l_8, l_9, l_10, l_12, l_16, l_24, l_31, l_32, l_48, l_96, l_99, l_100, l_150, l_180, l_200, l_240, l_255, l_260, l_384, l_400, l_999, l_5000, l_9999, l_1000000, l_1000000000, t_I, t_Ie, t_R, t_Re, t_N, t_Nn, t_V, t_Ve, t_b, t_x, t_w, e_0, e_1, e_2, e_3, zJ_add, zJ_sub, zJ_mul, zJ_neg, zJ_lt, zJ_le, zJ_eq, k1.2 h1, k2.2 h2, g14_16, g14_6, ml_6 hM, ml_16 hM, h3, g14_10, h4]; rfl
        · refine ⟨fun h => ?_, fun h => ?_⟩
          · rcases h with h | h | h | h <;> contradiction
          · simp (disch := first | assumption | omega) only [q_X12_wire_69, ↓reduceIte, zB_if, ite_not, z_10, z_00, i_10, i_00, if_true, if_false, m_fz hM, m_fe hM, k14 h14, wu_eq, wu_ne, l_0, l_1, l_2, l_3, l_4, l_5, l_6, l_7, l_8, l_9, l_10, l_12, l_16, l_24, l_31, l_32, l_48, l_96, l_99, l_100, l_150, l_180, l_200, l_240, l_255, l_260, l_384, l_400, l_999, l_5000, l_9999, l_1000000, l_1000000000, t_I, t_Ie, t_R, t_Re, t_N, t_Nn, t_V, t_Ve, t_b, t_x, t_w, e_0, e_1, e_2, e_3, zJ_add, zJ_sub, zJ_mul, zJ_neg, zJ_lt, zJ_le, zJ_eq, k1.2 h1, k2.2 h2, g14_16, g14_6, ml_6 hM, ml_16 hM, h3, g14_10, h4]
theorem m_wireG {X0 : zX} {c : Int → Int} {v b : Nat → Int} {L : Nat} (hM : wM Y) (h0 : wu X 444 0 0 = X0) (hp : 0 ≤ p ∧ p < 8) (hw : 0 ≤ X0 410 0 ∧ X0 410 0 < 24) (hc : zcbm c) (hL : L ≤ 16) (hb : wBm X0 (X0 400 0)) (hnb : 0 ≤ X0 400 0) (hx : X0 1016 = c) (hch : zch X0 c (X0 400 0).toNat v b L) (hv : v 0 = X0 1006 p) {X3 : zX} (h3 : wu (wu (wu X0 1012 (2 * X0 410 0) i) 1012 (2 * X0 410 0 + 1) j) 1013 (X0 410 0) e = X3) {u1 u2 u3 u4 u5 : Int32} : ev_ G 75 153 [.ref (wA Y 14 0), .int (zJ p), .int u1, .int u2, .int u3, .int (zJ e), .int u4, .int u5, .int (zJ i), .int (zJ j)] [.int (zJ 0), .ref (wA Y 14 0)] (wd Y n s X) = some (.inl (some (.int (zJ (X0 410 0)))), wd Y n s (wu (zrm2 (-1) (16 * X0 410 0) L (zwy (X0 410 0) b 0 L (wu X3 1014 (X0 410 0) 0))) 410 0 (X0 410 0 + 1))) := by
  have h14 := hM.2.1
  have hI := hM.1
  have hX3 : ∀ f, f ≠ 1012 → f ≠ 1013 → X3 f = X0 f := by
    intro f k1 k2
    funext j
    rw [← h3, wu_ne k2, wu_ne k1, wu_ne k1]
  have e1 : wu X0 1012 (2 * X0 410 0) i 410 0 = X0 410 0 := wu_ne (by decide)
  have e2 : wu (wu X0 1012 (2 * X0 410 0) i) 1012 (2 * X0 410 0 + 1) j 410 0 = X0 410 0 := by rw [wu_ne (by decide), wu_ne (by decide)]
  have e3 : X3 410 0 = X0 410 0 := by rw [hX3 _ (by decide) (by decide)]
  have e6 : X3 1006 p = X0 1006 p := by rw [hX3 _ (by decide) (by decide)]
  have hch3 : zch X3 c (X3 400 0).toNat v b L := by
    rw [hX3 400 (by decide) (by decide)]
    obtain ⟨k1, k2, k3⟩ := hch
    refine ⟨k1, k2, fun t ht => ?_⟩
    obtain ⟨l1, l2, l3, l4, l5⟩ := k3 t ht
    refine ⟨l1, l2, ?_, l4, ?_⟩
    · rw [l3]
      exact (zlwm_c (hX3 _ (by decide) (by decide)) (hX3 _ (by decide) (by decide)) (hX3 _ (by decide) (by decide)) (hX3 _ (by decide) (by decide)) _ _).symm
    · rw [l5, hX3 1001 (by decide) (by decide), hX3 1002 (by decide) (by decide)]
  have hb3 : wBm X3 (X3 400 0) := by
    unfold wBm
    rw [hX3 400 (by decide) (by decide), hX3 1001 (by decide) (by decide), hX3 1002 (by decide) (by decide), hX3 1003 (by decide) (by decide)]
    exact hb
  have hl := m_lays (G := G) (n := n) (s := s) (X := X3) (w := X0 410 0) (fr := X0 1006 p) hM hw hc hL hb3 (by rw [hX3 400 (by decide) (by decide)]; exact hnb) (by rw [hX3 1016 (by decide) (by decide)]; exact hx) hch3 hv
  generalize hX4 : zrm2 (-1) (16 * X0 410 0) L (zwy (X0 410 0) b 0 L (wu X3 1014 (X0 410 0) 0)) = X4 at hl ⊢
  have e4 : X4 410 0 = X0 410 0 := by
    rw [← hX4, zrm2_f (by decide) _ _ _, zwy_f _ _ _ _ _ (fun g => absurd g.1 (by decide)) (fun g => absurd g.1 (by decide)), wu_ne (by decide), e3]
  have e5 : X0 410 0 + 1 - 1 = X0 410 0 := by omega
  rw [q_X12_wire_153]
  simp (disch := first | assumption | omega) only [k14 h14, m_fz hM, t_I, t_Ie, t_R, t_Re, t_N, t_Nn, t_V, t_Ve, t_b, t_x, t_w, e_0, e_1, e_2, e_3, l_0, l_1, l_2, l_3, l_4, l_5, l_6, l_7, l_8, l_9, l_10, l_12, l_16, l_24, l_31, l_32, l_48, l_96, l_99, l_100, l_150, l_180, l_200, l_240, l_255, l_260, l_384, l_400, l_999, l_5000, l_9999, l_1000000, l_1000000000, z_00, if_true, h0, g14_12, g14_10, zJ_mul, zJ_add, ms_12 hM, e1, e2, g14_13, ms_13 hM, h3, e3, g14_6, ml_6 hM, e6]
  rw [hl]
  simp (disch := first | assumption | omega) only [t_I, t_Ie, t_R, t_Re, t_N, t_Nn, t_V, t_Ve, t_b, t_x, t_w, e_0, e_1, e_2, e_3, g14_10, p14_10, e4, zJ_add, zJ_sub, zJ_mul, zJ_neg, wu_eq, e5, l_0, l_1, l_2, l_3, l_4, l_5, l_6, l_7, l_8, l_9, l_10, l_12, l_16, l_24, l_31, l_32, l_48, l_96, l_99, l_100, l_150, l_180, l_200, l_240, l_255, l_260, l_384, l_400, l_999, l_5000, l_9999, l_1000000, l_1000000000]
end ZM
