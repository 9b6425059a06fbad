/-! THE TWO SIDES, 24: the reference's pairs, ways and covers -/
section ZM
variable {Y : zLy} {n s : Nat} {X : zX} {G : Nat × Nat} {i j : Int}
def zpr2 (X : zX) (a h : Int) : Int := zB ((X 1007 a = X 1007 h ∧ X 1008 a = X 1008 h) ∧ X 1009 a ≠ h)
theorem m_pairs2 {a c d e : Int} (hM : wM Y) (ha : 0 ≤ a ∧ a < 8) (hr : ∀ c, 0 ≤ c → c < 8 → 0 ≤ X 1007 c ∧ X 1007 c < 100 ∧ 0 ≤ X 1008 c ∧ X 1008 c < 100 ∧ -1 ≤ X 1009 c ∧ X 1009 c < 100) : ∀ (k : Nat) (i t : Int), 0 ≤ i → i + k = a → ev_ G 52 114 [.ref (wA Y 14 0), .int (zJ c), .int (zJ d), .int (zJ e), .int (zJ t), .int (zJ a), .int (zJ i)] [] (wd Y n s X) = ev_ G 52 102 [.ref (wA Y 14 0), .int (zJ c), .int (zJ d), .int (zJ e), .int (zJ (t + zsm (zpr2 X a) i k)), .int (zJ (a + 1)), .int (zJ a)] [] (wd Y n s X) := by
  have h14 := hM.2.1
  have hxa := hr a ha.1 ha.2
  intro k
  induction k with
  | zero =>
    intro i t hi he
    rw [q_X12_mates_114]
    simp (disch := first | assumption | omega) only [l_0, l_1, l_2, l_3, l_4, l_5, l_6, l_7, l_8, l_9, l_10, l_12, l_16, l_24, l_31, l_32, l_48, l_96, l_99, l_100, l_150, l_180, l_200, l_240, l_255, l_260, l_384, l_400, l_999, l_5000, l_9999, l_1000000, l_1000000000, zJ_lt, zJ_le, zJ_eq, zJ_add, zJ_sub, zJ_mul, zJ_neg]
    rw [if_pos (by omega)]
    simp only [zsm, Int.add_zero]
    rw [show i = a by omega]
  | succ k ih =>
    intro i t hi he
    have hx := hr i hi (by omega)
    have hz : zsm (zpr2 X a) i (k + 1) = zB ((X 1007 a = X 1007 i ∧ X 1008 a = X 1008 i) ∧ X 1009 a ≠ i) + zsm (zpr2 X a) (i + 1) k := rfl
    rw [q_X12_mates_114]
    simp (disch := first | assumption | omega) only [l_0, l_1, l_2, l_3, l_4, l_5, l_6, l_7, l_8, l_9, l_10, l_12, l_16, l_24, l_31, l_32, l_48, l_96, l_99, l_100, l_150, l_180, l_200, l_240, l_255, l_260, l_384, l_400, l_999, l_5000, l_9999, l_1000000, l_1000000000, zJ_lt, zJ_le, zJ_eq, zJ_add, zJ_sub, zJ_mul, zJ_neg]
    rw [if_neg (by omega), k14 h14, m_fit hM ha.1 ha.2 hi (by omega) (by rintro b (rfl | rfl | rfl | rfl) <;> omega), t_I, hz]
    simp (disch := first | assumption | omega) only [g14_9, t_I, t_Ie, t_R, t_Re, t_N, t_Nn, t_V, t_Ve, t_b, t_x, t_w, e_0, e_1, e_2, e_3]
    rw [ml_9 hM ha.1 ha.2, t_b]
    simp (disch := first | assumption | omega) only [zJ_lt, zJ_le, zJ_eq]
    by_cases q : X 1007 a = X 1007 i ∧ X 1008 a = X 1008 i
    · rw [zB_1 q, e_3]
      by_cases q' : X 1009 a = i
      · rw [if_pos q', ih (i + 1) _ (by omega) (by omega), zB_0 (fun w => w.2 q'), Int.zero_add, Int.add_zero]
      · rw [if_neg q', ih (i + 1) _ (by omega) (by omega), zB_1 ⟨q, q'⟩, Int.add_assoc]
    · rw [zB_0 q, e_2, ih (i + 1) _ (by omega) (by omega), zB_0 (fun w => q w.1), Int.zero_add, Int.add_zero]
def zprm (X : zX) (a : Int) : Int := zsm (zpr2 X a) 0 a.toNat
theorem m_pairs1 {c d e : Int} (hM : wM Y) (hn : 0 ≤ X 405 0 ∧ X 405 0 ≤ 8) (hr : ∀ c, 0 ≤ c → c < 8 → 0 ≤ X 1007 c ∧ X 1007 c < 100 ∧ 0 ≤ X 1008 c ∧ X 1008 c < 100 ∧ -1 ≤ X 1009 c ∧ X 1009 c < 100) : ∀ (k : Nat) (i t : Int) (u : Value), 0 ≤ i → i + k = X 405 0 → ev_ G 52 102 [.ref (wA Y 14 0), .int (zJ c), .int (zJ d), .int (zJ e), .int (zJ t), .int (zJ i), u] [] (wd Y n s X) = some (.inl (some (.int (zJ (t + zsm (zprm X) i k)))), wd Y n s X) := by
  have h14 := hM.2.1
  intro k
  induction k with
  | zero =>
    intro i t u hi he
    rw [q_X12_mates_102]
    simp (disch := first | assumption | omega) only [g14_5, t_I, t_Ie, t_R, t_Re, t_N, t_Nn, t_V, t_Ve, t_b, t_x, t_w, e_0, e_1, e_2, e_3, zJ_lt, zJ_le, zJ_eq]
    rw [if_pos (by omega)]
    simp only [zsm, Int.add_zero]
  | succ k ih =>
    intro i t u hi he
    have hz : zsm (zprm X) i (k + 1) = zsm (zpr2 X i) 0 i.toNat + zsm (zprm X) (i + 1) k := rfl
    rw [q_X12_mates_102]
    simp (disch := first | assumption | omega) only [g14_5, t_I, t_Ie, t_R, t_Re, t_N, t_Nn, t_V, t_Ve, t_b, t_x, t_w, e_0, e_1, e_2, e_3, zJ_lt, zJ_le, zJ_eq]
    rw [if_neg (by omega), l_0, m_pairs2 hM ⟨hi, by omega⟩ hr i.toNat 0 t (by decide) (by omega), ih (i + 1) _ _ (by omega) (by omega), hz, Int.add_assoc]
theorem m_coverR : ∀ (k : Nat) (i t c d : Int), wM Y → (∀ k, 0 ≤ k → k < 8 → 0 ≤ X 1033 k ∧ X 1033 k ≤ 1) → 0 ≤ i → i + k = 8 → ev_ G 178 33 [.ref (wA Y 14 0), .int (zJ c), .int (zJ d), .int (zJ t), .int (zJ i)] [] (wd Y n s X) = some (.inl (some (.int (zJ (t + zsm (fun k => X 1033 k) i k)))), wd Y n s X) := by
  intro k
  induction k with
  | zero =>
    intro i t c d hM hr hi he
    rw [q_X12_cover_33]
    simp (disch := first | assumption | omega) only [l_0, l_1, l_2, l_3, l_4, l_5, l_6, l_7, l_8, l_9, l_10, l_12, l_16, l_24, l_31, l_32, l_48, l_96, l_99, l_100, l_150, l_180, l_200, l_240, l_255, l_260, l_384, l_400, l_999, l_5000, l_9999, l_1000000, l_1000000000, zJ_lt, zJ_le, zJ_eq]
    rw [if_pos (by omega)]
    simp only [zsm, Int.add_zero]
  | succ k ih =>
    intro i t c d hM hr hi he
    have h14 := hM.2.1
    have hx := hr i hi (by omega)
    have hz : zsm (fun k => X 1033 k) i (k + 1) = X 1033 i + zsm (fun k => X 1033 k) (i + 1) k := rfl
    rw [q_X12_cover_33]
    simp (disch := first | assumption | omega) only [l_0, l_1, l_2, l_3, l_4, l_5, l_6, l_7, l_8, l_9, l_10, l_12, l_16, l_24, l_31, l_32, l_48, l_96, l_99, l_100, l_150, l_180, l_200, l_240, l_255, l_260, l_384, l_400, l_999, l_5000, l_9999, l_1000000, l_1000000000, zJ_lt, zJ_le, zJ_eq, zJ_add, zJ_sub, zJ_mul, zJ_neg, g14_33, t_I, t_Ie, t_R, t_Re, t_N, t_Nn, t_V, t_Ve, t_b, t_x, t_w, e_0, e_1, e_2, e_3]
    rw [if_neg (by omega), ml_33 hM hi (by omega), t_b, hz]
    simp (disch := first | assumption | omega) only [zJ_lt, zJ_le, zJ_eq]
    by_cases q : X 1033 i = 0
    · rw [if_pos q, ih (i + 1) _ _ _ hM hr (by omega) (by omega), q, Int.zero_add, Int.add_zero]
    · rw [if_neg q, ih (i + 1) _ _ _ hM hr (by omega) (by omega), show X 1033 i = 1 by omega, Int.add_assoc]
end ZM
