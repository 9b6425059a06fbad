/-! THE TWO SIDES, 99: the reference's first values -/
def zL1 (i : Int) (X : zX) : zX := fun f j => if f = 1009 ∧ i ≤ j ∧ j < 8 then -1 else X f j
def zL2 (i : Int) (X : zX) : zX := fun f j => if (f = 1038 ∨ f = 1039 ∨ f = 1040) ∧ i ≤ j ∧ j < 96 then -1 else X f j
def zL3 (i : Int) (X : zX) : zX := fun f j => if f = 1033 ∧ i ≤ j ∧ j < 8 then 1 else X f j
def zL4 (i : Int) (X : zX) : zX := fun f j => if f = 1031 ∧ i ≤ j ∧ j < 6 then 180 else if f = 1032 ∧ i ≤ j ∧ j < 6 then 260 else X f j
def zL5 (X : zX) : zX := wu (wu (wu (wu X 1030 0 150) 1030 1 200) 1030 2 240) 1030 3 100
section ZM
variable {Y : zLy} {n s : Nat} {X : zX} {G : Nat × Nat} {i : Int}
theorem i_5 (hM : wM Y) : ∀ (k : Nat) (i : Int) (X : zX), 0 ≤ i → i + k = 6 → ev_ G 11 360 [.ref (wA Y 14 0), .int (zJ i)] [] (wd Y n s X) = some (.inl none, wd Y n s (zL5 (zL4 i X))) := by
  have h14 := hM.2.1
  intro k
  induction k with
  | zero =>
    intro i X hi he
    have e : zL4 i X = X := by
      funext f j
      unfold zL4
      rw [if_neg (by omega), if_neg (by omega)]
    rw [q_X12_init_360, e]
    simp (disch := first | assumption | omega) only [l_0, l_1, l_2, l_3, l_4, l_5, l_6, l_7, l_8, l_9, l_10, l_12, l_16, l_24, l_31, l_32, l_48, l_96, l_99, l_100, l_150, l_180, l_200, l_240, l_255, l_260, l_384, l_400, l_999, l_5000, l_9999, l_1000000, l_1000000000, zJ_lt, zJ_le, zJ_eq]
    rw [if_pos (by omega)]
    simp (disch := first | assumption | omega) only [g14_30, t_I, t_Ie, t_R, t_Re, t_N, t_Nn, t_V, t_Ve, t_b, t_x, t_w, e_0, e_1, e_2, e_3, ms_30 hM]
    rfl
  | succ k ih =>
    intro i X hi he
    have e : zL4 (i + 1) (wu (wu X 1031 i 180) 1032 i 260) = zL4 i X := by
      funext f j
      unfold zL4 wu
      repeat' split
      all_goals first | rfl | omega
    rw [q_X12_init_360]
    simp (disch := first | assumption | omega) only [l_0, l_1, l_2, l_3, l_4, l_5, l_6, l_7, l_8, l_9, l_10, l_12, l_16, l_24, l_31, l_32, l_48, l_96, l_99, l_100, l_150, l_180, l_200, l_240, l_255, l_260, l_384, l_400, l_999, l_5000, l_9999, l_1000000, l_1000000000, zJ_lt, zJ_le, zJ_eq, g14_31, t_I, t_Ie, t_R, t_Re, t_N, t_Nn, t_V, t_Ve, t_b, t_x, t_w, e_0, e_1, e_2, e_3]
    rw [if_neg (by omega), ms_31 hM hi (by omega), t_b]
    simp (disch := first | assumption | omega) only [g14_32, t_I, t_Ie, t_R, t_Re, t_N, t_Nn, t_V, t_Ve, t_b, t_x, t_w, e_0, e_1, e_2, e_3]
    rw [ms_32 hM hi (by omega), t_b, zJ_add, ih (i + 1) _ (by omega) (by omega), e]
theorem i_4 (hM : wM Y) : ∀ (k : Nat) (i : Int) (X : zX), 0 ≤ i → i + k = 8 → ev_ G 11 339 [.ref (wA Y 14 0), .int (zJ i)] [] (wd Y n s X) = some (.inl none, wd Y n s (zL5 (zL4 0 (zL3 i X)))) := by
  have h14 := hM.2.1
  intro k
  induction k with
  | zero =>
    intro i X hi he
    have e : zL3 i X = X := by
      funext f j
      unfold zL3
      rw [if_neg (by omega)]
    rw [q_X12_init_339, e]
    simp (disch := first | assumption | omega) only [l_0, l_1, l_2, l_3, l_4, l_5, l_6, l_7, l_8, l_9, l_10, l_12, l_16, l_24, l_31, l_32, l_48, l_96, l_99, l_100, l_150, l_180, l_200, l_240, l_255, l_260, l_384, l_400, l_999, l_5000, l_9999, l_1000000, l_1000000000, zJ_lt, zJ_le, zJ_eq]
    rw [if_pos (by omega), i_5 hM 6 0 _ (by decide) (by decide)]
  | succ k ih =>
    intro i X hi he
    have e : zL3 (i + 1) (wu X 1033 i 1) = zL3 i X := by
      funext f j
      unfold zL3 wu
      repeat' split
      all_goals first | rfl | omega
    rw [q_X12_init_339, show (1 : Int32) &&& 1 = zJ 1 from rfl]
    simp (disch := first | assumption | omega) only [l_0, l_1, l_2, l_3, l_4, l_5, l_6, l_7, l_8, l_9, l_10, l_12, l_16, l_24, l_31, l_32, l_48, l_96, l_99, l_100, l_150, l_180, l_200, l_240, l_255, l_260, l_384, l_400, l_999, l_5000, l_9999, l_1000000, l_1000000000, zJ_lt, zJ_le, zJ_eq, g14_33, t_I, t_Ie, t_R, t_Re, t_N, t_Nn, t_V, t_Ve, t_b, t_x, t_w, e_0, e_1, e_2, e_3]
    rw [if_neg (by omega), ms_33 hM hi (by omega), t_b, zJ_add, ih (i + 1) _ (by omega) (by omega), e]
theorem i_3 (hM : wM Y) : ∀ (k : Nat) (i : Int) (X : zX), 0 ≤ i → i + k = 96 → ev_ G 11 304 [.ref (wA Y 14 0), .int (zJ i)] [] (wd Y n s X) = some (.inl none, wd Y n s (zL5 (zL4 0 (zL3 0 (zL2 i X))))) := by
  have h14 := hM.2.1
  intro k
  induction k with
  | zero =>
    intro i X hi he
    have e : zL2 i X = X := by
      funext f j
      unfold zL2
      rw [if_neg (by omega)]
    rw [q_X12_init_304, e]
    simp (disch := first | assumption | omega) only [l_0, l_1, l_2, l_3, l_4, l_5, l_6, l_7, l_8, l_9, l_10, l_12, l_16, l_24, l_31, l_32, l_48, l_96, l_99, l_100, l_150, l_180, l_200, l_240, l_255, l_260, l_384, l_400, l_999, l_5000, l_9999, l_1000000, l_1000000000, zJ_lt, zJ_le, zJ_eq]
    rw [if_pos (by omega), i_4 hM 8 0 _ (by decide) (by decide)]
  | succ k ih =>
    intro i X hi he
    have e : zL2 (i + 1) (wu (wu (wu X 1038 i (-1)) 1039 i (-1)) 1040 i (-1)) = zL2 i X := by
      funext f j
      unfold zL2 wu
      repeat' split
      all_goals first | rfl | omega
    rw [q_X12_init_304]
    simp (disch := first | assumption | omega) only [l_0, l_1, l_2, l_3, l_4, l_5, l_6, l_7, l_8, l_9, l_10, l_12, l_16, l_24, l_31, l_32, l_48, l_96, l_99, l_100, l_150, l_180, l_200, l_240, l_255, l_260, l_384, l_400, l_999, l_5000, l_9999, l_1000000, l_1000000000, zJ_lt, zJ_le, zJ_eq, zJ_add, zJ_sub, zJ_mul, zJ_neg, g14_38, t_I, t_Ie, t_R, t_Re, t_N, t_Nn, t_V, t_Ve, t_b, t_x, t_w, e_0, e_1, e_2, e_3]
    rw [if_neg (by omega), ms_38 hM hi (by omega), t_b]
    simp (disch := first | assumption | omega) only [g14_39, t_I, t_Ie, t_R, t_Re, t_N, t_Nn, t_V, t_Ve, t_b, t_x, t_w, e_0, e_1, e_2, e_3]
    rw [ms_39 hM hi (by omega), t_b]
    simp (disch := first | assumption | omega) only [g14_40, t_I, t_Ie, t_R, t_Re, t_N, t_Nn, t_V, t_Ve, t_b, t_x, t_w, e_0, e_1, e_2, e_3]
    rw [ms_40 hM hi (by omega), t_b, ih (i + 1) _ (by omega) (by omega), e]
theorem i_2 (hM : wM Y) : ∀ (k : Nat) (i : Int) (X : zX), 0 ≤ i → i + k = 8 → ev_ G 11 283 [.ref (wA Y 14 0), .int (zJ i)] [] (wd Y n s X) = some (.inl none, wd Y n s (zL5 (zL4 0 (zL3 0 (zL2 0 (zL1 i X)))))) := by
  have h14 := hM.2.1
  intro k
  induction k with
  | zero =>
    intro i X hi he
    have e : zL1 i X = X := by
      funext f j
      unfold zL1
      rw [if_neg (by omega)]
    rw [q_X12_init_283, e]
    simp (disch := first | assumption | omega) only [l_0, l_1, l_2, l_3, l_4, l_5, l_6, l_7, l_8, l_9, l_10, l_12, l_16, l_24, l_31, l_32, l_48, l_96, l_99, l_100, l_150, l_180, l_200, l_240, l_255, l_260, l_384, l_400, l_999, l_5000, l_9999, l_1000000, l_1000000000, zJ_lt, zJ_le, zJ_eq]
    rw [if_pos (by omega), i_3 hM 96 0 _ (by decide) (by decide)]
  | succ k ih =>
    intro i X hi he
    have e : zL1 (i + 1) (wu X 1009 i (-1)) = zL1 i X := by
      funext f j
      unfold zL1 wu
      repeat' split
      all_goals first | rfl | omega
    rw [q_X12_init_283]
    simp (disch := first | assumption | omega) only [l_0, l_1, l_2, l_3, l_4, l_5, l_6, l_7, l_8, l_9, l_10, l_12, l_16, l_24, l_31, l_32, l_48, l_96, l_99, l_100, l_150, l_180, l_200, l_240, l_255, l_260, l_384, l_400, l_999, l_5000, l_9999, l_1000000, l_1000000000, zJ_lt, zJ_le, zJ_eq, zJ_add, zJ_sub, zJ_mul, zJ_neg, g14_9, t_I, t_Ie, t_R, t_Re, t_N, t_Nn, t_V, t_Ve, t_b, t_x, t_w, e_0, e_1, e_2, e_3]
    rw [if_neg (by omega), ms_9 hM hi (by omega), t_b, ih (i + 1) _ (by omega) (by omega), e]
/-- all numbers at last -/
def zXi : zX := zL5 (zL4 0 (zL3 0 (zL2 0 (zL1 0 (zov zXz)))))
theorem zXi_o {f j : Int} (h : f ≠ 266 ∧ f ≠ 506 ∧ f ≠ 507 ∧ f ≠ 508 ∧ f ≠ 1009 ∧ f ≠ 1030 ∧ f ≠ 1031 ∧ f ≠ 1032 ∧ f ≠ 1033 ∧ f ≠ 1038 ∧ f ≠ 1039 ∧ f ≠ 1040) : zXi f j = 0 := by
  unfold zXi zL5
  rw [wu_ne (by omega), wu_ne (by omega), wu_ne (by omega), wu_ne (by omega)]
  unfold zL4
  rw [if_neg (by omega), if_neg (by omega)]
  unfold zL3
  rw [if_neg (by omega)]
  unfold zL2
  rw [if_neg (by omega)]
  unfold zL1
  rw [if_neg (by omega)]
  unfold zov
  rw [if_neg (by omega), if_neg (by omega), wu_ne (by omega), wu_ne (by omega), wu_ne (by omega), wu_ne (by omega)]
  exact zXz_0 (by omega)
theorem zXi_w {f j : Int} (h : f < 1009) : zXi f j = zov zXz f j := by
  unfold zXi zL5
  rw [wu_ne (by omega), wu_ne (by omega), wu_ne (by omega), wu_ne (by omega)]
  unfold zL4
  rw [if_neg (by omega), if_neg (by omega)]
  unfold zL3
  rw [if_neg (by omega)]
  unfold zL2
  rw [if_neg (by omega)]
  unfold zL1
  rw [if_neg (by omega)]
end ZM
