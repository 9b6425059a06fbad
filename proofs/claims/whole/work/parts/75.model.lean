/-! THE TWO SIDES, 26: the reference's costs from a goal, the families' weight -/
def zc0m (X : zX) (goal : Int) : Int → Int := fun j => if 0 ≤ j ∧ j < 8 then (if j = goal then 0 else 1000000000) else X 1016 j
def zcsm (X : zX) (nb goal : Int) : Int → Int := zrdsm X nb.toNat 8 (zc0m X goal)
theorem zrf_id {X : zX} : zrf X (X 1016) = X := by
  funext f j
  unfold zrf
  by_cases h : f = 1016
  · rw [if_pos h, h]
  · rw [if_neg h]
section ZM
variable {Y : zLy} {n s : Nat} {X : zX} {G : Nat × Nat} {i j : Int}
theorem m_find0 {goal : Int} (hM : wM Y) (hg : 0 ≤ goal ∧ goal < 8) : ∀ (k : Nat) (i : Int) (c : Int → Int), 0 ≤ i → i + k = 8 → ev_ G 71 2 [.ref (wA Y 14 0), .int (zJ goal), .int (zJ i), zU, zU, zU] [] (wd Y n s (zrf X c)) = ev_ G 71 33 [.ref (wA Y 14 0), .int (zJ goal), .int (zJ 0), zU, zU, zU] [] (wd Y n s (zrf X (fun j => if i ≤ j ∧ j < 8 then (if j = goal then 0 else 1000000000) else c j))) := by
  have h14 := hM.2.1
  intro k
  induction k with
  | zero =>
    intro i c hi he
    rw [q_X12_finds_2]
    simp (disch := first | assumption | omega) only [l_0, l_1, l_2, l_3, l_4, l_5, l_6, l_7, l_8, l_9, l_10, l_12, l_16, l_24, l_31, l_32, l_48, l_96, l_99, l_100, l_150, l_180, l_200, l_240, l_255, l_260, l_384, l_400, l_999, l_5000, l_9999, l_1000000, l_1000000000, zJ_lt, zJ_le, zJ_eq]
    rw [if_pos (by omega)]
    have : (fun j => if i ≤ j ∧ j < 8 then (if j = goal then 0 else 1000000000) else c j) = c := by
      funext j
      rw [if_neg (by omega)]
    rw [this]
  | succ k ih =>
    intro i c hi he
    have hc : ∀ v, (if i = goal then 0 else 1000000000) = v → (fun j => if i + 1 ≤ j ∧ j < 8 then (if j = goal then 0 else 1000000000) else if j = i then v else c j) = (fun j => if i ≤ j ∧ j < 8 then (if j = goal then 0 else 1000000000) else c j) := by
      intro v hv
      funext j
      by_cases h1 : i + 1 ≤ j ∧ j < 8
      · rw [if_pos h1, if_pos (show i ≤ j ∧ j < 8 by omega)]
      · rw [if_neg h1]
        by_cases h2 : j = i
        · rw [if_pos h2, if_pos (show i ≤ j ∧ j < 8 by omega), h2, hv]
        · rw [if_neg h2, if_neg (show ¬(i ≤ j ∧ j < 8) by omega)]
    rw [q_X12_finds_2]
    simp (disch := first | assumption | omega) only [l_0, l_1, l_2, l_3, l_4, l_5, l_6, l_7, l_8, l_9, l_10, l_12, l_16, l_24, l_31, l_32, l_48, l_96, l_99, l_100, l_150, l_180, l_200, l_240, l_255, l_260, l_384, l_400, l_999, l_5000, l_9999, l_1000000, l_1000000000, zJ_lt, zJ_le, zJ_eq, g14_16, t_I, t_Ie, t_R, t_Re, t_N, t_Nn, t_V, t_Ve, t_b, t_x, t_w, e_0, e_1, e_2, e_3]
    rw [if_neg (by omega)]
    by_cases q : i = goal
    · rw [if_pos q, ms_16 hM hi (by omega), t_b, zrf_u, zJ_add, ih (i + 1) _ (by omega) (by omega), hc 0 (if_pos q)]
    · rw [if_neg q, ms_16 hM hi (by omega), t_b, zrf_u, zJ_add, ih (i + 1) _ (by omega) (by omega), hc 1000000000 (if_neg q)]
theorem m_finds {goal : Int} (hM : wM Y) (hb : wBm X (X 400 0)) (hn : 0 ≤ X 400 0) (hg : 0 ≤ goal ∧ goal < 8) (hc : zcbm (X 1016)) : ev_ G 71 0 [.ref (wA Y 14 0), .int (zJ goal), zU, zU, zU, zU] [] (wd Y n s X) = some (.inl none, wd Y n s (zrf X (zcsm X (X 400 0) goal))) := by
  have h0 := m_find0 (G := G) (n := n) (s := s) (X := X) hM hg 8 0 (X 1016) (by decide) (by decide)
  rw [zrf_id] at h0
  have hcb : zcbm (zc0m X goal) := by
    intro j
    have := hc j
    unfold zc0m
    split
    · split <;> omega
    · omega
  have e : (fun j => if 0 ≤ j ∧ j < 8 then (if j = goal then 0 else 1000000000) else X 1016 j) = zc0m X goal := rfl
  rw [q_X12_finds_0, l_0, h0, e, m_roundsR hM hb hn 8 0 _ _ _ _ (by decide) (by decide) hcb]
  rfl
def ztgm (X : zX) (f : Int) : Int → Nat → Int → Int
  | _, 0, t => t
  | i, k + 1, t => ztgm X f (i + 1) k (zor t (if X 1020 i = f then X 1018 i else 0))
def zfw (X : zX) (f : Int) : Int := zsm (fun i => if X 1020 i = f then X 1019 i else 0) 0 (X 417 0).toNat * zsm (zwg X (ztgm X f 0 (X 417 0).toNat 0)) 0 (X 410 0).toNat
/-- what the wires of the reference are -/
def wWm (X : zX) : Prop := (0 ≤ X 410 0 ∧ X 410 0 ≤ 24) ∧ (∀ w, 0 ≤ w → w < X 410 0 → (0 ≤ X 1014 w ∧ X 1014 w ≤ 16) ∧ (0 ≤ X 1011 w ∧ X 1011 w ≤ 1) ∧ (∀ k, 16 * w ≤ k → k < 16 * w + X 1014 w → 0 ≤ X 1015 k ∧ X 1015 k < 16))
theorem m_famK {fs f t : Int} (hM : wM Y) (hw : wWm X) (ho : 0 ≤ X 417 0 ∧ X 417 0 ≤ 5) (hf : 0 ≤ f ∧ f < 100) (hr : ∀ k, 0 ≤ k → k < 5 → 0 ≤ X 1020 k ∧ X 1020 k < 100) : ∀ (k : Nat) (i a h : Int), 0 ≤ i → i + k = X 417 0 → ∃ u v w, ev_ G 105 18 [.ref (wA Y 14 0), .int (zJ fs), .int (zJ t), .int (zJ f), .int (zJ a), .int (zJ h), .int (zJ i)] [] (wd Y n s X) = ev_ G 105 4 [.ref (wA Y 14 0), .int (zJ fs), .int (zJ (t + (h + zsm (fun i => if X 1020 i = f then X 1019 i else 0) i k) * zsm (zwg X (ztgm X f i k a)) 0 (X 410 0).toNat)), .int (zJ (f + 1)), u, v, w] [] (wd Y n s X) := by
  have h14 := hM.2.1
  intro k
  induction k with
  | zero =>
    intro i a h hi he
    refine ⟨.int (zJ a), .int (zJ h), .int (zJ i), ?_⟩
    rw [q_X12_weightOfFamilies_18]
    simp (disch := first | assumption | omega) only [l_0, l_1, l_2, l_3, l_4, l_5, l_6, l_7, l_8, l_9, l_10, l_12, l_16, l_24, l_31, l_32, l_48, l_96, l_99, l_100, l_150, l_180, l_200, l_240, l_255, l_260, l_384, l_400, l_999, l_5000, l_9999, l_1000000, l_1000000000, zJ_lt, zJ_le, zJ_eq, g14_17, t_I, t_Ie, t_R, t_Re, t_N, t_Nn, t_V, t_Ve, t_b, t_x, t_w, e_0, e_1, e_2, e_3, k14]
    rw [if_pos (by omega), m_weighs hM hw.1 hw.2, t_I]
    simp only [zJ_add, zJ_sub, zJ_mul, zJ_neg, zsm, Int.add_zero, ztgm]
  | succ k ih =>
    intro i a h hi he
    have hx := hr i hi (by omega)
    have hz : zsm (fun i => if X 1020 i = f then X 1019 i else 0) i (k + 1) = (if X 1020 i = f then X 1019 i else 0) + zsm (fun i => if X 1020 i = f then X 1019 i else 0) (i + 1) k := rfl
    have ht : ztgm X f i (k + 1) a = ztgm X f (i + 1) k (zor a (if X 1020 i = f then X 1018 i else 0)) := rfl
    rw [hz, ht]
    obtain ⟨u, v, w, hh⟩ := ih (i + 1) (zor a (if X 1020 i = f then X 1018 i else 0)) (h + (if X 1020 i = f then X 1019 i else 0)) (by omega) (by omega)
    refine ⟨u, v, w, ?_⟩
    rw [q_X12_weightOfFamilies_18]
    simp (disch := first | assumption | omega) only [l_0, l_1, l_2, l_3, l_4, l_5, l_6, l_7, l_8, l_9, l_10, l_12, l_16, l_24, l_31, l_32, l_48, l_96, l_99, l_100, l_150, l_180, l_200, l_240, l_255, l_260, l_384, l_400, l_999, l_5000, l_9999, l_1000000, l_1000000000, zJ_lt, zJ_le, zJ_eq, g14_17, g14_20, g14_18, t_I, t_Ie, t_R, t_Re, t_N, t_Nn, t_V, t_Ve, t_b, t_x, t_w, e_0, e_1, e_2, e_3, k14]
    rw [if_neg (by omega), ml_20 hM hi (by omega), t_b]
    simp (disch := first | assumption | omega) only [zJ_lt, zJ_le, zJ_eq]
    by_cases q : X 1020 i = f
    · rw [if_pos q, ml_18 hM hi (by omega), t_b, q_X12_weightOfFamilies_51]
      simp (disch := first | assumption | omega) only [l_0, l_1, l_2, l_3, l_4, l_5, l_6, l_7, l_8, l_9, l_10, l_12, l_16, l_24, l_31, l_32, l_48, l_96, l_99, l_100, l_150, l_180, l_200, l_240, l_255, l_260, l_384, l_400, l_999, l_5000, l_9999, l_1000000, l_1000000000, g14_20, g14_19, t_I, t_Ie, t_R, t_Re, t_N, t_Nn, t_V, t_Ve, t_b, t_x, t_w, e_0, e_1, e_2, e_3]
      rw [ml_20 hM hi (by omega), t_b, q, if_pos rfl, ml_19 hM hi (by omega), t_b]
      simp only [zJ_add, zJ_sub, zJ_mul, zJ_neg, zor_e]
      rw [if_pos q, if_pos q] at hh
      simp only [if_true]
      rw [hh, Int.add_assoc]
    · rw [if_neg q, q_X12_weightOfFamilies_51]
      simp (disch := first | assumption | omega) only [l_0, l_1, l_2, l_3, l_4, l_5, l_6, l_7, l_8, l_9, l_10, l_12, l_16, l_24, l_31, l_32, l_48, l_96, l_99, l_100, l_150, l_180, l_200, l_240, l_255, l_260, l_384, l_400, l_999, l_5000, l_9999, l_1000000, l_1000000000, g14_20, g14_19, t_I, t_Ie, t_R, t_Re, t_N, t_Nn, t_V, t_Ve, t_b, t_x, t_w, e_0, e_1, e_2, e_3]
      rw [ml_20 hM hi (by omega), t_b]
      simp (disch := first | assumption | omega) only [zJ_lt, zJ_le, zJ_eq, zJ_add, zJ_sub, zJ_mul, zJ_neg, zor_e]
      rw [if_neg q, if_neg q, if_neg q]
      rw [if_neg q, if_neg q] at hh
      rw [hh, Int.add_assoc]
end ZM
