/-! THE TWO SIDES, 37: the reference's calls: weight, order, reel, crimps -/
section ZM
variable {Y : zLy} {n s : Nat} {X : zX} {G : Nat × Nat} {i j p q r e : Int}
theorem m_areO {W : zW} (hp : -2147483648 ≤ p ∧ p < 2147483648) : ev_ G 91 0 [.int (zJ p)] [] W = some (.inl (some (.int (zJ (zB (0 ≤ p ∧ p ≤ 255))))), W) := by
  rw [q_X12_areOptions_0]
  simp (disch := first | assumption | omega) only [l_0, l_1, l_2, l_3, l_4, l_5, l_6, l_7, l_8, l_9, l_10, l_12, l_16, l_24, l_31, l_32, l_48, l_96, l_99, l_100, l_150, l_180, l_200, l_240, l_255, l_260, l_384, l_400, l_999, l_5000, l_9999, l_1000000, l_1000000000, m_isIn, t_I, t_Ie, t_R, t_Re, t_N, t_Nn, t_V, t_Ve, t_b, t_x, t_w, e_0, e_1, e_2, e_3, a_B, if_true]
theorem m_weight0 (hM : wM Y) (hp : -2147483648 ≤ p ∧ p < 2147483648) : ev_ G 93 0 [.ref (wA Y 14 0), .int (zJ p)] [] (wd Y n s X) = ev_ G 93 13 [.ref (wA Y 14 0), .int (zJ p)] [.int (zJ (if 0 ≤ p ∧ p ≤ 255 then 0 else 1)), .ref (wA Y 14 0)] (wd Y n s X) := by
  rw [q_X12_weight_0, m_areO hp, t_I, l_0, l_1]
  by_cases h : 0 ≤ p ∧ p ≤ 255
  · simp only [zB_1 h, z_10, if_false, if_pos h]
  · simp only [zB_0 h, if_true, if_neg h]
theorem m_weightE (hM : wM Y) (he : 0 < e ∧ e < 100) : ev_ G 93 13 [.ref (wA Y 14 0), .int (zJ p)] [.int (zJ e), .ref (wA Y 14 0)] (wd Y n s X) = some (.inl (some (.int (zJ 0))), wd Y n s (wu X 444 0 e)) := by
  have h14 := hM.2.1
  rw [q_X12_weight_13, k14 h14, m_fails hM (by omega) he.2, t_I, zB_1 he.1, l_0, e_3]
theorem m_weightG (hM : wM Y) (hw : wWm X) : ev_ G 93 13 [.ref (wA Y 14 0), .int (zJ p)] [.int (zJ 0), .ref (wA Y 14 0)] (wd Y n s X) = some (.inl (some (.int (zJ (zsm (zwg (wu X 444 0 0) p) 0 (X 410 0).toNat)))), wd Y n s (wu X 444 0 0)) := by
  have h14 := hM.2.1
  have e : ∀ f j, f ≠ 444 → wu X 444 0 0 f j = X f j := fun f j h => if_neg (fun q => h q.1)
  have hw' : wWm (wu X 444 0 0) := by
    unfold wWm at *
    simp only [e 410 _ (by decide), e 1014 _ (by decide), e 1011 _ (by decide), e 1015 _ (by decide)]
    exact hw
  rw [q_X12_weight_13, k14 h14, m_fails hM (by decide) (by decide), t_I, zB_0 (by decide), l_0, e_2, k14 h14, m_weighs hM hw'.1 hw'.2, t_I, e 410 _ (by decide)]
theorem m_order0 (hM : wM Y) (hp : -2147483648 ≤ p ∧ p < 2147483648) (hq : -2147483648 ≤ q ∧ q < 2147483648) (ho : 0 ≤ X 417 0 ∧ X 417 0 ≤ 5) : ∃ u, ev_ G 97 0 [.ref (wA Y 14 0), .int (zJ p), .int (zJ q), zU] [] (wd Y n s X) = ev_ G 97 45 [.ref (wA Y 14 0), .int (zJ p), .int (zJ q), .int u] [.int (zJ (if (0 ≤ p ∧ p ≤ 255) ∧ (1 ≤ q ∧ q ≤ 99) then (if X 417 0 = 5 then 2 else 0) else 1)), .ref (wA Y 14 0)] (wd Y n s X) := by
  have h14 := hM.2.1
  rw [q_X12_order_0, m_areO hp, t_I, l_0, l_1, show (99 : Int32) = zJ 99 from rfl, m_isIn hq.1 hq.2 (by decide) (by decide) (by decide) (by decide), t_I]
  have bad : ev_ G 97 22 [.ref (wA Y 14 0), .int (zJ p), .int (zJ q), zU] [.int (zJ 0)] (wd Y n s X) = ev_ G 97 45 [.ref (wA Y 14 0), .int (zJ p), .int (zJ q), .int (zJ 0)] [.int (zJ 1), .ref (wA Y 14 0)] (wd Y n s X) := by
    rw [q_X12_order_22, e_0]
    rfl
  by_cases h : 0 ≤ p ∧ p ≤ 255
  · by_cases h2 : 1 ≤ q ∧ q ≤ 99
    · refine ⟨zJ 1, ?_⟩
      simp only [zB_1 h, zB_1 h2, z_10, if_false, if_pos (And.intro h h2)]
      rw [q_X12_order_22, e_1]
      simp (disch := first | assumption | omega) only [g14_17, t_I, t_Ie, t_R, t_Re, t_N, t_Nn, t_V, t_Ve, t_b, t_x, t_w, e_0, e_1, e_2, e_3, l_0, l_1, l_2, l_3, l_4, l_5, l_6, l_7, l_8, l_9, l_10, l_12, l_16, l_24, l_31, l_32, l_48, l_96, l_99, l_100, l_150, l_180, l_200, l_240, l_255, l_260, l_384, l_400, l_999, l_5000, l_9999, l_1000000, l_1000000000, zJ_lt, zJ_le, zJ_eq]
      split <;> rfl
    · refine ⟨zJ 0, ?_⟩
      simp only [zB_1 h, zB_0 h2, z_10, if_false, if_true, if_neg (fun g : (0 ≤ p ∧ p ≤ 255) ∧ (1 ≤ q ∧ q ≤ 99) => h2 g.2)]
      exact bad
  · refine ⟨zJ 0, ?_⟩
    simp only [zB_0 h, if_true, if_neg (fun g : (0 ≤ p ∧ p ≤ 255) ∧ (1 ≤ q ∧ q ≤ 99) => h g.1)]
    exact bad
theorem m_orderE {u : Int32} (hM : wM Y) (he : 0 < e ∧ e < 100) : ev_ G 97 45 [.ref (wA Y 14 0), .int (zJ p), .int (zJ q), .int u] [.int (zJ e), .ref (wA Y 14 0)] (wd Y n s X) = some (.inl (some (.int (zJ 0))), wd Y n s (wu X 444 0 e)) := by
  have h14 := hM.2.1
  rw [q_X12_order_45, k14 h14, m_fails hM (by omega) he.2, t_I, zB_1 he.1, l_0, e_3]
end ZM
