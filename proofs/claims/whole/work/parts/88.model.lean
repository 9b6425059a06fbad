/-! THE TWO SIDES, 39: the reference's calls: crimps, ofReel, open -/
section ZM
variable {Y : zLy} {n s : Nat} {X : zX} {G : Nat × Nat} {i j p q r e : Int}
theorem m_crimpsG (hM : wM Y) (hp : 0 ≤ p ∧ p ≤ 2) (hg : 0 ≤ X 422 0 ∧ X 422 0 < 100000) (hf : ∀ k, 0 ≤ k → k < 8 → 0 ≤ X 1023 k ∧ X 1023 k < 10000) : ev_ G 125 15 [.ref (wA Y 14 0), .int (zJ p)] [.int (zJ 0), .ref (wA Y 14 0)] (wd Y n s X) = some (.inl (some (.int (zJ (if p = 0 then X 421 0 else if p = 1 then X 422 0 else zwin2 (wu X 444 0 0))))), wd Y n s (wu X 444 0 0)) := by
  have h14 := hM.2.1
  have e : ∀ f j, f ≠ 444 → wu X 444 0 0 f j = X f j := fun f j h => if_neg (fun q => h q.1)
  have hw := m_window (G := G) (n := n) (s := s) (X := wu X 444 0 0) hM (by rw [e 422 _ (by decide)]; exact hg) (fun k h h' => by rw [e 1023 _ (by decide)]; exact hf k h h')
  rw [q_X12_crimps_15, k14 h14, m_fails hM (by decide) (by decide), t_I, zB_0 (by decide), l_0, e_2, k14 h14, hw, t_I]
  simp (disch := first | assumption | omega) only [l_0, l_1, l_2, l_3, l_4, l_5, l_6, l_7, l_8, l_9, l_10, l_12, l_16, l_24, l_31, l_32, l_48, l_96, l_99, l_100, l_150, l_180, l_200, l_240, l_255, l_260, l_384, l_400, l_999, l_5000, l_9999, l_1000000, l_1000000000, g14_21, g14_22, t_I, t_Ie, t_R, t_Re, t_N, t_Nn, t_V, t_Ve, t_b, t_x, t_w, e_0, e_1, e_2, e_3, zJ_lt, zJ_le, zJ_eq]
  rw [e 421 _ (by decide), e 422 _ (by decide)]
  split
  · rfl
  · split <;> rfl
theorem m_ofReel0 (hM : wM Y) (hn : 0 ≤ X 425 0 ∧ X 425 0 ≤ 12) (hp : -2147483648 ≤ p ∧ p < 2147483648) (hq : -2147483648 ≤ q ∧ q < 2147483648) : ev_ G 140 0 [.ref (wA Y 14 0), .int (zJ p), .int (zJ q)] [] (wd Y n s X) = ev_ G 140 23 [.ref (wA Y 14 0), .int (zJ p), .int (zJ q)] [.int (zJ (if (0 ≤ p ∧ p < X 425 0) ∧ (0 ≤ q ∧ q ≤ 2) then 0 else 1)), .ref (wA Y 14 0)] (wd Y n s X) := by
  have h14 := hM.2.1
  rw [q_X12_ofReel_0, k14 h14, m_isReel hM (by omega) hp.1 hp.2, t_I, l_0, l_1, l_2, m_isIn hq.1 hq.2 (by decide) (by decide) (by decide) (by decide), t_I]
  by_cases h : 0 ≤ p ∧ p < X 425 0
  · by_cases h2 : 0 ≤ q ∧ q ≤ 2
    · simp only [zB_1 h, zB_1 h2, z_10, if_false, if_pos (And.intro h h2)]
    · simp only [zB_1 h, zB_0 h2, z_10, if_false, if_true, if_neg (fun g : (0 ≤ p ∧ p < X 425 0) ∧ (0 ≤ q ∧ q ≤ 2) => h2 g.2)]
  · simp only [zB_0 h, if_true, if_neg (fun g : (0 ≤ p ∧ p < X 425 0) ∧ (0 ≤ q ∧ q ≤ 2) => h g.1)]
theorem m_ofReelE (hM : wM Y) (he : 0 < e ∧ e < 100) : ev_ G 140 23 [.ref (wA Y 14 0), .int (zJ p), .int (zJ q)] [.int (zJ e), .ref (wA Y 14 0)] (wd Y n s X) = some (.inl (some (.int (zJ 0))), wd Y n s (wu X 444 0 e)) := by
  have h14 := hM.2.1
  rw [q_X12_ofReel_23, k14 h14, m_fails hM (by omega) he.2, t_I, zB_1 he.1, l_0, e_3]
end ZM
