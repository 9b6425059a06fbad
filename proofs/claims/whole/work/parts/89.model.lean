/-! THE TWO SIDES, 40: the reference's calls: ofReel, open -/
section ZM
variable {Y : zLy} {n s : Nat} {X : zX} {G : Nat × Nat} {i j p q r e : Int}
theorem wu_ne {X : zX} {f i v g k : Int} (h : g ≠ f) : wu X f i v g k = X g k := if_neg (fun q => h q.1)
theorem wu_eq {X : zX} {f i v : Int} : wu X f i v f i = v := if_pos ⟨rfl, rfl⟩
theorem m_ofReelG (hM : wM Y) (hp : 0 ≤ p ∧ p < 12) (hq : 0 ≤ q ∧ q ≤ 2) (r1 : -1 ≤ X 1029 p ∧ X 1029 p < 10000) (r2 : 0 ≤ X 1028 p ∧ X 1028 p < 10000) (r3 : 0 ≤ X 424 0 ∧ X 424 0 < 10000) : ev_ G 140 23 [.ref (wA Y 14 0), .int (zJ p), .int (zJ q)] [.int (zJ 0), .ref (wA Y 14 0)] (wd Y n s X) = some (.inl (some (.int (zJ (if q = 0 then X 1026 p else if q = 1 then X 1027 p else zclk (X 1029 p + 1) (X 1028 p) (X 1029 p) (X 424 0))))), wd Y n s (wu X 444 0 0)) := by
  have h14 := hM.2.1
  have hr := m_runs (G := G) (n := n) (s := s) (X := wu X 444 0 0) (i := p) hM hp.1 hp.2 (by rw [wu_ne (by decide)]; exact r1) (by rw [wu_ne (by decide)]; exact r2) (by rw [wu_ne (by decide)]; exact r3)
  rw [wu_ne (by decide), wu_ne (by decide), wu_ne (by decide)] at hr
  rw [q_X12_ofReel_23, k14 h14, m_fails hM (by decide) (by decide), t_I, zB_0 (by decide), l_0, e_2, k14 h14, hr, t_I]
  simp (disch := first | assumption | omega) only [l_0, l_1, l_2, l_3, l_4, l_5, l_6, l_7, l_8, l_9, l_10, l_12, l_16, l_24, l_31, l_32, l_48, l_96, l_99, l_100, l_150, l_180, l_200, l_240, l_255, l_260, l_384, l_400, l_999, l_5000, l_9999, l_1000000, l_1000000000, g14_26, g14_27, t_I, t_Ie, t_R, t_Re, t_N, t_Nn, t_V, t_Ve, t_b, t_x, t_w, e_0, e_1, e_2, e_3, zJ_lt, zJ_le, zJ_eq]
  rw [ml_26 hM hp.1 hp.2, ml_27 hM hp.1 hp.2, t_b, t_b, wu_ne (by decide), wu_ne (by decide)]
  split
  · rfl
  · split <;> rfl
theorem m_open0 (hM : wM Y) (hn : 0 ≤ X 425 0 ∧ X 425 0 ≤ 12) (hp : -2147483648 ≤ p ∧ p < 2147483648) (hq : q = 0 ∨ q = 1) (hr : ∀ k, 0 ≤ k → k < 12 → -1 ≤ X 1029 k ∧ X 1029 k < 10000) : ev_ G 137 0 [.ref (wA Y 14 0), .int (zJ p), .int (zJ q)] [] (wd Y n s X) = ev_ G 137 32 [.ref (wA Y 14 0), .int (zJ p), .int (zJ q)] [.int (zJ (if 0 ≤ p ∧ p < X 425 0 then (if X 1029 p ≠ -1 ∧ q = 0 then 2 else 0) else 1)), .ref (wA Y 14 0)] (wd Y n s X) := by
  have h14 := hM.2.1
  rw [q_X12_open_0, k14 h14, m_isReel hM (by omega) hp.1 hp.2, t_I, l_0, l_1, l_2, zJ_neg]
  by_cases h : 0 ≤ p ∧ p < X 425 0
  · have hx := hr p h.1 (by omega)
    simp only [zB_1 h, z_10, if_false, if_pos h]
    simp (disch := first | assumption | omega) only [g14_29, t_I, t_Ie, t_R, t_Re, t_N, t_Nn, t_V, t_Ve, t_b, t_x, t_w, e_0, e_1, e_2, e_3]
    rw [ml_29 hM h.1 (by omega), t_b]
    simp (disch := first | assumption | omega) only [zJ_lt, zJ_le, zJ_eq]
    by_cases q1 : X 1029 p = -1
    · rw [if_pos q1, if_neg (fun g => g.1 q1)]
    · rw [if_neg q1]
      rcases hq with rfl | rfl
      · rw [if_pos rfl, if_pos ⟨q1, rfl⟩]
      · rw [if_neg (by decide), if_neg (fun g => absurd g.2 (by decide))]
  · simp only [zB_0 h, if_true, if_neg h]
theorem m_openE (hM : wM Y) (he : 0 < e ∧ e < 100) : ev_ G 137 32 [.ref (wA Y 14 0), .int (zJ p), .int (zJ q)] [.int (zJ e), .ref (wA Y 14 0)] (wd Y n s X) = some (.inl (some (.int (zJ 0))), wd Y n s (wu X 444 0 e)) := by
  have h14 := hM.2.1
  rw [q_X12_open_32, k14 h14, m_fails hM (by omega) he.2, t_I, zB_1 he.1, l_0, e_3]
end ZM
