/-! THE TWO SIDES, 46: the reference's calls: ship, on -/
section ZM
variable {Y : zLy} {n s : Nat} {X : zX} {G : Nat × Nat} {i j p q r t e : Int}
theorem m_shipG (hM : wM Y) (hp : 0 ≤ p ∧ p < 12) (hr : ∀ k, 0 ≤ k → k < 96 → 0 ≤ X 1041 k ∧ X 1041 k < 6 ∧ 0 ≤ X 1042 k ∧ X 1042 k ≤ 1) : ev_ G 191 45 [.ref (wA Y 14 0), .int (zJ p)] [.int (zJ 0), .ref (wA Y 14 0)] (wd Y n s X) = some (.inl (some (.int (zJ (zfm X p 0)))), wd Y n s (wu (wu X 444 0 0) 1037 p 1)) := by
  have h14 := hM.2.1
  have e : ∀ f k, f ≠ 444 → f ≠ 1037 → wu (wu X 444 0 0) 1037 p 1 f k = X f k := fun f k h h' => by rw [wu_ne h', wu_ne h]
  have hfa := m_faults (G := G) (n := n) (s := s) (X := wu (wu X 444 0 0) 1037 p 1) (b := p) (f := 0) hM hp (fun k h h' => by rw [e _ _ (by decide) (by decide), e _ _ (by decide) (by decide)]; exact hr k h h') (by decide)
  simp only [e 1041 _ (by decide) (by decide), e 1042 _ (by decide) (by decide)] at hfa
  rw [q_X12_ship_45, k14 h14, m_fails hM (by decide) (by decide), t_I, zB_0 (by decide), l_0, e_2]
  simp only [a_11]
  simp (disch := first | assumption | omega) only [g14_37, t_I, t_Ie, t_R, t_Re, t_N, t_Nn, t_V, t_Ve, t_b, t_x, t_w, e_0, e_1, e_2, e_3]
  rw [ms_37 hM hp.1 hp.2, t_b, k14 h14, hfa, t_I]
  rfl
end ZM
