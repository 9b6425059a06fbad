/-! THE TWO SIDES, 48: the reference's calls that throw: place, limits, flaw -/
section ZM
variable {Y : zLy} {n s : Nat} {X : zX} {G : Nat × Nat} {i j p q r t e : Int}
theorem m_placeE {u v : Int32} (hM : wM Y) (he : 0 < e ∧ e < 100) : ev_ G 156 94 [.ref (wA Y 14 0), .int (zJ p), .int (zJ q), .int (zJ r), .int u, .int v] [.int (zJ e), .ref (wA Y 14 0)] (wd Y n s X) = some (.inl (some (.int (zJ 0))), wd Y n s (wu X 444 0 e)) := by
  have h14 := hM.2.1
  rw [q_X12_place_94, k14 h14, m_fails hM (by omega) he.2, t_I, zB_1 he.1, l_0, e_3]
theorem m_limitsE {u v : Int32} (hM : wM Y) (he : 0 < e ∧ e < 100) : ev_ G 159 70 [.ref (wA Y 14 0), .int (zJ p), .int (zJ q), .int (zJ r), .int (zJ t), .int u, .int v] [.int (zJ e), .ref (wA Y 14 0)] (wd Y n s X) = some (.inl none, wd Y n s (wu X 444 0 e)) := by
  have h14 := hM.2.1
  rw [q_X12_limits_70, k14 h14, m_fails hM (by omega) he.2, t_I, zB_1 he.1, e_1]
theorem m_flawE {u : Int32} (hM : wM Y) (he : 0 < e ∧ e < 100) : ev_ G 174 68 [.ref (wA Y 14 0), .int (zJ p), .int (zJ q), .int u] [.int (zJ e), .ref (wA Y 14 0)] (wd Y n s X) = some (.inl none, wd Y n s (wu X 444 0 e)) := by
  have h14 := hM.2.1
  rw [q_X12_flaw_68, k14 h14, m_fails hM (by omega) he.2, t_I, zB_1 he.1, e_1]
end ZM
