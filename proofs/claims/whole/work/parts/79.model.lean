/-! THE TWO SIDES, 30: the reference's least weight, from its start -/
theorem zpw_k : ∀ f : Fin 6, ∀ k : Fin 6, 0 ≤ ((f.val : Nat) : Int) ^ k.val ∧ ((f.val : Nat) : Int) ^ k.val ≤ 3125 := by decide
theorem zpw {fs : Int} {k : Nat} (h : 0 ≤ fs) (h' : fs ≤ 5) (hk : k ≤ 5) : 0 ≤ fs ^ k ∧ fs ^ k ≤ 3125 := by
  obtain ⟨x, rfl⟩ := zJ_fin h 6 (by omega)
  exact zpw_k x ⟨k, by omega⟩
section ZM
variable {Y : zLy} {n s : Nat} {X : zX} {G : Nat × Nat} {i j : Int}
theorem m_all {fs : Int} (hM : wM Y) (ho : 0 ≤ X 417 0 ∧ X 417 0 ≤ 5) : ∀ (m : Nat) (k a : Int), 0 ≤ k → k + m = X 417 0 → ev_ G 106 4 [.ref (wA Y 14 0), .int (zJ fs), .int (zJ a), .int (zJ k), zU, zU, zU] [] (wd Y n s X) = ev_ G 106 28 [.ref (wA Y 14 0), .int (zJ fs), .int (zJ (a * fs ^ m)), .int (zJ 1000000000), .int (zJ 0), zU, zU] [] (wd Y n s X) := by
  have h14 := hM.2.1
  intro m
  induction m with
  | zero =>
    intro k a hk he
    rw [q_X12_leastOf_4]
    simp (disch := first | assumption | omega) only [g14_17, t_I, t_Ie, t_R, t_Re, t_N, t_Nn, t_V, t_Ve, t_b, t_x, t_w, e_0, e_1, e_2, e_3, zJ_lt, zJ_le, zJ_eq, l_0, l_1, l_2, l_3, l_4, l_5, l_6, l_7, l_8, l_9, l_10, l_12, l_16, l_24, l_31, l_32, l_48, l_96, l_99, l_100, l_150, l_180, l_200, l_240, l_255, l_260, l_384, l_400, l_999, l_5000, l_9999, l_1000000, l_1000000000]
    rw [if_pos (by omega), Int.pow_zero, Int.mul_one]
  | succ m ih =>
    intro k a hk he
    rw [q_X12_leastOf_4]
    simp (disch := first | assumption | omega) only [g14_17, t_I, t_Ie, t_R, t_Re, t_N, t_Nn, t_V, t_Ve, t_b, t_x, t_w, e_0, e_1, e_2, e_3, zJ_lt, zJ_le, zJ_eq, l_0, l_1, l_2, l_3, l_4, l_5, l_6, l_7, l_8, l_9, l_10, l_12, l_16, l_24, l_31, l_32, l_48, l_96, l_99, l_100, l_150, l_180, l_200, l_240, l_255, l_260, l_384, l_400, l_999, l_5000, l_9999, l_1000000, l_1000000000, zJ_add, zJ_sub, zJ_mul, zJ_neg]
    rw [if_neg (by omega), ih (k + 1) _ (by omega) (by omega), Int.pow_succ, Int.mul_assoc, Int.mul_comm fs]
theorem m_leastOf {fs : Int} (hM : wM Y) (hf : 0 < fs ∧ fs ≤ 5) (hw : wWm X) (ho : 0 ≤ X 417 0 ∧ X 417 0 ≤ 5) (hr : ∀ k, 0 ≤ k → k < 5 → 0 ≤ X 1020 k ∧ X 1020 k < 100) (hb : ∀ X', (∀ f j, f ≠ 1020 → X' f j = X f j) → (∀ k, 0 ≤ k → k < 5 → 0 ≤ X' 1020 k ∧ X' 1020 k < 100) → 0 ≤ zsm (zfw X') 0 fs.toNat ∧ zsm (zfw X') 0 fs.toNat ≤ 2000000000) : ev_ G 106 0 [.ref (wA Y 14 0), .int (zJ fs), zU, zU, zU, zU, zU] [] (wd Y n s X) = some (.inl (some (.int (zJ (zlo fs (X 417 0).toNat (fs ^ (X 417 0).toNat).toNat 0 1000000000 X).1))), wd Y n s (zlo fs (X 417 0).toNat (fs ^ (X 417 0).toNat).toNat 0 1000000000 X).2) := by
  have hp := zpw (fs := fs) (k := (X 417 0).toNat) (by omega) hf.2 (by omega)
  rw [q_X12_leastOf_0, l_0, l_1, m_all hM ho (X 417 0).toNat 0 1 (by decide) (by omega), Int.one_mul, m_leastR hM hf (by omega) (fs ^ (X 417 0).toNat).toNat 0 1000000000 _ _ X hw ho hr hb (by decide) (by omega) (by decide) (by decide)]
end ZM
