/-! THE TWO SIDES, 45: the reference's calls: ship -/
def zfm (X : zX) (b f : Int) : Int := zsm (fun m => zB (X 1041 m ≠ 0 ∧ X 1042 m = f)) (8 * b) 8
theorem zfm_r (X : zX) (b f : Int) : 0 ≤ zfm X b f ∧ zfm X b f ≤ 8 := zsm_B (fun i => zB_r _) 8 (8 * b)
section ZM
variable {Y : zLy} {n s : Nat} {X : zX} {G : Nat × Nat} {i j p q r t e : Int}
theorem m_ship0 (hM : wM Y) (hn : 0 ≤ X 434 0 ∧ X 434 0 ≤ 12) (hp : -2147483648 ≤ p ∧ p < 2147483648) (hr : ∀ k, 0 ≤ k → k < 96 → 0 ≤ X 1041 k ∧ X 1041 k < 6 ∧ 0 ≤ X 1042 k ∧ X 1042 k ≤ 1) (hb : ∀ b, 0 ≤ b → b < 12 → (0 ≤ X 1036 b ∧ X 1036 b ≤ 1) ∧ (0 ≤ X 1037 b ∧ X 1037 b ≤ 1)) : ev_ G 191 0 [.ref (wA Y 14 0), .int (zJ p)] [] (wd Y n s X) = ev_ G 191 45 [.ref (wA Y 14 0), .int (zJ p)] [.int (zJ (if 0 ≤ p ∧ p < X 434 0 then (if X 1037 p = 0 ∧ X 1036 p ≠ 0 ∧ zfm X p 1 ≤ 0 then 0 else 2) else 1)), .ref (wA Y 14 0)] (wd Y n s X) := by
  have h14 := hM.2.1
  rw [q_X12_ship_0, k14 h14, m_isBoard hM (by omega) hp.1 hp.2, t_I, l_0, l_1, l_2]
  by_cases h : 0 ≤ p ∧ p < X 434 0
  · obtain ⟨b1, b2⟩ := hb p h.1 (by omega)
    have hz := zfm_r X p 1
    have hfa := m_faults (G := G) (n := n) (s := s) (X := X) (b := p) (f := 1) hM ⟨h.1, by omega⟩ hr (by decide)
    simp only [zB_1 h, z_10, if_false, if_pos h]
    simp (disch := first | assumption | omega) only [g14_37, g14_36, t_I, t_Ie, t_R, t_Re, t_N, t_Nn, t_V, t_Ve, t_b, t_x, t_w, e_0, e_1, e_2, e_3, k14]
    rw [ml_37 hM h.1 (by omega), t_b, ml_36 hM h.1 (by omega), t_b, hfa, t_I]
    have hf2 : zsm (fun m => zB (X 1041 m ≠ 0 ∧ X 1042 m = 1)) (8 * p) 8 = zfm X p 1 := rfl
    rw [hf2]
    simp (disch := first | assumption | omega) only [zJ_lt, zJ_le, zJ_eq]
    by_cases q1 : X 1037 p = 0
    · rw [if_pos q1]
      by_cases q2 : X 1036 p = 0
      · rw [if_pos q2, if_neg (fun g => g.2.1 q2)]
      · rw [if_neg q2]
        by_cases q3 : zfm X p 1 ≤ 0
        · rw [if_pos q3, if_pos ⟨q1, q2, q3⟩]
        · rw [if_neg q3, if_neg (fun g => q3 g.2.2)]
    · rw [if_neg q1, if_neg (fun g => q1 g.1)]
  · simp only [zB_0 h, if_true, if_neg h]
theorem m_shipE (hM : wM Y) (he : 0 < e ∧ e < 100) : ev_ G 191 45 [.ref (wA Y 14 0), .int (zJ p)] [.int (zJ e), .ref (wA Y 14 0)] (wd Y n s X) = some (.inl (some (.int (zJ 0))), wd Y n s (wu X 444 0 e)) := by
  have h14 := hM.2.1
  rw [q_X12_ship_45, k14 h14, m_fails hM (by omega) he.2, t_I, zB_1 he.1, l_0, e_3]
end ZM
