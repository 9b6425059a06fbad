/-! THE TWO SIDES, 31: the reference lays a way -/
/-- whether a bundle goes on from a node, by the reference's costs -/
abbrev zonm (X : zX) (c : Int → Int) (v i : Int) : Prop := zac (X 1001 i) (X 1002 i) v ≠ -1 ∧ ¬zJ (X 1004 i) ≤ zJ 0 ∧ c (zac (X 1001 i) (X 1002 i) v) + (100 * X 1003 i + 1) = c v
def zlwm (X : zX) (c : Int → Int) (v : Int) : Nat → Int → Int
  | 0, f => f
  | m + 1, f => zlwm X c v m (if zonm X c v m then (m : Int) else f)
section ZM
variable {Y : zLy} {n s : Nat} {X : zX} {G : Nat × Nat} {i j : Int}
theorem m_layF {w fr v : Int} {c : Int → Int} (hM : wM Y) (hb : wBm X (X 400 0)) (hv : 0 ≤ v ∧ v < 8) (hc : zcbm c) (hx : X 1016 = c) : ∀ (m : Nat) (f : Int) (u : Value), (m : Int) ≤ X 400 0 → ∃ u', ev_ G 74 29 [.ref (wA Y 14 0), .int (zJ w), .int (zJ fr), .int (zJ v), .int (zJ f), .int (zJ ((m : Int) - 1)), u] [] (wd Y n s X) = ev_ G 74 29 [.ref (wA Y 14 0), .int (zJ w), .int (zJ fr), .int (zJ v), .int (zJ (zlwm X c v m f)), .int (zJ (-1)), u'] [] (wd Y n s X) := by
  have h14 := hM.2.1
  intro m
  induction m with
  | zero =>
    intro f u hm
    exact ⟨u, rfl⟩
  | succ m ih =>
    intro f u hm
    obtain ⟨r1, r2, r3, r4, r5, r6, r7⟩ := hb.2 m (by omega) (by omega)
    have hn := hb.1
    have ek : ((m + 1 : Nat) : Int) - 1 = m := by omega
    have hr : -1 ≤ zac (X 1001 m) (X 1002 m) v ∧ zac (X 1001 m) (X 1002 m) v < 8 := by
      unfold zac
      repeat' split
      all_goals omega
    have hz : zlwm X c v (m + 1) f = zlwm X c v m (if zonm X c v m then (m : Int) else f) := rfl
    have hac := m_across (G := G) (n := n) (s := s) (X := X) (i := (m : Int)) (v := v) hM (by omega) (by omega) ⟨r1, r2⟩ ⟨r3, r4⟩ (by omega)
    have hco := m_costOf (G := G) (n := n) (s := s) (X := X) (i := (m : Int)) hM (by omega) (by omega)
    have L1 : zld false (wd Y n s X) (wA Y 15 504) (zJ (m : Int)) = some (zJ (X 1004 m)) := ml_4 hM (by omega) (by omega)
    rw [hz, ek, q_X12_lays_29]
    simp (disch := first | assumption | omega) only [l_0, l_1, l_2, l_3, l_4, l_5, l_6, l_7, l_8, l_9, l_10, l_12, l_16, l_24, l_31, l_32, l_48, l_96, l_99, l_100, l_150, l_180, l_200, l_240, l_255, l_260, l_384, l_400, l_999, l_5000, l_9999, l_1000000, l_1000000000, zJ_lt, zJ_le, zJ_eq, zJ_neg]
    rw [if_neg (by omega), k14 h14, hac, t_I]
    simp (disch := first | assumption | omega) only [zJ_lt, zJ_le, zJ_eq, g14_4, t_I, t_Ie, t_R, t_Re, t_N, t_Nn, t_V, t_Ve, t_b, t_x, t_w, e_0, e_1, e_2, e_3, L1, g14_16, k14, hco]
    rw [zJ_add, show (m : Int) + -1 = (m : Int) - 1 by omega]
    unfold zonm
    by_cases q : zac (X 1001 m) (X 1002 m) v = -1
    · rw [if_pos q, if_neg (fun g => g.1 q)]
      exact ih f _ (by omega)
    · rw [if_neg q]
      by_cases q2 : zJ (X 1004 m) ≤ zJ 0
      · rw [if_pos q2, if_neg (fun g => g.2.1 q2)]
        exact ih f _ (by omega)
      · have b1 := hc (zac (X 1001 m) (X 1002 m) v)
        have b2 := hc v
        have L2 : zld false (wd Y n s X) (wA Y 15 516) (zJ (zac (X 1001 m) (X 1002 m) v)) = some (zJ (c (zac (X 1001 m) (X 1002 m) v))) := by rw [ml_16 hM (by omega) hr.2, hx]
        have L3 : zld false (wd Y n s X) (wA Y 15 516) (zJ v) = some (zJ (c v)) := by rw [ml_16 hM hv.1 hv.2, hx]
        rw [if_neg q2]
        simp (disch := first | assumption | omega) only [t_I, t_Ie, t_R, t_Re, t_N, t_Nn, t_V, t_Ve, t_b, t_x, t_w, e_0, e_1, e_2, e_3, L2, L3, zJ_add, zJ_sub, zJ_mul, zJ_neg, zJ_lt, zJ_le, zJ_eq]
        by_cases q3 : c (zac (X 1001 m) (X 1002 m) v) + (100 * X 1003 m + 1) = c v
        · rw [if_pos q3, if_pos ⟨q, q2, q3⟩]
          exact ih m _ (by omega)
        · rw [if_neg q3, if_neg (fun g => q3 g.2.2)]
          exact ih f _ (by omega)
end ZM
