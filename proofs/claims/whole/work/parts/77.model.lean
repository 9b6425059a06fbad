/-! THE TWO SIDES, 28: the reference's soldering, recall, test -/
section ZM
variable {Y : zLy} {n s : Nat} {X : zX} {G : Nat × Nat} {i j : Int}
/-- the joint of a place with a part -/
def zjm (X : zX) (p k : Int) : zX := wu (wu X 1040 k (zjf (X 1031 (X 1026 (X 1038 k))) (X 1032 (X 1026 (X 1038 k))) p)) 1041 k (zjf (X 1031 (X 1026 (X 1038 k))) (X 1032 (X 1026 (X 1038 k))) p)
def zsom (p : Int) : Nat → Int → zX → zX
  | 0, _, X => X
  | m + 1, k, X => zsom p m (k + 1) (if X 1038 k = -1 then X else zjm X p k)
theorem zjm_f {X : zX} {p k f j : Int} (h : f ≠ 1040) (h' : f ≠ 1041) : zjm X p k f j = X f j := by
  unfold zjm wu
  rw [if_neg (fun q => h' q.1), if_neg (fun q => h q.1)]
theorem m_solR {b p : Int} (hM : wM Y) (hb : 0 ≤ b ∧ b < 12) (hp : 0 ≤ p ∧ p ≤ 1000) : ∀ (m : Nat) (k : Int) (u : Value) (X : zX), (∀ k, 0 ≤ k → k < 96 → -1 ≤ X 1038 k ∧ X 1038 k < 12) → (∀ r, 0 ≤ r → r < 12 → 0 ≤ X 1026 r ∧ X 1026 r < 6) → (∀ q, 0 ≤ q → q < 6 → 0 ≤ X 1031 q ∧ X 1031 q ≤ 1000 ∧ 0 ≤ X 1032 q ∧ X 1032 q ≤ 1000) → 8 * b ≤ k → k + m = 8 * b + 8 → ev_ G 171 53 [.ref (wA Y 14 0), .int (zJ b), .int (zJ p), .int (zJ k), u] [] (wd Y n s X) = some (.inl (some (.int (zJ p))), wd Y n s (zsom p m k X)) := by
  have h14 := hM.2.1
  intro m
  induction m with
  | zero =>
    intro k u X h1 h2 h3 hk he
    rw [q_X12_solder_53]
    simp (disch := first | assumption | omega) only [l_0, l_1, l_2, l_3, l_4, l_5, l_6, l_7, l_8, l_9, l_10, l_12, l_16, l_24, l_31, l_32, l_48, l_96, l_99, l_100, l_150, l_180, l_200, l_240, l_255, l_260, l_384, l_400, l_999, l_5000, l_9999, l_1000000, l_1000000000, zJ_add, zJ_sub, zJ_mul, zJ_neg, zJ_lt, zJ_le, zJ_eq]
    rw [if_pos (by omega)]
    rfl
  | succ m ih =>
    intro k u X h1 h2 h3 hk he
    have a1 := h1 k (by omega) (by omega)
    have hz : zsom p (m + 1) k X = zsom p m (k + 1) (if X 1038 k = -1 then X else zjm X p k) := rfl
    rw [hz, q_X12_solder_53]
    simp (disch := first | assumption | omega) only [l_0, l_1, l_2, l_3, l_4, l_5, l_6, l_7, l_8, l_9, l_10, l_12, l_16, l_24, l_31, l_32, l_48, l_96, l_99, l_100, l_150, l_180, l_200, l_240, l_255, l_260, l_384, l_400, l_999, l_5000, l_9999, l_1000000, l_1000000000, zJ_add, zJ_sub, zJ_mul, zJ_neg, zJ_lt, zJ_le, zJ_eq, g14_38, t_I, t_Ie, t_R, t_Re, t_N, t_Nn, t_V, t_Ve, t_b, t_x, t_w, e_0, e_1, e_2, e_3]
    rw [if_neg (by omega), ml_38 hM (by omega) (by omega), t_b]
    simp (disch := first | assumption | omega) only [zJ_lt, zJ_le, zJ_eq]
    by_cases q : X 1038 k = -1
    · rw [if_pos q, if_pos q, ih (k + 1) u X h1 h2 h3 (by omega) (by omega)]
    · have a2 := h2 (X 1038 k) (by omega) (by omega)
      have a3 := h3 (X 1026 (X 1038 k)) a2.1 a2.2
      have L1 : zld false (wd Y n s X) (wA Y 15 538) (zJ k) = some (zJ (X 1038 k)) := ml_38 hM (by omega) (by omega)
      have L2 : zld false (wd Y n s X) (wA Y 15 526) (zJ (X 1038 k)) = some (zJ (X 1026 (X 1038 k))) := ml_26 hM (by omega) (by omega)
      have L3 : zld false (wd Y n s X) (wA Y 15 531) (zJ (X 1026 (X 1038 k))) = some (zJ (X 1031 (X 1026 (X 1038 k)))) := ml_31 hM a2.1 a2.2
      have L4 : zld false (wd Y n s X) (wA Y 15 532) (zJ (X 1026 (X 1038 k))) = some (zJ (X 1032 (X 1026 (X 1038 k)))) := ml_32 hM a2.1 a2.2
      have h123 : ∀ v x : Int, ev_ G 171 123 [.ref (wA Y 14 0), .int (zJ b), .int (zJ p), .int (zJ k), .int (zJ x)] [.int (zJ v), .int (zJ k), .ref (wA Y 15 540)] (wd Y n s X) = ev_ G 171 53 [.ref (wA Y 14 0), .int (zJ b), .int (zJ p), .int (zJ (k + 1)), .int (zJ x)] [] (wd Y n s (wu (wu X 1040 k v) 1041 k v)) := by
        intro v x
        have e : wu X 1040 k v 1040 k = v := if_pos ⟨rfl, rfl⟩
        rw [q_X12_solder_123, ms_40 hM (by omega) (by omega), t_b]
        simp (disch := first | assumption | omega) only [g14_41, g14_40, t_I, t_Ie, t_R, t_Re, t_N, t_Nn, t_V, t_Ve, t_b, t_x, t_w, e_0, e_1, e_2, e_3]
        rw [ml_40 hM (by omega) (by omega), t_b, e, ms_41 hM (by omega) (by omega), t_b, l_1, zJ_add]
      rw [if_neg q, if_neg q]
      simp (disch := first | assumption | omega) only [g14_26, g14_38, g14_40, g14_31, g14_32, t_I, t_Ie, t_R, t_Re, t_N, t_Nn, t_V, t_Ve, t_b, t_x, t_w, e_0, e_1, e_2, e_3, L1, L2, L3, L4, zJ_lt, zJ_le, zJ_eq]
      have hih : ∀ x, ev_ G 171 53 [.ref (wA Y 14 0), .int (zJ b), .int (zJ p), .int (zJ (k + 1)), x] [] (wd Y n s (zjm X p k)) = some (.inl (some (.int (zJ p))), wd Y n s (zsom p m (k + 1) (zjm X p k))) := by
        intro x
        refine ih (k + 1) x _ (fun k h h' => ?_) (fun k h h' => ?_) (fun k h h' => ?_) (by omega) (by omega)
        · rw [zjm_f (by decide) (by decide)]; exact h1 k h h'
        · rw [zjm_f (by decide) (by decide)]; exact h2 k h h'
        · rw [zjm_f (by decide) (by decide), zjm_f (by decide) (by decide)]; exact h3 k h h'
      unfold zjm at hih ⊢
      by_cases q1 : X 1031 (X 1026 (X 1038 k)) ≤ p
      · rw [if_pos q1]
        by_cases q2 : p ≤ X 1032 (X 1026 (X 1038 k))
        · have hv : zjf (X 1031 (X 1026 (X 1038 k))) (X 1032 (X 1026 (X 1038 k))) p = 0 := by unfold zjf; rw [if_neg (by omega), if_neg (by omega)]
          rw [hv] at hih ⊢
          rw [if_pos q2, h123, hih]
        · have hv : zjf (X 1031 (X 1026 (X 1038 k))) (X 1032 (X 1026 (X 1038 k))) p = 2 := by unfold zjf; rw [if_neg (by omega), if_pos (by omega)]
          rw [hv] at hih ⊢
          rw [if_neg q2, h123, hih]
      · have hv : zjf (X 1031 (X 1026 (X 1038 k))) (X 1032 (X 1026 (X 1038 k))) p = 1 := by unfold zjf; rw [if_pos (by omega)]
        rw [hv] at hih ⊢
        rw [if_neg q1, h123, hih]
end ZM
