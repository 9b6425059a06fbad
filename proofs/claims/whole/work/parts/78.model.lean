/-! THE TWO SIDES, 29: the reference's recall and test -/
section ZM
variable {Y : zLy} {n s : Nat} {X : zX} {G : Nat × Nat} {i j : Int}
theorem m_recK {b r t : Int} (hM : wM Y) (hb : 0 ≤ b ∧ b < 12) (hr : ∀ k, 0 ≤ k → k < 96 → -1 ≤ X 1038 k ∧ X 1038 k < 100) (hf : 0 ≤ r ∧ r < 100) (hs : 0 ≤ X 1037 b ∧ X 1037 b ≤ 1) : ∀ (m : Nat) (k h : Int), 8 * b ≤ k → k + m = 8 * b + 8 → 0 ≤ h → h ≤ 1 → ∃ u v, ev_ G 204 43 [.ref (wA Y 14 0), .int (zJ r), .int (zJ t), .int (zJ b), .int (zJ h), .int (zJ k)] [] (wd Y n s X) = ev_ G 204 26 [.ref (wA Y 14 0), .int (zJ r), .int (zJ (t + zB (X 1037 b ≠ 0 ∧ 0 < h + zsm (fun m => zB (X 1038 m = r)) k m))), .int (zJ (b + 1)), u, v] [] (wd Y n s X) := by
  have h14 := hM.2.1
  intro m
  induction m with
  | zero =>
    intro k h hk he h0 h1
    refine ⟨.int (zJ h), .int (zJ k), ?_⟩
    rw [q_X12_recall_43]
    simp (disch := first | assumption | omega) only [l_0, l_1, l_2, l_3, l_4, l_5, l_6, l_7, l_8, l_9, l_10, l_12, l_16, l_24, l_31, l_32, l_48, l_96, l_99, l_100, l_150, l_180, l_200, l_240, l_255, l_260, l_384, l_400, l_999, l_5000, l_9999, l_1000000, l_1000000000, zJ_add, zJ_sub, zJ_mul, zJ_neg, zJ_lt, zJ_le, zJ_eq, g14_37, t_I, t_Ie, t_R, t_Re, t_N, t_Nn, t_V, t_Ve, t_b, t_x, t_w, e_0, e_1, e_2, e_3]
    rw [if_pos (by omega)]
    simp only [zsm, Int.add_zero]
    by_cases q : h = 0
    · rw [if_pos q, zB_0 (by omega), Int.add_zero]
    · rw [if_neg q, ml_37 hM hb.1 hb.2, t_b]
      simp (disch := first | assumption | omega) only [zJ_lt, zJ_le, zJ_eq]
      by_cases q2 : X 1037 b = 0
      · rw [if_pos q2, zB_0 (fun w => w.1 q2), Int.add_zero]
      · rw [if_neg q2, zB_1 ⟨q2, by omega⟩]
  | succ m ih =>
    intro k h hk he h0 h1
    have hx := hr k (by omega) (by omega)
    have hz : zsm (fun m => zB (X 1038 m = r)) k (m + 1) = zB (X 1038 k = r) + zsm (fun m => zB (X 1038 m = r)) (k + 1) m := rfl
    have hp := (zsm_B (f := fun m => zB (X 1038 m = r)) (fun i => zB_r _) m (k + 1)).1
    have hbb := zB_r (X 1038 k = r)
    rw [hz, q_X12_recall_43]
    simp (disch := first | assumption | omega) only [l_0, l_1, l_2, l_3, l_4, l_5, l_6, l_7, l_8, l_9, l_10, l_12, l_16, l_24, l_31, l_32, l_48, l_96, l_99, l_100, l_150, l_180, l_200, l_240, l_255, l_260, l_384, l_400, l_999, l_5000, l_9999, l_1000000, l_1000000000, zJ_add, zJ_sub, zJ_mul, zJ_neg, zJ_lt, zJ_le, zJ_eq, g14_38, t_I, t_Ie, t_R, t_Re, t_N, t_Nn, t_V, t_Ve, t_b, t_x, t_w, e_0, e_1, e_2, e_3]
    rw [if_neg (by omega)]
    by_cases q : h = 0
    · rw [if_pos q, ml_38 hM (by omega) (by omega), t_b]
      simp (disch := first | assumption | omega) only [zJ_lt, zJ_le, zJ_eq]
      by_cases q2 : X 1038 k = r
      · obtain ⟨u, v, hh⟩ := ih (k + 1) 1 (by omega) (by omega) (by decide) (by decide)
        refine ⟨u, v, ?_⟩
        rw [if_pos q2, hh, zB_1 (p := X 1038 k = r) q2, q, Int.zero_add]
      · obtain ⟨u, v, hh⟩ := ih (k + 1) 0 (by omega) (by omega) (by decide) (by decide)
        refine ⟨u, v, ?_⟩
        rw [if_neg q2, hh, zB_0 (p := X 1038 k = r) q2, q, Int.zero_add, Int.zero_add]
    · obtain ⟨u, v, hh⟩ := ih (k + 1) 1 (by omega) (by omega) (by decide) (by decide)
      refine ⟨u, v, ?_⟩
      rw [if_neg q, hh]
      have : (X 1037 b ≠ 0 ∧ 0 < 1 + zsm (fun m => zB (X 1038 m = r)) (k + 1) m) = (X 1037 b ≠ 0 ∧ 0 < h + (zB (X 1038 k = r) + zsm (fun m => zB (X 1038 m = r)) (k + 1) m)) := propext (by omega)
      simp only [this]
theorem m_recB {r : Int} (hM : wM Y) (hr : ∀ k, 0 ≤ k → k < 96 → -1 ≤ X 1038 k ∧ X 1038 k < 100) (hf : 0 ≤ r ∧ r < 100) (hs : ∀ b, 0 ≤ b → b < 12 → 0 ≤ X 1037 b ∧ X 1037 b ≤ 1) (hn : 0 ≤ X 434 0 ∧ X 434 0 ≤ 12) : ∀ (k : Nat) (b t : Int) (u v : Value), 0 ≤ b → b + k = X 434 0 → ev_ G 204 26 [.ref (wA Y 14 0), .int (zJ r), .int (zJ t), .int (zJ b), u, v] [] (wd Y n s X) = some (.inl (some (.int (zJ (t + zsm (fun b => zB (X 1037 b ≠ 0 ∧ 0 < zsm (fun m => zB (X 1038 m = r)) (8 * b) 8)) b k)))), wd Y n s X) := by
  have h14 := hM.2.1
  intro k
  induction k with
  | zero =>
    intro b t u v hb he
    rw [q_X12_recall_26]
    simp (disch := first | assumption | omega) only [g14_34, t_I, t_Ie, t_R, t_Re, t_N, t_Nn, t_V, t_Ve, t_b, t_x, t_w, e_0, e_1, e_2, e_3, zJ_lt, zJ_le, zJ_eq]
    rw [if_pos (by omega)]
    simp only [zsm, Int.add_zero]
  | succ k ih =>
    intro b t u v hb he
    have hz : zsm (fun b => zB (X 1037 b ≠ 0 ∧ 0 < zsm (fun m => zB (X 1038 m = r)) (8 * b) 8)) b (k + 1) = zB (X 1037 b ≠ 0 ∧ 0 < zsm (fun m => zB (X 1038 m = r)) (8 * b) 8) + zsm (fun b => zB (X 1037 b ≠ 0 ∧ 0 < zsm (fun m => zB (X 1038 m = r)) (8 * b) 8)) (b + 1) k := rfl
    obtain ⟨u', v', hh⟩ := m_recK (G := G) (n := n) (s := s) (b := b) (r := r) (t := t) hM ⟨hb, by omega⟩ hr hf (hs b hb (by omega)) 8 (8 * b) 0 (by omega) (by omega) (by decide) (by decide)
    rw [hz, q_X12_recall_26]
    simp (disch := first | assumption | omega) only [g14_34, t_I, t_Ie, t_R, t_Re, t_N, t_Nn, t_V, t_Ve, t_b, t_x, t_w, e_0, e_1, e_2, e_3, zJ_lt, zJ_le, zJ_eq, l_0, l_1, l_2, l_3, l_4, l_5, l_6, l_7, l_8, l_9, l_10, l_12, l_16, l_24, l_31, l_32, l_48, l_96, l_99, l_100, l_150, l_180, l_200, l_240, l_255, l_260, l_384, l_400, l_999, l_5000, l_9999, l_1000000, l_1000000000, zJ_add, zJ_sub, zJ_mul, zJ_neg]
    rw [if_neg (by omega), hh, ih (b + 1) _ _ _ (by omega) (by omega), Int.add_assoc]
    simp only [Int.zero_add]
def ztsm (b : Int) : Nat → Int → zX → zX
  | 0, _, X => X
  | m + 1, sl, X => ztsm b m (sl + 1) (wu X 1042 (8 * b + sl) (if X 1042 (8 * b + sl) ≠ 0 ∨ (X 1033 sl ≠ 0 ∧ X 1041 (8 * b + sl) ≠ 0) then 1 else 0))
theorem m_testR {b : Int} (hM : wM Y) (hb : 0 ≤ b ∧ b < 12) : ∀ (m : Nat) (sl : Int) (u : Value) (X : zX), (∀ k, 0 ≤ k → k < 96 → 0 ≤ X 1041 k ∧ X 1041 k < 6 ∧ 0 ≤ X 1042 k ∧ X 1042 k ≤ 1) → (∀ k, 0 ≤ k → k < 8 → 0 ≤ X 1033 k ∧ X 1033 k ≤ 1) → 0 ≤ sl → sl + m = 8 → ev_ G 184 53 [.ref (wA Y 14 0), .int (zJ b), .int (zJ sl), u] [] (wd Y n s X) = some (.inl (some (.int (zJ (zsm (fun k => zB (ztsm b m sl X 1041 k ≠ 0 ∧ ztsm b m sl X 1042 k = 1)) (8 * b) 8)))), wd Y n s (ztsm b m sl X)) := by
  have h14 := hM.2.1
  intro m
  induction m with
  | zero =>
    intro sl u X hr hc hs he
    rw [q_X12_test_53]
    simp (disch := first | assumption | omega) only [l_0, l_1, l_2, l_3, l_4, l_5, l_6, l_7, l_8, l_9, l_10, l_12, l_16, l_24, l_31, l_32, l_48, l_96, l_99, l_100, l_150, l_180, l_200, l_240, l_255, l_260, l_384, l_400, l_999, l_5000, l_9999, l_1000000, l_1000000000, zJ_lt, zJ_le, zJ_eq]
    rw [if_pos (by omega), k14 h14, m_faults hM hb hr (by decide), t_I]
    rfl
  | succ m ih =>
    intro sl u X hr hc hs he
    have hx := hr (8 * b + sl) (by omega) (by omega)
    have hy := hc sl hs (by omega)
    have L1 : zld true (wd Y n s X) (wA Y 15 542) (zJ (8 * b + sl)) = some (zJ (X 1042 (8 * b + sl))) := ml_42 hM (by omega) (by omega)
    have L2 : zld true (wd Y n s X) (wA Y 15 533) (zJ sl) = some (zJ (X 1033 sl)) := ml_33 hM hs (by omega)
    have L3 : zld false (wd Y n s X) (wA Y 15 541) (zJ (8 * b + sl)) = some (zJ (X 1041 (8 * b + sl))) := ml_41 hM (by omega) (by omega)
    have S1 : ∀ v, zsto 1 (wd Y n s X) (wA Y 15 542) (zJ (8 * b + sl)) (zJ v) = some (wd Y n s (wu X 1042 (8 * b + sl) v)) := fun v => ms_42 hM (by omega) (by omega)
    have hih : ∀ u, ev_ G 184 53 [.ref (wA Y 14 0), .int (zJ b), .int (zJ (sl + 1)), u] [] (wd Y n s (wu X 1042 (8 * b + sl) (if X 1042 (8 * b + sl) ≠ 0 ∨ (X 1033 sl ≠ 0 ∧ X 1041 (8 * b + sl) ≠ 0) then 1 else 0))) = some (.inl (some (.int (zJ (zsm (fun k => zB (ztsm b (m + 1) sl X 1041 k ≠ 0 ∧ ztsm b (m + 1) sl X 1042 k = 1)) (8 * b) 8)))), wd Y n s (ztsm b (m + 1) sl X)) := by
      intro u
      refine ih (sl + 1) u _ (fun k h h' => ?_) (fun k h h' => ?_) (by omega) (by omega)
      · have := hr k h h'
        have e : ∀ v, wu X 1042 (8 * b + sl) v 1041 k = X 1041 k := fun v => if_neg (by omega)
        rw [e]
        unfold wu
        split
        · split <;> omega
        · exact this
      · have e : ∀ v, wu X 1042 (8 * b + sl) v 1033 k = X 1033 k := fun v => if_neg (by omega)
        rw [e]
        exact hc k h h'
    rw [q_X12_test_53]
    simp only [a_11, a_01]
    simp (disch := first | assumption | omega) only [l_0, l_1, l_2, l_3, l_4, l_5, l_6, l_7, l_8, l_9, l_10, l_12, l_16, l_24, l_31, l_32, l_48, l_96, l_99, l_100, l_150, l_180, l_200, l_240, l_255, l_260, l_384, l_400, l_999, l_5000, l_9999, l_1000000, l_1000000000, zJ_lt, zJ_le, zJ_eq, zJ_add, zJ_sub, zJ_mul, zJ_neg, g14_42, g14_33, g14_41, t_I, t_Ie, t_R, t_Re, t_N, t_Nn, t_V, t_Ve, t_b, t_x, t_w, e_0, e_1, e_2, e_3, L1, L2, L3, S1]
    rw [if_neg (by omega)]
    by_cases q : X 1042 (8 * b + sl) = 0
    · rw [if_pos q]
      by_cases q2 : X 1033 sl = 0
      · rw [if_pos q2, ← hih (.int (zJ (8 * b + sl))), if_neg (by omega)]
      · rw [if_neg q2]
        by_cases q3 : X 1041 (8 * b + sl) = 0
        · rw [if_pos q3, ← hih (.int (zJ (8 * b + sl))), if_neg (by omega)]
        · rw [if_neg q3, ← hih (.int (zJ (8 * b + sl))), if_pos (Or.inr ⟨q2, q3⟩)]
    · rw [if_neg q, ← hih (.int (zJ (8 * b + sl))), if_pos (Or.inl q)]
end ZM
