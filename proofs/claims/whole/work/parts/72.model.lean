/-! THE TWO SIDES, 23: the reference's loops, on -/
def zb2 (o v : Int) : Bool := decide ((zJ o >>> (zJ v &&& zJ 31)) &&& zJ 1 = zJ 1)
theorem zb2_e {o v : Int} : ((zJ o >>> (zJ v &&& zJ 31)) &&& zJ 1 = zJ 1) = (zb2 o v = true) := by
  unfold zb2
  rw [decide_eq_true_eq]
def zwg (X : zX) (o : Int) (w : Int) : Int := if zb2 o (X 1013 w) = true then zln1 X w else 0
section ZM
variable {Y : zLy} {n s : Nat} {X : zX} {G : Nat × Nat} {i j : Int}
theorem m_weighsR {o : Int} (hM : wM Y) (hn : 0 ≤ X 410 0 ∧ X 410 0 ≤ 24) (hr : ∀ w, 0 ≤ w → w < X 410 0 → (0 ≤ X 1014 w ∧ X 1014 w ≤ 16) ∧ (0 ≤ X 1011 w ∧ X 1011 w ≤ 1) ∧ (∀ k, 16 * w ≤ k → k < 16 * w + X 1014 w → 0 ≤ X 1015 k ∧ X 1015 k < 16)) : ∀ (k : Nat) (i t : Int), 0 ≤ i → i + k = X 410 0 → ev_ G 92 4 [.ref (wA Y 14 0), .int (zJ o), .int (zJ t), .int (zJ i)] [] (wd Y n s X) = some (.inl (some (.int (zJ (t + zsm (zwg X o) i k)))), wd Y n s X) := by
  have h14 := hM.2.1
  intro k
  induction k with
  | zero =>
    intro i t hi he
    rw [q_X12_weighs_4]
    simp (disch := first | assumption | omega) only [l_0, l_1, l_2, l_3, l_4, l_5, l_6, l_7, l_8, l_9, l_10, l_12, l_16, l_24, l_31, l_32, l_48, l_96, l_99, l_100, l_150, l_180, l_200, l_240, l_255, l_260, l_384, l_400, l_999, l_5000, l_9999, l_1000000, l_1000000000, g14_10, t_I, t_Ie, t_R, t_Re, t_N, t_Nn, t_V, t_Ve, t_b, t_x, t_w, e_0, e_1, e_2, e_3, zJ_lt, zJ_le, zJ_eq]
    rw [if_pos (by omega)]
    simp only [zsm, Int.add_zero]
  | succ k ih =>
    intro i t hi he
    obtain ⟨r1, r2, r3⟩ := hr i hi (by omega)
    have hz : zsm (zwg X o) i (k + 1) = (if zb2 o (X 1013 i) = true then zln1 X i else 0) + zsm (zwg X o) (i + 1) k := rfl
    rw [q_X12_weighs_4]
    simp (disch := first | assumption | omega) only [l_0, l_1, l_2, l_3, l_4, l_5, l_6, l_7, l_8, l_9, l_10, l_12, l_16, l_24, l_31, l_32, l_48, l_96, l_99, l_100, l_150, l_180, l_200, l_240, l_255, l_260, l_384, l_400, l_999, l_5000, l_9999, l_1000000, l_1000000000, g14_10, g14_13, t_I, t_Ie, t_R, t_Re, t_N, t_Nn, t_V, t_Ve, t_b, t_x, t_w, e_0, e_1, e_2, e_3, zJ_lt, zJ_le, zJ_eq]
    rw [if_neg (by omega), ml_13 hM hi (by omega), t_b, hz]
    simp only [zb2_e]
    by_cases q : zb2 o (X 1013 i) = true
    · rw [if_pos q, if_pos q, k14 h14, m_len hM ⟨hi, by omega⟩ r1 r2 r3, t_I, zJ_add, zJ_add, ih (i + 1) _ (by omega) (by omega), Int.add_assoc]
    · rw [if_neg q, if_neg q, zJ_add, zJ_add, ih (i + 1) _ (by omega) (by omega), Int.add_zero, Int.zero_add]
theorem m_weighs {o : Int} (hM : wM Y) (hn : 0 ≤ X 410 0 ∧ X 410 0 ≤ 24) (hr : ∀ w, 0 ≤ w → w < X 410 0 → (0 ≤ X 1014 w ∧ X 1014 w ≤ 16) ∧ (0 ≤ X 1011 w ∧ X 1011 w ≤ 1) ∧ (∀ k, 16 * w ≤ k → k < 16 * w + X 1014 w → 0 ≤ X 1015 k ∧ X 1015 k < 16)) : ev_ G 92 0 [.ref (wA Y 14 0), .int (zJ o), zU, zU] [] (wd Y n s X) = some (.inl (some (.int (zJ (zsm (zwg X o) 0 (X 410 0).toNat)))), wd Y n s X) := by
  rw [q_X12_weighs_0, l_0, m_weighsR hM hn hr (X 410 0).toNat 0 0 (by decide) (by omega), Int.zero_add]
theorem m_winR {m : Int} (hM : wM Y) (hm : 1 ≤ m ∧ m ≤ 8) (hf : ∀ k, 0 ≤ k → k < 8 → 0 ≤ X 1023 k ∧ X 1023 k < 10000) : ∀ (k : Nat) (i t : Int), 0 ≤ i → i + k = m → 0 ≤ t → t ≤ 10000 * i → ev_ G 121 33 [.ref (wA Y 14 0), .int (zJ m), .int (zJ t), .int (zJ i)] [] (wd Y n s X) = some (.inl (some (.int (zJ ((t + zsm (X 1023) i k) / m)))), wd Y n s X) := by
  have h14 := hM.2.1
  intro k
  induction k with
  | zero =>
    intro i t hi he ht ht'
    rw [q_X12_window_33]
    simp (disch := first | assumption | omega) only [l_0, l_1, l_2, l_3, l_4, l_5, l_6, l_7, l_8, l_9, l_10, l_12, l_16, l_24, l_31, l_32, l_48, l_96, l_99, l_100, l_150, l_180, l_200, l_240, l_255, l_260, l_384, l_400, l_999, l_5000, l_9999, l_1000000, l_1000000000, zJ_lt, zJ_le, zJ_eq]
    rw [if_pos (by omega), if_neg (by omega), zJ_div (by omega) (by omega) (by omega) (by omega), Int.tdiv_eq_ediv_of_nonneg ht]
    simp only [zsm, Int.add_zero]
  | succ k ih =>
    intro i t hi he ht ht'
    have hx := hf i hi (by omega)
    have hz : zsm (X 1023) i (k + 1) = X 1023 i + zsm (X 1023) (i + 1) k := rfl
    rw [q_X12_window_33]
    simp (disch := first | assumption | omega) only [l_0, l_1, l_2, l_3, l_4, l_5, l_6, l_7, l_8, l_9, l_10, l_12, l_16, l_24, l_31, l_32, l_48, l_96, l_99, l_100, l_150, l_180, l_200, l_240, l_255, l_260, l_384, l_400, l_999, l_5000, l_9999, l_1000000, l_1000000000, zJ_lt, zJ_le, zJ_eq, g14_23, t_I, t_Ie, t_R, t_Re, t_N, t_Nn, t_V, t_Ve, t_b, t_x, t_w, e_0, e_1, e_2, e_3]
    rw [if_neg (by omega), ml_23 hM hi (by omega), t_b, zJ_add, zJ_add, ih (i + 1) _ (by omega) (by omega) (by omega) (by omega), hz, Int.add_assoc]
def zwin2 (X : zX) : Int := if X 422 0 < 3 then 0 else zsm (X 1023) 0 (min (X 422 0) 8).toNat / min (X 422 0) 8
theorem m_window (hM : wM Y) (hg : 0 ≤ X 422 0 ∧ X 422 0 < 100000) (hf : ∀ k, 0 ≤ k → k < 8 → 0 ≤ X 1023 k ∧ X 1023 k < 10000) : ev_ G 121 0 [.ref (wA Y 14 0), zU, zU, zU] [] (wd Y n s X) = some (.inl (some (.int (zJ (zwin2 X)))), wd Y n s X) := by
  have h14 := hM.2.1
  unfold zwin2
  rw [q_X12_window_0]
  simp (disch := first | assumption | omega) only [l_0, l_1, l_2, l_3, l_4, l_5, l_6, l_7, l_8, l_9, l_10, l_12, l_16, l_24, l_31, l_32, l_48, l_96, l_99, l_100, l_150, l_180, l_200, l_240, l_255, l_260, l_384, l_400, l_999, l_5000, l_9999, l_1000000, l_1000000000, zJ_lt, zJ_le, zJ_eq, g14_22, t_I, t_Ie, t_R, t_Re, t_N, t_Nn, t_V, t_Ve, t_b, t_x, t_w, e_0, e_1, e_2, e_3]
  by_cases q : 3 ≤ X 422 0
  · rw [if_pos q, if_neg (show ¬X 422 0 < 3 by omega)]
    by_cases q2 : 8 ≤ X 422 0
    · rw [if_pos q2, show min (X 422 0) 8 = 8 by omega, m_winR hM ⟨by decide, by decide⟩ hf 8 0 0 (by decide) (by decide) (by decide) (by decide), Int.zero_add]
      rfl
    · rw [if_neg q2, show min (X 422 0) 8 = X 422 0 by omega, m_winR hM (by omega) hf (X 422 0).toNat 0 0 (by decide) (by omega) (by decide) (by decide), Int.zero_add]
  · rw [if_neg q, if_pos (by omega)]
/-- whether a wire that is in ends at a cavity -/
def ztk1 (X : zX) (c w : Int) : Prop := X 1011 w = 0 ∧ (X 1012 (2 * w) = c ∨ X 1012 (2 * w + 1) = c)
theorem m_takenR {c : Int} (hM : wM Y) (hn : 0 ≤ X 410 0 ∧ X 410 0 ≤ 24) (hc : 0 ≤ c ∧ c < 100) (hr : ∀ w, 0 ≤ w → w < X 410 0 → (0 ≤ X 1011 w ∧ X 1011 w ≤ 1) ∧ (0 ≤ X 1012 (2 * w) ∧ X 1012 (2 * w) < 100) ∧ (0 ≤ X 1012 (2 * w + 1) ∧ X 1012 (2 * w + 1) < 100)) : ∀ (k : Nat) (i t : Int), 0 ≤ i → i + k = X 410 0 → 0 ≤ t → t ≤ 1 → ((t = 1 ∨ ∃ w, i ≤ w ∧ w < X 410 0 ∧ ztk1 X c w) → ev_ G 72 4 [.ref (wA Y 14 0), .int (zJ c), .int (zJ t), .int (zJ i)] [] (wd Y n s X) = some (.inl (some (.int (zJ 1))), wd Y n s X)) ∧ (¬(t = 1 ∨ ∃ w, i ≤ w ∧ w < X 410 0 ∧ ztk1 X c w) → ev_ G 72 4 [.ref (wA Y 14 0), .int (zJ c), .int (zJ t), .int (zJ i)] [] (wd Y n s X) = some (.inl (some (.int (zJ 0))), wd Y n s X)) := by
  have h14 := hM.2.1
  intro k
  induction k with
  | zero =>
    intro i t hi he ht ht'
    have e := a_b ht ht'
    rw [q_X12_isTaken_4]
    simp (disch := first | assumption | omega) only [l_0, l_1, l_2, l_3, l_4, l_5, l_6, l_7, l_8, l_9, l_10, l_12, l_16, l_24, l_31, l_32, l_48, l_96, l_99, l_100, l_150, l_180, l_200, l_240, l_255, l_260, l_384, l_400, l_999, l_5000, l_9999, l_1000000, l_1000000000, g14_10, t_I, t_Ie, t_R, t_Re, t_N, t_Nn, t_V, t_Ve, t_b, t_x, t_w, e_0, e_1, e_2, e_3, zJ_lt, zJ_le, zJ_eq, e, if_true]
    rw [if_pos (by omega)]
    constructor
    · rintro (h | ⟨w, h1, h2, -⟩)
      · rw [h]
      · omega
    · intro h
      have : t = 0 := by
        have : ¬t = 1 := fun q => h (Or.inl q)
        omega
      rw [this]
  | succ k ih =>
    intro i t hi he ht ht'
    obtain ⟨r1, r2, r3⟩ := hr i hi (by omega)
    have hstep : ev_ G 72 4 [.ref (wA Y 14 0), .int (zJ c), .int (zJ t), .int (zJ i)] [] (wd Y n s X) = ev_ G 72 4 [.ref (wA Y 14 0), .int (zJ c), .int (zJ (if t = 1 ∨ (X 1011 i = 0 ∧ (X 1012 (2 * i) = c ∨ X 1012 (2 * i + 1) = c)) then 1 else 0)), .int (zJ (i + 1))] [] (wd Y n s X) := by
      rw [q_X12_isTaken_4]
      simp (disch := first | assumption | omega) only [l_0, l_1, l_2, l_3, l_4, l_5, l_6, l_7, l_8, l_9, l_10, l_12, l_16, l_24, l_31, l_32, l_48, l_96, l_99, l_100, l_150, l_180, l_200, l_240, l_255, l_260, l_384, l_400, l_999, l_5000, l_9999, l_1000000, l_1000000000, g14_10, t_I, t_Ie, t_R, t_Re, t_N, t_Nn, t_V, t_Ve, t_b, t_x, t_w, e_0, e_1, e_2, e_3, zJ_lt, zJ_le, zJ_eq, zJ_add, zJ_sub, zJ_mul, zJ_neg, g14_11, g14_12]
      rw [if_neg (by omega), ml_11 hM hi (by omega), t_b, ml_12 hM (by omega) (by omega), t_b, ml_12 hM (by omega) (by omega), t_b]
      simp (disch := first | assumption | omega) only [zJ_lt, zJ_le, zJ_eq]
      by_cases q0 : t = 0
      · rw [if_pos q0]
        by_cases q1 : X 1011 i = 0
        · rw [if_pos q1]
          by_cases q2 : X 1012 (2 * i) = c
          · rw [if_pos q2, if_pos (Or.inr ⟨q1, Or.inl q2⟩)]
          · rw [if_neg q2]
            by_cases q3 : X 1012 (2 * i + 1) = c
            · rw [if_pos q3, if_pos (Or.inr ⟨q1, Or.inr q3⟩)]
            · rw [if_neg q3, if_neg]
              rintro (h | ⟨-, h | h⟩)
              · omega
              · exact q2 h
              · exact q3 h
        · rw [if_neg q1, if_neg]
          rintro (h | ⟨h, -⟩)
          · omega
          · exact q1 h
      · rw [if_neg q0, if_pos (Or.inl (by omega))]
    have hh := ih (i + 1) (if t = 1 ∨ (X 1011 i = 0 ∧ (X 1012 (2 * i) = c ∨ X 1012 (2 * i + 1) = c)) then 1 else 0) (by omega) (by omega) (by split <;> omega) (by split <;> omega)
    rw [hstep]
    constructor
    · intro h
      apply hh.1
      rcases h with h | ⟨w, h1, h2, h3⟩
      · exact Or.inl (if_pos (Or.inl h))
      · by_cases q : w = i
        · subst q
          exact Or.inl (if_pos (Or.inr h3))
        · exact Or.inr ⟨w, by omega, h2, h3⟩
    · intro h
      apply hh.2
      rintro (h1 | ⟨w, h1, h2, h3⟩)
      · by_cases q : t = 1 ∨ (X 1011 i = 0 ∧ (X 1012 (2 * i) = c ∨ X 1012 (2 * i + 1) = c))
        · rcases q with q | q
          · exact h (Or.inl q)
          · exact h (Or.inr ⟨i, Int.le_refl _, by omega, q⟩)
        · rw [if_neg q] at h1
          omega
      · exact h (Or.inr ⟨w, by omega, h2, h3⟩)
/-- rooms along a way of the reference -/
def zrm2 (d : Int) : Int → Nat → zX → zX
  | _, 0, X => X
  | i, k + 1, X => zrm2 d (i + 1) k (wu X 1004 (X 1015 i) (X 1004 (X 1015 i) + d))
theorem m_pullR {w t : Int} (hM : wM Y) (hw : 0 ≤ w ∧ w < 24) : ∀ (k : Nat) (i : Int) (X : zX), (0 ≤ X 1014 w ∧ X 1014 w ≤ 16) → (∀ k, 16 * w ≤ k → k < 16 * w + X 1014 w → 0 ≤ X 1015 k ∧ X 1015 k < 16) → 16 * w ≤ i → i + k = 16 * w + X 1014 w → ev_ G 83 53 [.ref (wA Y 14 0), .int (zJ w), .int (zJ t), .int (zJ i)] [] (wd Y n s X) = some (.inl (some (.int (zJ t))), wd Y n s (zrm2 1 i k X)) := by
  have h14 := hM.2.1
  intro k
  induction k with
  | zero =>
    intro i X hm hb hi he
    rw [q_X12_pull_53]
    simp (disch := first | assumption | omega) only [l_0, l_1, l_2, l_3, l_4, l_5, l_6, l_7, l_8, l_9, l_10, l_12, l_16, l_24, l_31, l_32, l_48, l_96, l_99, l_100, l_150, l_180, l_200, l_240, l_255, l_260, l_384, l_400, l_999, l_5000, l_9999, l_1000000, l_1000000000, g14_14, t_I, t_Ie, t_R, t_Re, t_N, t_Nn, t_V, t_Ve, t_b, t_x, t_w, e_0, e_1, e_2, e_3]
    rw [ml_14 hM hw.1 hw.2, t_b]
    simp (disch := first | assumption | omega) only [zJ_add, zJ_sub, zJ_mul, zJ_neg, zJ_lt, zJ_le, zJ_eq]
    rw [if_pos (by omega)]
    rfl
  | succ k ih =>
    intro i X hm hb hi he
    have hbi := hb i hi (by omega)
    rw [q_X12_pull_53]
    simp (disch := first | assumption | omega) only [l_0, l_1, l_2, l_3, l_4, l_5, l_6, l_7, l_8, l_9, l_10, l_12, l_16, l_24, l_31, l_32, l_48, l_96, l_99, l_100, l_150, l_180, l_200, l_240, l_255, l_260, l_384, l_400, l_999, l_5000, l_9999, l_1000000, l_1000000000, g14_14, t_I, t_Ie, t_R, t_Re, t_N, t_Nn, t_V, t_Ve, t_b, t_x, t_w, e_0, e_1, e_2, e_3]
    rw [ml_14 hM hw.1 hw.2, t_b]
    simp (disch := first | assumption | omega) only [zJ_add, zJ_sub, zJ_mul, zJ_neg, zJ_lt, zJ_le, zJ_eq, g14_4, g14_15, t_I, t_Ie, t_R, t_Re, t_N, t_Nn, t_V, t_Ve, t_b, t_x, t_w, e_0, e_1, e_2, e_3]
    rw [if_neg (by omega), ml_15 hM (by omega) (by omega), t_b, ml_4 hM hbi.1 hbi.2, t_b, zJ_add, ms_4 hM hbi.1 hbi.2, t_b, ih (i + 1) _ (by
      have : wu X 1004 (X 1015 i) (X 1004 (X 1015 i) + 1) 1014 w = X 1014 w := if_neg (by omega)
      rw [this]; exact hm) (fun k h1 h2 => by
      have e : ∀ k, wu X 1004 (X 1015 i) (X 1004 (X 1015 i) + 1) 1015 k = X 1015 k := fun k => if_neg (by omega)
      have e2 : wu X 1004 (X 1015 i) (X 1004 (X 1015 i) + 1) 1014 w = X 1014 w := if_neg (by omega)
      rw [e2] at h2
      rw [e]; exact hb k h1 h2) (by omega) (by
      have : wu X 1004 (X 1015 i) (X 1004 (X 1015 i) + 1) 1014 w = X 1014 w := if_neg (by omega)
      rw [this]; omega)]
    rfl
end ZM
