/-! THE TWO SIDES, 27: the reference's least weight -/
def zdg (fs : Int) : Nat → Int → Int → zX → zX
  | 0, _, _, X => X
  | m + 1, k, rest, X => zdg fs m (k + 1) (rest / fs) (wu X 1020 k (rest % fs))
theorem zdg_f {fs : Int} : ∀ (m : Nat) (k rest : Int) (X : zX) (f j : Int), f ≠ 1020 → zdg fs m k rest X f j = X f j := by
  intro m
  induction m with
  | zero => intro k rest X f j h; rfl
  | succ m ih =>
    intro k rest X f j h
    show zdg fs m _ _ _ f j = _
    rw [ih _ _ _ _ _ h]
    exact if_neg (fun q => h q.1)
theorem zdg_r {fs : Int} (hf : 0 < fs ∧ fs ≤ 5) : ∀ (m : Nat) (k rest : Int) (X : zX), (∀ j, 0 ≤ j → j < 5 → 0 ≤ X 1020 j ∧ X 1020 j < 100) → ∀ j, 0 ≤ j → j < 5 → 0 ≤ zdg fs m k rest X 1020 j ∧ zdg fs m k rest X 1020 j < 100 := by
  intro m
  induction m with
  | zero => intro k rest X h; exact h
  | succ m ih =>
    intro k rest X h
    refine ih _ _ _ (fun j h1 h2 => ?_)
    have a1 := Int.emod_nonneg rest (show fs ≠ 0 by omega)
    have a2 := Int.emod_lt_of_pos rest hf.1
    unfold wu
    split
    · omega
    · exact h j h1 h2
def zlo (fs : Int) (no : Nat) : Nat → Int → Int → zX → Int × zX
  | 0, _, b, X => (b, X)
  | k + 1, c, b, X => zlo fs no k (c + 1) (min b (zsm (zfw (zdg fs no 0 c X)) 0 fs.toNat)) (zdg fs no 0 c X)
section ZM
variable {Y : zLy} {n s : Nat} {X : zX} {G : Nat × Nat} {i j : Int}
theorem wWm_c {X X' : zX} (h : ∀ f j, f ≠ 1020 → X' f j = X f j) (hw : wWm X) : wWm X' := by
  unfold wWm at *
  simp only [h 410 _ (by decide), h 1014 _ (by decide), h 1011 _ (by decide), h 1015 _ (by decide)]
  exact hw
theorem m_famF {fs : Int} (hM : wM Y) (hw : wWm X) (ho : 0 ≤ X 417 0 ∧ X 417 0 ≤ 5) (hf : 0 ≤ fs ∧ fs < 100) (hr : ∀ k, 0 ≤ k → k < 5 → 0 ≤ X 1020 k ∧ X 1020 k < 100) : ∀ (k : Nat) (f t : Int) (u v w : Value), 0 ≤ f → f + k = fs → ev_ G 105 4 [.ref (wA Y 14 0), .int (zJ fs), .int (zJ t), .int (zJ f), u, v, w] [] (wd Y n s X) = some (.inl (some (.int (zJ (t + zsm (zfw X) f k)))), wd Y n s X) := by
  intro k
  induction k with
  | zero =>
    intro f t u v w h0 he
    rw [q_X12_weightOfFamilies_4]
    simp (disch := first | assumption | omega) only [zJ_lt, zJ_le, zJ_eq]
    rw [if_pos (by omega)]
    simp only [zsm, Int.add_zero]
  | succ k ih =>
    intro f t u v w h0 he
    have hz : zsm (zfw X) f (k + 1) = zsm (fun i => if X 1020 i = f then X 1019 i else 0) 0 (X 417 0).toNat * zsm (zwg X (ztgm X f 0 (X 417 0).toNat 0)) 0 (X 410 0).toNat + zsm (zfw X) (f + 1) k := rfl
    obtain ⟨u', v', w', hh⟩ := m_famK (G := G) (n := n) (s := s) (fs := fs) (f := f) (t := t) hM hw ho ⟨h0, by omega⟩ hr (X 417 0).toNat 0 0 0 (by decide) (by omega)
    rw [q_X12_weightOfFamilies_4]
    simp (disch := first | assumption | omega) only [zJ_lt, zJ_le, zJ_eq, l_0, l_1, l_2, l_3, l_4, l_5, l_6, l_7, l_8, l_9, l_10, l_12, l_16, l_24, l_31, l_32, l_48, l_96, l_99, l_100, l_150, l_180, l_200, l_240, l_255, l_260, l_384, l_400, l_999, l_5000, l_9999, l_1000000, l_1000000000]
    rw [if_neg (by omega), hh, ih (f + 1) _ _ _ _ (by omega) (by omega), hz, Int.zero_add, Int.add_assoc]
theorem m_fam {fs : Int} (hM : wM Y) (hw : wWm X) (ho : 0 ≤ X 417 0 ∧ X 417 0 ≤ 5) (hf : 0 ≤ fs ∧ fs < 100) (hr : ∀ k, 0 ≤ k → k < 5 → 0 ≤ X 1020 k ∧ X 1020 k < 100) : ev_ G 105 0 [.ref (wA Y 14 0), .int (zJ fs), zU, zU, zU, zU, zU] [] (wd Y n s X) = some (.inl (some (.int (zJ (zsm (zfw X) 0 fs.toNat)))), wd Y n s X) := by
  rw [q_X12_weightOfFamilies_0, l_0, m_famF hM hw ho hf hr fs.toNat 0 0 _ _ _ (by decide) (by omega), Int.zero_add]
theorem m_dig {fs all best code : Int} (hM : wM Y) (hf : 0 < fs ∧ fs ≤ 5) : ∀ (m : Nat) (k rest : Int) (X : zX), 0 ≤ X 417 0 ∧ X 417 0 ≤ 5 → 0 ≤ k → k + m = X 417 0 → 0 ≤ rest → rest < 1000000 → ∃ r, ev_ G 106 41 [.ref (wA Y 14 0), .int (zJ fs), .int (zJ all), .int (zJ best), .int (zJ code), .int (zJ rest), .int (zJ k)] [] (wd Y n s X) = ev_ G 106 41 [.ref (wA Y 14 0), .int (zJ fs), .int (zJ all), .int (zJ best), .int (zJ code), .int (zJ r), .int (zJ (X 417 0))] [] (wd Y n s (zdg fs m k rest X)) := by
  have h14 := hM.2.1
  intro m
  induction m with
  | zero =>
    intro k rest X ho hk he hr hr'
    refine ⟨rest, ?_⟩
    rw [show k = X 417 0 by omega]
    rfl
  | succ m ih =>
    intro k rest X ho hk he hr hr'
    have a1 := Int.ediv_nonneg hr (Int.le_of_lt hf.1)
    have a2 := Int.ediv_le_self fs hr
    have hd : zJ rest / zJ fs = zJ (rest / fs) := by
      rw [zJ_div (by omega) (by omega) (by omega) (by omega), Int.tdiv_eq_ediv_of_nonneg hr]
    have hmod : rest - rest / fs * fs = rest % fs := by
      have := Int.emod_add_mul_ediv rest fs
      rw [Int.mul_comm]
      omega
    have e : wu X 1020 k (rest % fs) 417 0 = X 417 0 := if_neg (by omega)
    obtain ⟨r, hh⟩ := ih (k + 1) (rest / fs) (wu X 1020 k (rest % fs)) (by rw [e]; exact ho) (by omega) (by rw [e]; omega) a1 (by omega)
    rw [e] at hh
    refine ⟨r, ?_⟩
    have hz : ¬fs = 0 := by omega
    rw [q_X12_leastOf_41]
    simp (disch := first | assumption | omega) only [l_0, l_1, l_2, l_3, l_4, l_5, l_6, l_7, l_8, l_9, l_10, l_12, l_16, l_24, l_31, l_32, l_48, l_96, l_99, l_100, l_150, l_180, l_200, l_240, l_255, l_260, l_384, l_400, l_999, l_5000, l_9999, l_1000000, l_1000000000, zJ_lt, zJ_le, zJ_eq, g14_17, g14_20, t_I, t_Ie, t_R, t_Re, t_N, t_Nn, t_V, t_Ve, t_b, t_x, t_w, e_0, e_1, e_2, e_3, hd, zJ_add, zJ_sub, zJ_mul, zJ_neg, hmod]
    rw [if_neg (by omega), if_neg hz, ms_20 hM hk (by omega), t_b, if_neg hz]
    exact hh
theorem m_leastR {fs all : Int} (hM : wM Y) (hf : 0 < fs ∧ fs ≤ 5) (ha : all ≤ 100000) : ∀ (k : Nat) (code best : Int) (u v : Value) (X : zX), wWm X → 0 ≤ X 417 0 ∧ X 417 0 ≤ 5 → (∀ k, 0 ≤ k → k < 5 → 0 ≤ X 1020 k ∧ X 1020 k < 100) → (∀ X', (∀ f j, f ≠ 1020 → X' f j = X f j) → (∀ k, 0 ≤ k → k < 5 → 0 ≤ X' 1020 k ∧ X' 1020 k < 100) → 0 ≤ zsm (zfw X') 0 fs.toNat ∧ zsm (zfw X') 0 fs.toNat ≤ 2000000000) → 0 ≤ code → code + k = all → 0 ≤ best → best ≤ 1000000000 → ev_ G 106 28 [.ref (wA Y 14 0), .int (zJ fs), .int (zJ all), .int (zJ best), .int (zJ code), u, v] [] (wd Y n s X) = some (.inl (some (.int (zJ (zlo fs (X 417 0).toNat k code best X).1))), wd Y n s (zlo fs (X 417 0).toNat k code best X).2) := by
  have h14 := hM.2.1
  intro k
  induction k with
  | zero =>
    intro code best u v X hw ho hr hb hc he h0 h1
    rw [q_X12_leastOf_28]
    simp (disch := first | assumption | omega) only [zJ_lt, zJ_le, zJ_eq]
    rw [if_pos (by omega)]
    rfl
  | succ k ih =>
    intro code best u v X hw ho hr hb hc he h0 h1
    obtain ⟨r, hh⟩ := m_dig (G := G) (n := n) (s := s) (all := all) (best := best) (code := code) hM hf (X 417 0).toNat 0 code X ho (by decide) (by omega) hc (by omega)
    have e : ∀ f j, f ≠ 1020 → zdg fs (X 417 0).toNat 0 code X f j = X f j := fun f j h => zdg_f _ _ _ _ _ _ h
    have hr1 := zdg_r hf (X 417 0).toNat 0 code X hr
    have hw1 := wWm_c e hw
    have hb1 := hb _ e hr1
    have hz : zlo fs (X 417 0).toNat (k + 1) code best X = zlo fs (X 417 0).toNat k (code + 1) (min best (zsm (zfw (zdg fs (X 417 0).toNat 0 code X)) 0 fs.toNat)) (zdg fs (X 417 0).toNat 0 code X) := rfl
    rw [hz]
    have h417 := e 417 0 (by decide)
    generalize zdg fs (X 417 0).toNat 0 code X = X1 at *
    rw [q_X12_leastOf_28]
    simp (disch := first | assumption | omega) only [zJ_lt, zJ_le, zJ_eq, l_0, l_1, l_2, l_3, l_4, l_5, l_6, l_7, l_8, l_9, l_10, l_12, l_16, l_24, l_31, l_32, l_48, l_96, l_99, l_100, l_150, l_180, l_200, l_240, l_255, l_260, l_384, l_400, l_999, l_5000, l_9999, l_1000000, l_1000000000]
    rw [if_neg (by omega), hh, q_X12_leastOf_41]
    simp (disch := first | assumption | omega) only [g14_17, t_I, t_Ie, t_R, t_Re, t_N, t_Nn, t_V, t_Ve, t_b, t_x, t_w, e_0, e_1, e_2, e_3, zJ_lt, zJ_le, zJ_eq, k14]
    rw [h417, if_pos (Int.le_refl _), m_fam hM hw1 (by rw [h417]; exact ho) (by omega) hr1, t_I]
    simp (disch := first | assumption | omega) only [zJ_lt, zJ_le, zJ_eq, l_0, l_1, l_2, l_3, l_4, l_5, l_6, l_7, l_8, l_9, l_10, l_12, l_16, l_24, l_31, l_32, l_48, l_96, l_99, l_100, l_150, l_180, l_200, l_240, l_255, l_260, l_384, l_400, l_999, l_5000, l_9999, l_1000000, l_1000000000, zJ_add, zJ_sub, zJ_mul, zJ_neg]
    have hih : ∀ b u v, 0 ≤ b → b ≤ 1000000000 → ev_ G 106 28 [.ref (wA Y 14 0), .int (zJ fs), .int (zJ all), .int (zJ b), .int (zJ (code + 1)), u, v] [] (wd Y n s X1) = some (.inl (some (.int (zJ (zlo fs (X 417 0).toNat k (code + 1) b X1).1))), wd Y n s (zlo fs (X 417 0).toNat k (code + 1) b X1).2) := by
      intro b u v b0 b1
      have := ih (code + 1) b u v X1 hw1 (by rw [h417]; exact ho) hr1 (fun X' h h' => hb X' (fun f j hf => by rw [h f j hf, e f j hf]) h') (by omega) (by omega) b0 b1
      rw [h417] at this
      exact this
    by_cases q : best ≤ zsm (zfw X1) 0 fs.toNat
    · rw [if_pos q, show min best (zsm (zfw X1) 0 fs.toNat) = best by omega]
      exact hih _ _ _ h0 h1
    · rw [if_neg q, show min best (zsm (zfw X1) 0 fs.toNat) = zsm (zfw X1) 0 fs.toNat by omega]
      exact hih _ _ _ hb1.1 (by omega)
end ZM
