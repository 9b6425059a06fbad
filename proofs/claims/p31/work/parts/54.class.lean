/-! THE TWO SIDES, 6: the class's peaks, joints, windows, pairs -/
theorem wln_b {b : Int} (h : 0 ≤ b) (h' : b < 12) : wln (9 + b) = 4 ∧ wkd (9 + b) = 0 := by
  have : b = 0 ∨ b = 1 ∨ b = 2 ∨ b = 3 ∨ b = 4 ∨ b = 5 ∨ b = 6 ∨ b = 7 ∨ b = 8 ∨ b = 9 ∨ b = 10 ∨ b = 11 := by omega
  rcases this with rfl | rfl | rfl | rfl | rfl | rfl | rfl | rfl | rfl | rfl | rfl | rfl <;> exact ⟨rfl, rfl⟩
theorem zdv {d m : Int} (hm : 1 ≤ m) : (0 ≤ d → 0 ≤ d / m ∧ d / m ≤ d) ∧ (d < 0 → d ≤ d / m ∧ d / m < 0) := by
  constructor
  · intro h
    exact ⟨Int.ediv_nonneg h (by omega), Int.ediv_le_self m h⟩
  · intro h
    refine ⟨?_, Int.ediv_neg_of_neg_of_pos h (by omega)⟩
    apply (Int.le_ediv_iff_mul_le (by omega)).mpr
    have : d * m ≤ d * 1 := Int.mul_le_mul_of_nonpos_left (by omega) hm
    omega
def zpk (h : Int → Int) (m : Int) : Nat → Int → Int → Int → Int
  | 0, _, _, p => p
  | c + 1, k, x, p => zpk h m c (k + 1) (x + (h (k / 3) - x) / m) (max p (x + (h (k / 3) - x) / m))
section ZM
variable {Y : zLy} {n s : Nat} {X : zX} {G : Nat × Nat} {i j : Int}
theorem c_peakR {r m : Int} (hV : wV Y 10 r) (hV2 : wV Y 15 r) (h0 : 0 ≤ r) (hk : wkd r = 0) (hl : wln r = 4) (hm : 1 ≤ m ∧ m ≤ 100) (hh : ∀ z, 0 ≤ z → z < 4 → 0 ≤ X (500 + r) z ∧ X (500 + r) z ≤ 1000) : ∀ (c : Nat) (z u x p : Int), 0 ≤ z → z < 4 → 0 ≤ u → u < 3 → c + (3 * z + u) = 12 → 0 ≤ x → x ≤ 1000 → 0 ≤ p → p ≤ 1000 → ev_ G 162 17 [.ref (wA Y 10 r), .int (zJ m), .int (zJ x), .int (zJ p), .int (zJ z), .int (zJ u)] [] (wd Y n s X) = some (.inl (some (.int (zJ (zpk (X (500 + r)) m c (3 * z + u) x p)))), wd Y n s X) := by
  intro c
  induction c with
  | zero => intro z u x p; omega
  | succ c ih =>
    intro z u x p hz hz' hu hu' he hx hx' hp hp'
    have hb := hh z hz hz'
    have hd := zdv (d := X (500 + r) z - x) hm.1
    have e1 : (3 * z + u) / 3 = z := by omega
    have hzp : zpk (X (500 + r)) m (c + 1) (3 * z + u) x p = zpk (X (500 + r)) m c (3 * z + u + 1) (x + (X (500 + r) z - x) / m) (max p (x + (X (500 + r) z - x) / m)) := by
      rw [zpk, e1]
    rw [hzp]
    have hy : 0 ≤ x + (X (500 + r) z - x) / m ∧ x + (X (500 + r) z - x) / m ≤ 1000 := by
      by_cases q : 0 ≤ X (500 + r) z - x
      · have := hd.1 q; omega
      · have := hd.2 (by omega); omega
    generalize hyy : x + (X (500 + r) z - x) / m = y at hy ⊢
    rw [q_X6_peakOf_17]
    simp (disch := first | assumption | omega) only [l_0, l_1, l_2, l_3, l_4, l_5, l_6, l_7, l_8, l_9, l_10, l_12, l_16, l_24, l_31, l_32, l_48, l_96, l_99, l_100, l_150, l_180, l_200, l_240, l_255, l_260, l_384, l_400, l_999, l_5000, l_9999, l_1000000, l_1000000000, zJ_lt, zJ_le, zJ_eq, k10, c_at, t_I, t_Ie, t_R, t_Re, t_N, t_Nn, t_V, t_Ve, t_b, t_x, t_w, e_0, e_1, e_2, e_3, hl]
    rw [if_neg (by omega), if_pos ⟨hz, by omega⟩, zJ_sub, c_down (by omega) (by omega) (by omega) (by omega), t_I, zJ_add, hyy, c_max (by omega) (by omega) (by omega) (by omega), t_I, zJ_add]
    by_cases q : u + 1 < 3
    · rw [ih z (u + 1) y (max p y) hz hz' (by omega) q (by omega) hy.1 hy.2 (by omega) (by omega), Int.add_assoc]
    · rw [q_X6_peakOf_17]
      simp (disch := first | assumption | omega) only [l_0, l_1, l_2, l_3, l_4, l_5, l_6, l_7, l_8, l_9, l_10, l_12, l_16, l_24, l_31, l_32, l_48, l_96, l_99, l_100, l_150, l_180, l_200, l_240, l_255, l_260, l_384, l_400, l_999, l_5000, l_9999, l_1000000, l_1000000000, zJ_lt, zJ_le, zJ_eq, zJ_add, zJ_sub, zJ_mul, zJ_neg]
      rw [if_pos (by omega), q_X6_peakOf_8]
      simp (disch := first | assumption | omega) only [l_0, l_1, l_2, l_3, l_4, l_5, l_6, l_7, l_8, l_9, l_10, l_12, l_16, l_24, l_31, l_32, l_48, l_96, l_99, l_100, l_150, l_180, l_200, l_240, l_255, l_260, l_384, l_400, l_999, l_5000, l_9999, l_1000000, l_1000000000, zJ_lt, zJ_le, zJ_eq, zJ_add, zJ_sub, zJ_mul, zJ_neg]
      by_cases q' : 4 ≤ z + 1
      · rw [if_pos q']
        have : c = 0 := by omega
        subst this
        rfl
      · rw [if_neg q', ih (z + 1) 0 y (max p y) (by omega) (by omega) (by omega) (by omega) (by omega) hy.1 hy.2 (by omega) (by omega), show 3 * (z + 1) + 0 = 3 * z + u + 1 by omega]
theorem c_peakOf {r m : Int} (hV : wV Y 10 r) (hV2 : wV Y 15 r) (h0 : 0 ≤ r) (hk : wkd r = 0) (hl : wln r = 4) (hm : 1 ≤ m ∧ m ≤ 100) (hh : ∀ z, 0 ≤ z → z < 4 → 0 ≤ X (500 + r) z ∧ X (500 + r) z ≤ 1000) : ev_ G 162 0 [.ref (wA Y 10 r), .int (zJ m), zU, zU, zU, zU] [] (wd Y n s X) = some (.inl (some (.int (zJ (zpk (X (500 + r)) m 12 0 25 0)))), wd Y n s X) := by
  rw [q_X6_peakOf_0, q_X6_peakOf_8, if_neg (by decide), show (25 : Int32) = zJ 25 from rfl, l_0, c_peakR hV hV2 h0 hk hl hm hh 12 0 0 25 0 (by decide) (by decide) (by decide) (by decide) (by decide) (by decide) (by decide) (by decide) (by decide)]
  rfl
theorem zsm_B {f : Int → Int} (hf : ∀ i, 0 ≤ f i ∧ f i ≤ 1) : ∀ (k : Nat) (i : Int), 0 ≤ zsm f i k ∧ zsm f i k ≤ k := by
  intro k
  induction k with
  | zero => intro i; exact ⟨Int.le_refl _, Int.le_refl _⟩
  | succ k ih =>
    intro i
    have h1 := hf i
    have h2 := ih (i + 1)
    show 0 ≤ f i + zsm f (i + 1) k ∧ f i + zsm f (i + 1) k ≤ _
    omega
theorem zB_r (p : Prop) [Decidable p] : 0 ≤ zB p ∧ zB p ≤ 1 := by
  unfold zB
  split <;> omega
theorem zmass_r (X : zX) (b : Int) : 2 ≤ zmass X b ∧ zmass X b ≤ 10 := by
  have := zsm_B (f := fun m => zB (X 220 (8 * b + m) ≠ -1)) (fun i => zB_r _) 8 0
  unfold zmass
  omega
def zpeak (X : zX) (b : Int) : Int := zpk (X (509 + b)) (zmass X b) 12 0 25 0
theorem c_peak {b : Int} (hB : wB Y b) (hb : 0 ≤ b) (hb' : b < 12) (hr : ∀ k, 0 ≤ k → k < 8 → -1 ≤ X 220 (8 * b + k) ∧ X 220 (8 * b + k) < 6) (hh : ∀ z, 0 ≤ z → z < 4 → 0 ≤ X (509 + b) z ∧ X (509 + b) z ≤ 1000) : ev_ G 163 0 [.ref (wA Y 2 b)] [] (wd Y n s X) = some (.inl (some (.int (zJ (zpeak X b)))), wd Y n s X) := by
  have h2 := hB.1
  have h10 := hB.2.2.2.1
  have h15 := hB.2.2.2.2.1
  have e : (500 : Int) + (9 + b) = 509 + b := by omega
  have hm := zmass_r X b
  rw [q_X0_peak_0]
  simp (disch := first | assumption | omega) only [g2_4, t_I, t_Ie, t_R, t_Re, t_N, t_Nn, t_V, t_Ve, t_b, t_x, t_w, e_0, e_1, e_2, e_3, k2]
  rw [c_mass hB hr, t_I, c_peakOf h10 h15 (by omega) (wln_b hb hb').2 (wln_b hb hb').1 (by omega) (by rw [e]; exact hh), t_I, e]
  rfl
theorem c_hasOf {b r : Int} (hB : wB Y b) (hr : ∀ k, 0 ≤ k → k < 8 → -1 ≤ X 221 (8 * b + k) ∧ X 221 (8 * b + k) < 100) (hf : 0 ≤ r ∧ r < 100) : ev_ G 201 0 [.ref (wA Y 2 b), .int (zJ r), zU] [] (wd Y n s X) = some (.inl (some (.int (zJ (zB (0 < zsm (fun m => zB (X 221 (8 * b + m) = r)) 0 8))))), wd Y n s X) := by
  rw [q_X0_hasPartOf_0, l_0, c_hasOfR hB hr hf 8 0 (by decide) (by decide)]
theorem c_recallR {r : Int} (hF : wF Y) (hr : ∀ k, 0 ≤ k → k < 8 * Y.2.2.2.2 0 4 → -1 ≤ X 221 k ∧ X 221 k < 100) (hf : 0 ≤ r ∧ r < 100) (hs : ∀ b, 0 ≤ b → b < Y.2.2.2.2 0 4 → 0 ≤ X 42 b ∧ X 42 b ≤ 1) : ∀ (k : Nat) (i t : Int) (u : Value), 0 ≤ i → i + k = Y.2.2.2.2 0 4 → ev_ G 202 18 [.ref (wA Y 13 0), .int (zJ r), .int (zJ t), .int (zJ i), u] [] (wd Y n s X) = some (.inl (some (.int (zJ (t + zsm (fun b => zB (X 42 b ≠ 0 ∧ 0 < zsm (fun m => zB (X 221 (8 * b + m) = r)) 0 8)) i k)))), wd Y n s X) := by
  have h13 := hF.2.1
  have hl4 := hF.2.2.2.2.2.2.2.1 4 (by decide) (by decide)
  have h1 := hl4.1
  obtain ⟨-, b1, b2, b3, -⟩ := id hl4
  intro k
  induction k with
  | zero =>
    intro i t u hi he
    rw [q_X11_recall_18]
    simp (disch := first | assumption | omega) only [g13_5, t_I, t_Ie, t_R, t_Re, t_N, t_Nn, t_V, t_Ve, t_b, t_x, t_w, e_0, e_1, e_2, e_3, k1, c_size, l_0, l_1, l_2, l_3, l_4, l_5, l_6, l_7, l_8, l_9, l_10, l_12, l_16, l_24, l_31, l_32, l_48, l_96, l_99, l_100, l_150, l_180, l_200, l_240, l_255, l_260, l_384, l_400, l_999, l_5000, l_9999, l_1000000, l_1000000000, zJ_lt, zJ_le, zJ_eq]
    rw [if_pos (by omega)]
    simp only [zsm, Int.add_zero]
  | succ k ih =>
    intro i t u hi he
    have hB := wF_B hF hi (by omega)
    have h2 := hB.1
    have hx := hs i hi (by omega)
    have hel : wel Y 4 i = wA Y 2 i := rfl
    have hz : zsm (fun b => zB (X 42 b ≠ 0 ∧ 0 < zsm (fun m => zB (X 221 (8 * b + m) = r)) 0 8)) i (k + 1) = zB (X 42 i ≠ 0 ∧ 0 < zsm (fun m => zB (X 221 (8 * i + m) = r)) 0 8) + zsm (fun b => zB (X 42 b ≠ 0 ∧ 0 < zsm (fun m => zB (X 221 (8 * b + m) = r)) 0 8)) (i + 1) k := rfl
    rw [q_X11_recall_18]
    simp (disch := first | assumption | omega) only [g13_5, t_I, t_Ie, t_R, t_Re, t_N, t_Nn, t_V, t_Ve, t_b, t_x, t_w, e_0, e_1, e_2, e_3, k1, c_size, l_0, l_1, l_2, l_3, l_4, l_5, l_6, l_7, l_8, l_9, l_10, l_12, l_16, l_24, l_31, l_32, l_48, l_96, l_99, l_100, l_150, l_180, l_200, l_240, l_255, l_260, l_384, l_400, l_999, l_5000, l_9999, l_1000000, l_1000000000, zJ_lt, zJ_le, zJ_eq]
    rw [if_neg (by omega), c_get hl4 hi (by omega), t_R, hel, hz]
    simp (disch := first | assumption | omega) only [k2, g2_2, t_I, t_Ie, t_R, t_Re, t_N, t_Nn, t_V, t_Ve, t_b, t_x, t_w, e_0, e_1, e_2, e_3, l_0, l_1, l_2, l_3, l_4, l_5, l_6, l_7, l_8, l_9, l_10, l_12, l_16, l_24, l_31, l_32, l_48, l_96, l_99, l_100, l_150, l_180, l_200, l_240, l_255, l_260, l_384, l_400, l_999, l_5000, l_9999, l_1000000, l_1000000000, zJ_add, zJ_sub, zJ_mul, zJ_neg, zJ_lt, zJ_le, zJ_eq]
    by_cases q : X 42 i = 0
    · rw [if_pos q, zB_0 (fun w => w.1 q), ih (i + 1) _ _ (by omega) (by omega), Int.zero_add]
    · rw [if_neg q, c_hasOf hB (fun m hm hm' => hr (8 * i + m) (by omega) (by omega)) hf, t_I]
      by_cases q' : 0 < zsm (fun m => zB (X 221 (8 * i + m) = r)) 0 8
      · rw [zB_1 q', e_3, zB_1 ⟨q, q'⟩, ih (i + 1) _ _ (by omega) (by omega), Int.add_assoc]
      · rw [zB_0 q', e_2, zB_0 (fun w => q' w.2), ih (i + 1) _ _ (by omega) (by omega), Int.zero_add]
-- the crimper
theorem c_winR (hF : wF Y) (hg : 1 ≤ X 101 0 ∧ X 101 0 < 100000) : ∀ (k : Nat) (i t : Int), 0 ≤ i → i + k = 8 → -2147483648 < t + zsm (X 505) i k → t + zsm (X 505) i k < 2147483648 → ev_ G 116 14 [.ref (wA Y 5 0), .int (zJ t), .int (zJ i)] [] (wd Y n s X) = some (.inl (some (.int (zJ ((t + zsm (X 505) i k) / min (X 101 0) 8)))), wd Y n s X) := by
  obtain ⟨hI, h13, h5, h6, h7, h8, hr_, -⟩ := hF
  obtain ⟨h10, h15⟩ := hr_ 5 (by decide) (by decide)
  intro k
  induction k with
  | zero =>
    intro i t hi he h1 h2
    simp only [zsm, Int.add_zero] at h1 h2 ⊢
    rw [q_X3_window_14]
    simp (disch := first | assumption | omega) only [g5_1, l_0, l_1, l_2, l_3, l_4, l_5, l_6, l_7, l_8, l_9, l_10, l_12, l_16, l_24, l_31, l_32, l_48, l_96, l_99, l_100, l_150, l_180, l_200, l_240, l_255, l_260, l_384, l_400, l_999, l_5000, l_9999, l_1000000, l_1000000000, zJ_lt, zJ_le, zJ_eq, t_I, t_Ie, t_R, t_Re, t_N, t_Nn, t_V, t_Ve, t_b, t_x, t_w, e_0, e_1, e_2, e_3]
    rw [if_pos (by omega), c_min (by omega) (by omega) (by omega) (by omega), t_I, c_down h1 h2 (by omega) (by omega), t_I]
  | succ k ih =>
    intro i t hi he h1 h2
    have hz : zsm (X 505) i (k + 1) = X 505 i + zsm (X 505) (i + 1) k := rfl
    rw [hz] at h1 h2 ⊢
    rw [q_X3_window_14]
    simp (disch := first | assumption | omega) only [g5_2, l_0, l_1, l_2, l_3, l_4, l_5, l_6, l_7, l_8, l_9, l_10, l_12, l_16, l_24, l_31, l_32, l_48, l_96, l_99, l_100, l_150, l_180, l_200, l_240, l_255, l_260, l_384, l_400, l_999, l_5000, l_9999, l_1000000, l_1000000000, zJ_lt, zJ_le, zJ_eq, t_I, t_Ie, t_R, t_Re, t_N, t_Nn, t_V, t_Ve, t_b, t_x, t_w, e_0, e_1, e_2, e_3, k10]
    rw [if_neg (by omega), c_at h10 h15 (by decide) rfl (by omega) (by omega), t_I, if_pos ⟨hi, by rw [ln_5]; omega⟩, zJ_add, zJ_add, show (500 : Int) + 5 = 505 from rfl, ih (i + 1) (t + X 505 i) (by omega) (by omega) (by rw [Int.add_assoc]; exact h1) (by rw [Int.add_assoc]; exact h2), Int.add_assoc]
def zwin (X : zX) : Int := if X 101 0 < 3 then 0 else zsm (X 505) 0 8 / min (X 101 0) 8
theorem c_window (hF : wF Y) (hg : 0 ≤ X 101 0 ∧ X 101 0 < 100000) (h1 : -2147483648 < zsm (X 505) 0 8) (h2 : zsm (X 505) 0 8 < 2147483648) : ev_ G 116 0 [.ref (wA Y 5 0), zU, zU] [] (wd Y n s X) = some (.inl (some (.int (zJ (zwin X)))), wd Y n s X) := by
  have h5 := hF.2.2.1
  unfold zwin
  rw [q_X3_window_0]
  simp (disch := first | assumption | omega) only [g5_1, l_0, l_1, l_2, l_3, l_4, l_5, l_6, l_7, l_8, l_9, l_10, l_12, l_16, l_24, l_31, l_32, l_48, l_96, l_99, l_100, l_150, l_180, l_200, l_240, l_255, l_260, l_384, l_400, l_999, l_5000, l_9999, l_1000000, l_1000000000, zJ_lt, zJ_le, zJ_eq, t_I, t_Ie, t_R, t_Re, t_N, t_Nn, t_V, t_Ve, t_b, t_x, t_w, e_0, e_1, e_2, e_3]
  by_cases q : 3 ≤ X 101 0
  · rw [if_pos q, if_neg (by omega), c_winR hF (by omega) 8 0 0 (by decide) (by decide) (by rw [Int.zero_add]; exact h1) (by rw [Int.zero_add]; exact h2), Int.zero_add]
  · rw [if_neg q, if_pos (by omega)]
end ZM
