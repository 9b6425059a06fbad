/-! THE TWO SIDES, 4: the class's loops -/
theorem ztd_r {a b : Int} (ha : -2147483648 ≤ a) (ha' : a < 2147483648) (hb : 0 < b) : -2147483648 ≤ a.tdiv b ∧ a.tdiv b < 2147483648 := by
  by_cases h : 0 ≤ a
  · rw [Int.tdiv_eq_ediv_of_nonneg h]
    have h1 := Int.ediv_nonneg h (Int.le_of_lt hb)
    have h2 := Int.ediv_le_self b h
    omega
  · rw [show a = -(-a) by omega, Int.neg_tdiv, Int.tdiv_eq_ediv_of_nonneg (by omega)]
    have h1 := Int.ediv_nonneg (show 0 ≤ -a by omega) (Int.le_of_lt hb)
    have h2 := Int.ediv_le_self b (show 0 ≤ -a by omega)
    omega
theorem zJ_div {a b : Int} (ha : -2147483648 ≤ a) (ha' : a < 2147483648) (hb : 0 < b) (hb' : b < 2147483648) : zJ a / zJ b = zJ (a.tdiv b) := by
  have hr := ztd_r ha ha' hb
  apply Int32.toInt_inj.mp
  rw [Int32.toInt_div_of_ne_right, zJ_toInt ha ha', zJ_toInt (by omega) hb', zJ_toInt hr.1 hr.2]
  intro h
  have := congrArg Int32.toInt h
  rw [zJ_toInt (by omega) hb'] at this
  have h2 : (-1 : Int32).toInt = -1 := by decide
  omega
theorem ztd_e {a b : Int} (hb : 0 < b) : a / b = if 0 ≤ a then a.tdiv b else if a.tdiv b * b = a then a.tdiv b else a.tdiv b - 1 := by
  by_cases h : 0 ≤ a
  · rw [if_pos h, Int.tdiv_eq_ediv_of_nonneg h]
  · rw [if_neg h, Int.tdiv_eq_ediv]
    by_cases hd : b ∣ a
    · rw [if_pos (Or.inr hd), Int.add_zero, if_pos (Int.ediv_mul_cancel hd)]
    · have hn : ¬(0 ≤ a ∨ b ∣ a) := fun q => q.elim h hd
      simp only [if_neg hn, Int.sign_eq_one_of_pos hb]
      rw [if_neg]
      · omega
      · intro q
        exact hd ⟨a / b + 1, by rw [Int.mul_comm]; exact q.symm⟩
theorem zJ_xs {a b : Int} (ha : -2147483648 ≤ a) (ha' : a < 2147483648) (hb : 0 < b) (hb' : b < 2147483648) : (zJ 0 ≤ zJ a ^^^ zJ b) = (0 ≤ a) := by
  rw [← l_0]
  have hm : ∀ x : Int32, ((0 : Int32) ≤ x) = (x.toBitVec.msb = false) := by
    intro x
    rw [Int32.le_iff_toInt_le]
    show ((0 : Int) ≤ x.toBitVec.toInt) = _
    rw [BitVec.msb_eq_toInt]
    simp
  rw [hm, Int32.toBitVec_xor, BitVec.msb_xor]
  have h1 := hm (zJ a)
  have h2 := hm (zJ b)
  rw [l_0, zJ_le (by omega) (by omega) ha ha'] at h1
  rw [l_0, zJ_le (by omega) (by omega) (by omega) hb'] at h2
  have h3 : (zJ b).toBitVec.msb = false := h2 ▸ Int.le_of_lt hb
  rw [h3, Bool.xor_false, h1]
/-- sums over i, i + 1, .. -/
def zsm (f : Int → Int) : Int → Nat → Int
  | _, 0 => 0
  | i, k + 1 => f i + zsm f (i + 1) k
theorem zsm_congr {f g : Int → Int} : ∀ (k : Nat) (i : Int), (∀ j, i ≤ j → j < i + k → f j = g j) → zsm f i k = zsm g i k := by
  intro k
  induction k with
  | zero => intro i _; rfl
  | succ k ih =>
    intro i h
    show f i + _ = g i + _
    rw [h i (by omega) (by omega), ih (i + 1) (fun j hj hj' => h j (by omega) (by omega))]
section ZM
variable {Y : zLy} {n s : Nat} {X : zX} {G : Nat × Nat} {i j : Int}
theorem c_fillR {r v : Int} (hV : wV Y 10 r) (hV2 : wV Y 15 r) (hI : wI Y) (h0 : 0 ≤ r) (hk : wkd r = 0) : ∀ (k : Nat) (i : Int) (X : zX), 0 ≤ i → i + k = wln r → ev_ G 8 2 [.ref (wA Y 10 r), .int (zJ v), .int (zJ i)] [] (wd Y n s X) = some (.inl none, wd Y n s (fun f j => if f = 500 + r ∧ i ≤ j ∧ j < wln r then v else X f j)) := by
  have hl := wln_le r
  intro k
  induction k with
  | zero =>
    intro i X hi he
    rw [q_X8_fill_2]
    simp (disch := first | assumption | omega) only [l_0, l_1, l_2, l_3, l_4, l_5, l_6, l_7, l_8, l_9, l_10, l_12, l_16, l_24, l_31, l_32, l_48, l_96, l_99, l_100, l_150, l_180, l_200, l_240, l_255, l_260, l_384, l_400, l_999, l_5000, l_9999, l_1000000, l_1000000000, g10_0, wd_len, t_I, t_Ie, t_R, t_Re, t_N, t_Nn, t_V, t_Ve, t_b, t_x, t_w, e_0, e_1, e_2, e_3, zJ_lt, zJ_le, zJ_eq]
    rw [if_pos (by omega)]
    congr 3
    funext f j
    rw [if_neg (by omega)]
  | succ k ih =>
    intro i X hi he
    rw [q_X8_fill_2]
    simp (disch := first | assumption | omega) only [l_0, l_1, l_2, l_3, l_4, l_5, l_6, l_7, l_8, l_9, l_10, l_12, l_16, l_24, l_31, l_32, l_48, l_96, l_99, l_100, l_150, l_180, l_200, l_240, l_255, l_260, l_384, l_400, l_999, l_5000, l_9999, l_1000000, l_1000000000, g10_0, wd_len, t_I, t_Ie, t_R, t_Re, t_N, t_Nn, t_V, t_Ve, t_b, t_x, t_w, e_0, e_1, e_2, e_3, zJ_lt, zJ_le, zJ_eq]
    rw [if_neg (by omega), wd_st hV2 hI h0 hi (by omega) hk.symm, t_b, zJ_add, ih (i + 1) _ (by omega) (by omega)]
    congr 3
    funext f j
    unfold wu
    by_cases h1 : f = 500 + r ∧ i + 1 ≤ j ∧ j < wln r
    · rw [if_pos h1, if_pos (by omega)]
    · rw [if_neg h1]
      by_cases h2 : f = 500 + r ∧ j = i
      · rw [if_pos h2, if_pos (by omega)]
      · rw [if_neg h2, if_neg (by omega)]
theorem c_fill {r v : Int} (hV : wV Y 10 r) (hV2 : wV Y 15 r) (hI : wI Y) (h0 : 0 ≤ r) (hk : wkd r = 0) : ev_ G 8 0 [.ref (wA Y 10 r), .int (zJ v), zU] [] (wd Y n s X) = some (.inl none, wd Y n s (fun f j => if f = 500 + r ∧ 0 ≤ j ∧ j < wln r then v else X f j)) := by
  rw [q_X8_fill_0, l_0, c_fillR hV hV2 hI h0 hk (wln r) 0 X (by omega) (by omega)]
theorem c_copyR {r q : Int} (hV : wV Y 10 r) (hV2 : wV Y 15 r) (hV3 : wV Y 10 q) (hV4 : wV Y 15 q) (hI : wI Y) (h0 : 0 ≤ r) (h0' : 0 ≤ q) (hk : wkd r = 0) (hk' : wkd q = 0) (hl : wln r = wln q) (hq : r ≠ q) : ∀ (k : Nat) (i : Int) (X : zX), 0 ≤ i → i + k = wln r → ev_ G 160 2 [.ref (wA Y 10 r), .ref (wA Y 10 q), .int (zJ i)] [] (wd Y n s X) = some (.inl none, wd Y n s (fun f j => if f = 500 + r ∧ i ≤ j ∧ j < wln r then X (500 + q) j else X f j)) := by
  have hll := wln_le r
  intro k
  induction k with
  | zero =>
    intro i X hi he
    rw [q_X8_copyFrom_2]
    simp (disch := first | assumption | omega) only [l_0, l_1, l_2, l_3, l_4, l_5, l_6, l_7, l_8, l_9, l_10, l_12, l_16, l_24, l_31, l_32, l_48, l_96, l_99, l_100, l_150, l_180, l_200, l_240, l_255, l_260, l_384, l_400, l_999, l_5000, l_9999, l_1000000, l_1000000000, g10_0, wd_len, t_I, t_Ie, t_R, t_Re, t_N, t_Nn, t_V, t_Ve, t_b, t_x, t_w, e_0, e_1, e_2, e_3, zJ_lt, zJ_le, zJ_eq]
    rw [if_pos (by omega)]
    congr 3
    funext f j
    rw [if_neg (by omega)]
  | succ k ih =>
    intro i X hi he
    rw [q_X8_copyFrom_2]
    simp (disch := first | assumption | omega) only [l_0, l_1, l_2, l_3, l_4, l_5, l_6, l_7, l_8, l_9, l_10, l_12, l_16, l_24, l_31, l_32, l_48, l_96, l_99, l_100, l_150, l_180, l_200, l_240, l_255, l_260, l_384, l_400, l_999, l_5000, l_9999, l_1000000, l_1000000000, g10_0, wd_len, t_I, t_Ie, t_R, t_Re, t_N, t_Nn, t_V, t_Ve, t_b, t_x, t_w, e_0, e_1, e_2, e_3, zJ_lt, zJ_le, zJ_eq]
    rw [if_neg (by omega), k10 hV3, c_at hV3 hV4 h0' hk' (by omega) (by omega), t_I, if_pos (by omega), wd_st hV2 hI h0 hi (by omega) hk.symm, t_b, zJ_add, ih (i + 1) _ (by omega) (by omega)]
    congr 3
    funext f j
    unfold wu
    by_cases h1 : f = 500 + r ∧ i + 1 ≤ j ∧ j < wln r
    · rw [if_pos h1, if_neg (by omega), if_pos (by omega)]
    · rw [if_neg h1]
      by_cases h2 : f = 500 + r ∧ j = i
      · rw [if_pos h2, if_pos (by omega), h2.2]
      · rw [if_neg h2, if_neg (by omega)]
theorem c_copy {r q : Int} (hV : wV Y 10 r) (hV2 : wV Y 15 r) (hV3 : wV Y 10 q) (hV4 : wV Y 15 q) (hI : wI Y) (h0 : 0 ≤ r) (h0' : 0 ≤ q) (hk : wkd r = 0) (hk' : wkd q = 0) (hl : wln r = wln q) (hq : r ≠ q) : ev_ G 160 0 [.ref (wA Y 10 r), .ref (wA Y 10 q), zU] [] (wd Y n s X) = some (.inl none, wd Y n s (fun f j => if f = 500 + r ∧ 0 ≤ j ∧ j < wln r then X (500 + q) j else X f j)) := by
  rw [q_X8_copyFrom_0, l_0, c_copyR hV hV2 hV3 hV4 hI h0 h0' hk hk' hl hq (wln r) 0 X (by omega) (by omega)]
theorem c_down {a b : Int} {W : zW} (ha : -2147483648 < a) (ha' : a < 2147483648) (hb : 0 < b) (hb' : b < 2147483648) : ev_ G 115 0 [.int (zJ a), .int (zJ b)] [] W = some (.inl (some (.int (zJ (a / b)))), W) := by
  have hr := ztd_r (a := a) (by omega) ha' hb
  have hm : -2147483648 ≤ a.tdiv b * b ∧ a.tdiv b * b < 2147483648 := by
    by_cases h : 0 ≤ a
    · rw [Int.tdiv_eq_ediv_of_nonneg h]
      have h1 := Int.ediv_mul_le a (Int.ne_of_gt hb)
      have h2 := Int.mul_nonneg (Int.ediv_nonneg h (Int.le_of_lt hb)) (Int.le_of_lt hb)
      omega
    · rw [show a = -(-a) by omega, Int.neg_tdiv, Int.tdiv_eq_ediv_of_nonneg (by omega), Int.neg_mul]
      have h1 := Int.ediv_mul_le (-a) (Int.ne_of_gt hb)
      have h2 := Int.mul_nonneg (Int.ediv_nonneg (show 0 ≤ -a by omega) (Int.le_of_lt hb)) (Int.le_of_lt hb)
      omega
  rw [q_X11_divideDown_0]
  simp (disch := first | assumption | omega) only [l_0, l_1, l_2, l_3, l_4, l_5, l_6, l_7, l_8, l_9, l_10, l_12, l_16, l_24, l_31, l_32, l_48, l_96, l_99, l_100, l_150, l_180, l_200, l_240, l_255, l_260, l_384, l_400, l_999, l_5000, l_9999, l_1000000, l_1000000000, zJ_lt, zJ_le, zJ_eq]
  rw [if_pos (by omega), q_J9_floorDiv_7cf53_0, if_neg, zJ_div (by omega) ha' hb hb', ztd_e hb, zJ_mul]
  · simp (disch := first | assumption | omega) only [zJ_xs, zJ_lt, zJ_le, zJ_eq, l_0, l_1, l_2, l_3, l_4, l_5, l_6, l_7, l_8, l_9, l_10, l_12, l_16, l_24, l_31, l_32, l_48, l_96, l_99, l_100, l_150, l_180, l_200, l_240, l_255, l_260, l_384, l_400, l_999, l_5000, l_9999, l_1000000, l_1000000000, zJ_add, zJ_sub, zJ_mul, zJ_neg]
    repeat' split
    all_goals rfl
  · rw [l_0, zJ_eq (by omega) hb' (by omega) (by omega)]
    omega
-- the weight of a set of options
def zwt (X : zX) (o : Int) (w : Int) : Int := if X 246 w = 0 ∧ zbt o (X 244 w) = true then X 245 w else 0
theorem c_weightR {o : Int} (hF : wF Y) (hr : ∀ w, 0 ≤ w → w < Y.2.2.2.2 0 2 → 0 ≤ X 246 w ∧ X 246 w ≤ 1) : ∀ (k : Nat) (i t : Int) (u : Value), 0 ≤ i → i + k = Y.2.2.2.2 0 2 → ev_ G 88 4 [.ref (wA Y 6 0), .int (zJ o), .int (zJ t), .int (zJ i), u] [] (wd Y n s X) = some (.inl (some (.int (zJ (t + zsm (zwt X o) i k)))), wd Y n s X) := by
  obtain ⟨hI, h13, h5, h6, h7, h8, hr_, hl, hb_, hc, hw, hre, hbo, hs⟩ := hF
  have hl2 := hl 2 (by decide) (by decide)
  have h1 := hl2.1
  obtain ⟨-, b1, b2, b3, -⟩ := id hl2
  intro k
  induction k with
  | zero =>
    intro i t u hi he
    rw [q_X4_weightOf_4]
    simp (disch := first | assumption | omega) only [g6_2, t_I, t_Ie, t_R, t_Re, t_N, t_Nn, t_V, t_Ve, t_b, t_x, t_w, e_0, e_1, e_2, e_3, k1, c_size, l_0, l_1, l_2, l_3, l_4, l_5, l_6, l_7, l_8, l_9, l_10, l_12, l_16, l_24, l_31, l_32, l_48, l_96, l_99, l_100, l_150, l_180, l_200, l_240, l_255, l_260, l_384, l_400, l_999, l_5000, l_9999, l_1000000, l_1000000000, zJ_lt, zJ_le, zJ_eq]
    rw [if_pos (by omega)]
    simp only [zsm, Int.add_zero]
  | succ k ih =>
    intro i t u hi he
    have hv := (hw i hi (by omega)).1
    have hx := hr i hi (by omega)
    have hel : wel Y 2 i = wA Y 12 i := rfl
    rw [q_X4_weightOf_4]
    simp (disch := first | assumption | omega) only [g6_2, t_I, t_Ie, t_R, t_Re, t_N, t_Nn, t_V, t_Ve, t_b, t_x, t_w, e_0, e_1, e_2, e_3, k1, c_size, l_0, l_1, l_2, l_3, l_4, l_5, l_6, l_7, l_8, l_9, l_10, l_12, l_16, l_24, l_31, l_32, l_48, l_96, l_99, l_100, l_150, l_180, l_200, l_240, l_255, l_260, l_384, l_400, l_999, l_5000, l_9999, l_1000000, l_1000000000, zJ_lt, zJ_le, zJ_eq]
    rw [if_neg (by omega), c_get hl2 hi (by omega), t_R, hel]
    simp (disch := first | assumption | omega) only [k12, g12_6, g12_4, g12_5, t_I, t_Ie, t_R, t_Re, t_N, t_Nn, t_V, t_Ve, t_b, t_x, t_w, e_0, e_1, e_2, e_3, l_0, l_1, l_2, l_3, l_4, l_5, l_6, l_7, l_8, l_9, l_10, l_12, l_16, l_24, l_31, l_32, l_48, l_96, l_99, l_100, l_150, l_180, l_200, l_240, l_255, l_260, l_384, l_400, l_999, l_5000, l_9999, l_1000000, l_1000000000, zJ_lt, zJ_le, zJ_eq, zbt_e, zJ_add, zJ_sub, zJ_mul, zJ_neg]
    have hz : zsm (zwt X o) i (k + 1) = (if X 246 i = 0 ∧ zbt o (X 244 i) = true then X 245 i else 0) + zsm (zwt X o) (i + 1) k := rfl
    rw [hz]
    by_cases q1 : X 246 i = 0
    · rw [if_pos q1]
      by_cases q2 : zbt o (X 244 i) = false
      · rw [if_pos q2, ih (i + 1) t _ (by omega) (by omega), if_neg (fun q => by rw [q2] at q; exact absurd q.2 (by decide)), Int.zero_add]
      · rw [if_neg q2, ih (i + 1) _ _ (by omega) (by omega), if_pos ⟨q1, by simpa using q2⟩, Int.add_assoc]
    · rw [if_neg q1, ih (i + 1) t _ (by omega) (by omega), if_neg (fun q => q1 q.1), Int.zero_add]
theorem c_weight {o : Int} (hF : wF Y) (hr : ∀ w, 0 ≤ w → w < Y.2.2.2.2 0 2 → 0 ≤ X 246 w ∧ X 246 w ≤ 1) : ev_ G 88 0 [.ref (wA Y 6 0), .int (zJ o), zU, zU, zU] [] (wd Y n s X) = some (.inl (some (.int (zJ (zsm (zwt X o) 0 (Y.2.2.2.2 0 2).toNat)))), wd Y n s X) := by
  have hl2 := hF.2.2.2.2.2.2.2.1 2 (by decide) (by decide)
  have := hl2.2.1
  rw [q_X4_weightOf_0, l_0, c_weightR hF hr (Y.2.2.2.2 0 2).toNat 0 0 zU (by omega) (by omega), Int.zero_add]
end ZM
