/-! THE TWO SIDES, 3: the class's small methods, on -/
def zbt (t v : Int) : Bool := decide (¬ (zJ t &&& (zJ 1 <<< (zJ v &&& zJ 31))) = zJ 0)
def zbO (t v : Int) : Int := (zJ t ||| (zJ 1 <<< (zJ v &&& zJ 31))).toInt
def zbC (t v : Int) : Int := (zJ t &&& ((zJ 1 <<< (zJ v &&& zJ 31)) ^^^ zJ (-1))).toInt
theorem zbt_e {t v : Int} : ((zJ t &&& (zJ 1 <<< (zJ v &&& zJ 31))) = zJ 0) = (zbt t v = false) := by
  unfold zbt
  by_cases h : (zJ t &&& (zJ 1 <<< (zJ v &&& zJ 31))) = zJ 0
  · simp only [h, not_true_eq_false, decide_false]
  · simp only [h, not_false_eq_true, decide_true, Bool.true_eq_false]
theorem zbO_e {t v : Int} : (zJ t ||| (zJ 1 <<< (zJ v &&& zJ 31))) = zJ (zbO t v) := zJ_of _
theorem zbC_e {t v : Int} : (zJ t &&& ((zJ 1 <<< (zJ v &&& zJ 31)) ^^^ zJ (-1))) = zJ (zbC t v) := zJ_of _
section ZM
variable {Y : zLy} {n s : Nat} {X : zX} {G : Nat × Nat} {i j : Int}
theorem c_slotAt {b p : Int} (hF : wF Y) (hb : 0 ≤ b) (hb' : b < Y.2.2.2.2 0 4) (hp : 0 ≤ p) (hp' : p < 8) : ev_ G 147 0 [.ref (wA Y 2 b), .int (zJ p)] [] (wd Y n s X) = some (.inl (some (.ref (wA Y 11 (8 * b + p)))), wd Y n s X) := by
  obtain ⟨hI, h13, h5, h6, h7, h8, hr, hl, hb_, hc, hw, hre, hbo, hs⟩ := hF
  obtain ⟨h2, hl1, hq, -, -⟩ := hbo b hb hb'
  have h1 := hl1.1
  rw [q_X0_slotAt_0]
  simp (disch := first | assumption | omega) only [g2_3, t_I, t_Ie, t_R, t_Re, t_N, t_Nn, t_V, t_Ve, t_b, t_x, t_w, e_0, e_1, e_2, e_3, k1, c_size, hq, c_isIndex]
  rw [zB_1 ⟨hp, hp'⟩, e_1]
  have hv := hs (8 * b + p) (by omega) (by omega)
  have he : wel Y (29 + b) p = wA Y 11 (8 * b + p) := by unfold wel; rw [if_neg (by omega), if_neg (by omega), if_neg (by omega), if_neg (by omega), if_neg (by omega), if_neg (by omega)]; congr 1; omega
  rw [c_get hl1 hp (by omega), t_R, he, k11 hv]
theorem c_slotAt_no {b p : Int} (hF : wF Y) (hb : 0 ≤ b) (hb' : b < Y.2.2.2.2 0 4) (hq0 : -2147483648 ≤ p) (hq1 : p < 2147483648) (hp : ¬(0 ≤ p ∧ p < 8)) : ev_ G 147 0 [.ref (wA Y 2 b), .int (zJ p)] [] (wd Y n s X) = some (.inr 0, wd Y (n + 1) (s + 6) X) := by
  obtain ⟨hI, h13, h5, h6, h7, h8, hr, hl, hb_, hc, hw, hre, hbo, hs⟩ := hF
  obtain ⟨h2, hl1, hq, -, -⟩ := hbo b hb hb'
  have h1 := hl1.1
  rw [q_X0_slotAt_0]
  simp (disch := first | assumption | omega) only [g2_3, t_I, t_Ie, t_R, t_Re, t_N, t_Nn, t_V, t_Ve, t_b, t_x, t_w, e_0, e_1, e_2, e_3, k1, c_size, hq, c_isIndex]
  rw [zB_0 hp, e_0]
theorem c_fits (h : wV Y 4 i) (h' : wV Y 4 j) (hr : ∀ a : Int, a = X 81 i ∨ a = X 81 j ∨ a = X 82 i ∨ a = X 82 j → 0 ≤ a ∧ a < 100) : ev_ G 46 0 [.ref (wA Y 4 i), .ref (wA Y 4 j)] [] (wd Y n s X) = some (.inl (some (.int (zJ (zB (X 81 i = X 81 j ∧ X 82 i = X 82 j))))), wd Y n s X) := by
  have r1 := hr (X 81 i) (Or.inl rfl)
  have r2 := hr (X 81 j) (Or.inr (Or.inl rfl))
  have r3 := hr (X 82 i) (Or.inr (Or.inr (Or.inl rfl)))
  have r4 := hr (X 82 j) (Or.inr (Or.inr (Or.inr rfl)))
  rw [q_X2_fits_0]
  simp only [t_0, t_1]
  simp (disch := first | assumption | omega) only [g4_1, g4_2, t_I, t_Ie, t_R, t_Re, t_N, t_Nn, t_V, t_Ve, t_b, t_x, t_w, e_0, e_1, e_2, e_3, l_0, l_1, l_2, l_3, l_4, l_5, l_6, l_7, l_8, l_9, l_10, l_12, l_16, l_24, l_31, l_32, l_48, l_96, l_99, l_100, l_150, l_180, l_200, l_240, l_255, l_260, l_384, l_400, l_999, l_5000, l_9999, l_1000000, l_1000000000, zJ_lt, zJ_le, zJ_eq]
  unfold zB
  repeat' split
  all_goals first | rfl | (exfalso; omega)
theorem c_isFree (h : wV Y 4 i) : ev_ G 53 0 [.ref (wA Y 4 i), .int (zJ j)] [] (wd Y n s X) = some (.inl (some (.int (zJ (zB (zbt (X 84 i) j = false))))), wd Y n s X) := by
  rw [q_X2_isFree_0]
  simp only [t_0, t_1]
  simp (disch := first | assumption | omega) only [g4_4, t_I, t_Ie, t_R, t_Re, t_N, t_Nn, t_V, t_Ve, t_b, t_x, t_w, e_0, e_1, e_2, e_3, l_0, l_1, l_2, l_3, l_4, l_5, l_6, l_7, l_8, l_9, l_10, l_12, l_16, l_24, l_31, l_32, l_48, l_96, l_99, l_100, l_150, l_180, l_200, l_240, l_255, l_260, l_384, l_400, l_999, l_5000, l_9999, l_1000000, l_1000000000, zbt_e]
  unfold zB
  split
  · rfl
  · rfl
theorem c_take (h : wV Y 4 i) (hI : wI Y) : ev_ G 61 0 [.ref (wA Y 4 i), .int (zJ j)] [] (wd Y n s X) = some (.inl none, wd Y n s (wu X 84 i (zbO (X 84 i) j))) := by
  rw [q_X2_take_0]
  simp (disch := first | assumption | omega) only [g4_4, t_I, t_Ie, t_R, t_Re, t_N, t_Nn, t_V, t_Ve, t_b, t_x, t_w, e_0, e_1, e_2, e_3, l_0, l_1, l_2, l_3, l_4, l_5, l_6, l_7, l_8, l_9, l_10, l_12, l_16, l_24, l_31, l_32, l_48, l_96, l_99, l_100, l_150, l_180, l_200, l_240, l_255, l_260, l_384, l_400, l_999, l_5000, l_9999, l_1000000, l_1000000000, zbO_e, p4_4]
theorem c_release (h : wV Y 4 i) (hI : wI Y) : ev_ G 77 0 [.ref (wA Y 4 i), .int (zJ j)] [] (wd Y n s X) = some (.inl none, wd Y n s (wu X 84 i (zbC (X 84 i) j))) := by
  rw [q_X2_release_0]
  simp (disch := first | assumption | omega) only [g4_4, t_I, t_Ie, t_R, t_Re, t_N, t_Nn, t_V, t_Ve, t_b, t_x, t_w, e_0, e_1, e_2, e_3, l_0, l_1, l_2, l_3, l_4, l_5, l_6, l_7, l_8, l_9, l_10, l_12, l_16, l_24, l_31, l_32, l_48, l_96, l_99, l_100, l_150, l_180, l_200, l_240, l_255, l_260, l_384, l_400, l_999, l_5000, l_9999, l_1000000, l_1000000000, zJ_neg, zbC_e, p4_4]
theorem c_cost (h : wV Y 3 i) : ev_ G 55 0 [.ref (wA Y 3 i)] [] (wd Y n s X) = some (.inl (some (.int (zJ (X 63 i * 16 + 1)))), wd Y n s X) := by
  rw [q_X1_cost_0]
  simp (disch := first | assumption | omega) only [g3_3, t_I, t_Ie, t_R, t_Re, t_N, t_Nn, t_V, t_Ve, t_b, t_x, t_w, e_0, e_1, e_2, e_3, l_0, l_1, l_2, l_3, l_4, l_5, l_6, l_7, l_8, l_9, l_10, l_12, l_16, l_24, l_31, l_32, l_48, l_96, l_99, l_100, l_150, l_180, l_200, l_240, l_255, l_260, l_384, l_400, l_999, l_5000, l_9999, l_1000000, l_1000000000, zJ_add, zJ_sub, zJ_mul, zJ_neg]
def zac (a b v : Int) : Int := if v = a then b else if v = b then a else -1
theorem c_across (h : wV Y 3 i) (r1 : 0 ≤ X 61 i ∧ X 61 i < 8) (r2 : 0 ≤ X 62 i ∧ X 62 i < 8) (r3 : -1 ≤ j ∧ j < 8) : ev_ G 56 0 [.ref (wA Y 3 i), .int (zJ j)] [] (wd Y n s X) = some (.inl (some (.int (zJ (zac (X 61 i) (X 62 i) j)))), wd Y n s X) := by
  rw [q_X1_across_0]
  simp (disch := first | assumption | omega) only [g3_1, g3_2, t_I, t_Ie, t_R, t_Re, t_N, t_Nn, t_V, t_Ve, t_b, t_x, t_w, e_0, e_1, e_2, e_3, l_0, l_1, l_2, l_3, l_4, l_5, l_6, l_7, l_8, l_9, l_10, l_12, l_16, l_24, l_31, l_32, l_48, l_96, l_99, l_100, l_150, l_180, l_200, l_240, l_255, l_260, l_384, l_400, l_999, l_5000, l_9999, l_1000000, l_1000000000, zJ_lt, zJ_le, zJ_eq, zJ_neg]
  unfold zac
  repeat' split
  all_goals rfl
theorem c_hasPart (h : wV Y 11 i) (r : -1 ≤ X 220 i ∧ X 220 i < 6) : ev_ G 148 0 [.ref (wA Y 11 i)] [] (wd Y n s X) = some (.inl (some (.int (zJ (zB (X 220 i ≠ -1))))), wd Y n s X) := by
  rw [q_X9_hasPart_0]
  simp only [t_0, t_1]
  simp (disch := first | assumption | omega) only [g11_0, t_I, t_Ie, t_R, t_Re, t_N, t_Nn, t_V, t_Ve, t_b, t_x, t_w, e_0, e_1, e_2, e_3, l_0, l_1, l_2, l_3, l_4, l_5, l_6, l_7, l_8, l_9, l_10, l_12, l_16, l_24, l_31, l_32, l_48, l_96, l_99, l_100, l_150, l_180, l_200, l_240, l_255, l_260, l_384, l_400, l_999, l_5000, l_9999, l_1000000, l_1000000000, zJ_lt, zJ_le, zJ_eq, zJ_neg]
  unfold zB
  repeat' split
  all_goals first | rfl | (exfalso; omega)
theorem c_beginClock (h : wV Y 9 i) (hI : wI Y) : ev_ G 131 0 [.ref (wA Y 9 i), .int (zJ j)] [] (wd Y n s X) = some (.inl none, wd Y n s (wu (wu X 183 i 1) 184 i j)) := by
  rw [q_X7_beginClock_0]
  simp only [t_0, t_1]
  simp (disch := first | assumption | omega) only [l_0, l_1, l_2, l_3, l_4, l_5, l_6, l_7, l_8, l_9, l_10, l_12, l_16, l_24, l_31, l_32, l_48, l_96, l_99, l_100, l_150, l_180, l_200, l_240, l_255, l_260, l_384, l_400, l_999, l_5000, l_9999, l_1000000, l_1000000000, p9_3, p9_4, t_I, t_Ie, t_R, t_Re, t_N, t_Nn, t_V, t_Ve, t_b, t_x, t_w, e_0, e_1, e_2, e_3]
def zclk (o l b m : Int) : Int := if o = 0 ∨ l - (m - b) < 0 then -1 else l - (m - b)
theorem c_clockAt (h : wV Y 9 i) (r1 : 0 ≤ X 181 i ∧ X 181 i < 10000) (r2 : 0 ≤ X 184 i ∧ X 184 i < 10000) (r3 : 0 ≤ X 183 i ∧ X 183 i ≤ 1) (r4 : 0 ≤ j ∧ j < 10000) : ev_ G 132 0 [.ref (wA Y 9 i), .int (zJ j), zU] [] (wd Y n s X) = some (.inl (some (.int (zJ (zclk (X 183 i) (X 181 i) (X 184 i) j)))), wd Y n s X) := by
  rw [q_X7_clockAt_0]
  simp (disch := first | assumption | omega) only [l_0, l_1, l_2, l_3, l_4, l_5, l_6, l_7, l_8, l_9, l_10, l_12, l_16, l_24, l_31, l_32, l_48, l_96, l_99, l_100, l_150, l_180, l_200, l_240, l_255, l_260, l_384, l_400, l_999, l_5000, l_9999, l_1000000, l_1000000000, g9_1, g9_3, g9_4, t_I, t_Ie, t_R, t_Re, t_N, t_Nn, t_V, t_Ve, t_b, t_x, t_w, e_0, e_1, e_2, e_3, zJ_lt, zJ_le, zJ_eq, zJ_add, zJ_sub, zJ_mul, zJ_neg]
  unfold zclk
  repeat' split
  all_goals first | rfl | (exfalso; omega)
theorem zclk_r {o l b m : Int} (r1 : 0 ≤ l ∧ l < 10000) (r2 : 0 ≤ b ∧ b < 10000) (r4 : 0 ≤ m ∧ m < 10000) : -1 ≤ zclk o l b m ∧ zclk o l b m < 20000 := by
  unfold zclk
  split <;> omega
theorem c_gives (h : wV Y 9 i) (r1 : 0 ≤ X 181 i ∧ X 181 i < 10000) (r2 : 0 ≤ X 184 i ∧ X 184 i < 10000) (r3 : 0 ≤ X 183 i ∧ X 183 i ≤ 1) (r4 : 0 ≤ j ∧ j < 10000) (r5 : 0 ≤ X 182 i ∧ X 182 i < 1000) : ev_ G 149 0 [.ref (wA Y 9 i), .int (zJ j)] [] (wd Y n s X) = some (.inl (some (.int (zJ (zB (0 < X 182 i ∧ zclk (X 183 i) (X 181 i) (X 184 i) j ≠ -1))))), wd Y n s X) := by
  have := zclk_r (o := X 183 i) r1 r2 r4
  rw [q_X7_gives_0]
  simp only [t_0, t_1]
  simp (disch := first | assumption | omega) only [l_0, l_1, l_2, l_3, l_4, l_5, l_6, l_7, l_8, l_9, l_10, l_12, l_16, l_24, l_31, l_32, l_48, l_96, l_99, l_100, l_150, l_180, l_200, l_240, l_255, l_260, l_384, l_400, l_999, l_5000, l_9999, l_1000000, l_1000000000, g9_2, t_I, t_Ie, t_R, t_Re, t_N, t_Nn, t_V, t_Ve, t_b, t_x, t_w, e_0, e_1, e_2, e_3, k9, c_clockAt, zJ_neg, zJ_lt, zJ_le, zJ_eq]
  unfold zB
  repeat' split
  all_goals first | rfl | (exfalso; omega)
theorem c_fillS {r m : Int} (h : wV Y 11 i) (h' : wV Y 9 j) (hI : wI Y) : ev_ G 150 0 [.ref (wA Y 11 i), .int (zJ r), .ref (wA Y 9 j), .int (zJ m)] [] (wd Y n s X) = some (.inl none, wd Y n s (wu (wu (wu (wu X 182 j (X 182 j - 1)) 220 i (wu X 182 j (X 182 j - 1) 180 j)) 221 i r) 222 i m)) := by
  rw [q_X9_fill_0]
  simp (disch := first | assumption | omega) only [l_0, l_1, l_2, l_3, l_4, l_5, l_6, l_7, l_8, l_9, l_10, l_12, l_16, l_24, l_31, l_32, l_48, l_96, l_99, l_100, l_150, l_180, l_200, l_240, l_255, l_260, l_384, l_400, l_999, l_5000, l_9999, l_1000000, l_1000000000, g9_2, g9_0, p9_2, p11_0, p11_1, p11_2, t_I, t_Ie, t_R, t_Re, t_N, t_Nn, t_V, t_Ve, t_b, t_x, t_w, e_0, e_1, e_2, e_3, zJ_add, zJ_sub, zJ_mul, zJ_neg]
theorem c_mend (h : wV Y 11 i) (hI : wI Y) : ev_ G 185 0 [.ref (wA Y 11 i)] [] (wd Y n s X) = some (.inl none, wd Y n s (wu (wu (wu X 223 i 0) 224 i 0) 225 i 1)) := by
  rw [q_X9_mend_0]
  simp only [t_0, t_1]
  simp (disch := first | assumption | omega) only [l_0, l_1, l_2, l_3, l_4, l_5, l_6, l_7, l_8, l_9, l_10, l_12, l_16, l_24, l_31, l_32, l_48, l_96, l_99, l_100, l_150, l_180, l_200, l_240, l_255, l_260, l_384, l_400, l_999, l_5000, l_9999, l_1000000, l_1000000000, p11_3, p11_4, p11_5, t_I, t_Ie, t_R, t_Re, t_N, t_Nn, t_V, t_Ve, t_b, t_x, t_w, e_0, e_1, e_2, e_3]
def zjf (low high peak : Int) : Int := if peak < low then 1 else if high < peak then 2 else 0
theorem c_jointFor {p : Int} (h : wV Y 11 i) (r1 : 0 ≤ X 226 i ∧ X 226 i < 10000) (r2 : 0 ≤ X 227 i ∧ X 227 i < 10000) (r3 : -10000 ≤ p ∧ p < 10000) : ev_ G 164 0 [.ref (wA Y 11 i), .int (zJ p)] [] (wd Y n s X) = some (.inl (some (.int (zJ (zjf (X 226 i) (X 227 i) p)))), wd Y n s X) := by
  rw [q_X9_jointFor_0]
  simp (disch := first | assumption | omega) only [l_0, l_1, l_2, l_3, l_4, l_5, l_6, l_7, l_8, l_9, l_10, l_12, l_16, l_24, l_31, l_32, l_48, l_96, l_99, l_100, l_150, l_180, l_200, l_240, l_255, l_260, l_384, l_400, l_999, l_5000, l_9999, l_1000000, l_1000000000, g11_6, g11_7, t_I, t_Ie, t_R, t_Re, t_N, t_Nn, t_V, t_Ve, t_b, t_x, t_w, e_0, e_1, e_2, e_3, zJ_lt, zJ_le, zJ_eq]
  unfold zjf
  repeat' split
  all_goals first | rfl | (exfalso; omega)
theorem c_abs {a : Int} {W : zW} (r : -100000 ≤ a ∧ a ≤ 100000) : ev_ G 117 0 [.int (zJ a)] [] W = some (.inl (some (.int (zJ (if 0 ≤ a then a else -a)))), W) := by
  rw [q_J9_abs_0f7a4_0]
  simp (disch := first | assumption | omega) only [l_0, l_1, l_2, l_3, l_4, l_5, l_6, l_7, l_8, l_9, l_10, l_12, l_16, l_24, l_31, l_32, l_48, l_96, l_99, l_100, l_150, l_180, l_200, l_240, l_255, l_260, l_384, l_400, l_999, l_5000, l_9999, l_1000000, l_1000000000, zJ_lt, zJ_le, zJ_eq, zJ_add, zJ_sub, zJ_mul, zJ_neg]
  split <;> rfl
end ZM
