/-! THE TWO SIDES, 2: the class's small methods -/
theorem l_0 : (0 : Int32) = zJ 0 := rfl
theorem l_1 : (1 : Int32) = zJ 1 := rfl
theorem l_2 : (2 : Int32) = zJ 2 := rfl
theorem l_3 : (3 : Int32) = zJ 3 := rfl
theorem l_4 : (4 : Int32) = zJ 4 := rfl
theorem l_5 : (5 : Int32) = zJ 5 := rfl
theorem l_6 : (6 : Int32) = zJ 6 := rfl
theorem l_7 : (7 : Int32) = zJ 7 := rfl
theorem l_8 : (8 : Int32) = zJ 8 := rfl
theorem l_9 : (9 : Int32) = zJ 9 := rfl
theorem l_10 : (10 : Int32) = zJ 10 := rfl
theorem l_12 : (12 : Int32) = zJ 12 := rfl
theorem l_16 : (16 : Int32) = zJ 16 := rfl
theorem l_24 : (24 : Int32) = zJ 24 := rfl
theorem l_31 : (31 : Int32) = zJ 31 := rfl
theorem l_32 : (32 : Int32) = zJ 32 := rfl
theorem l_48 : (48 : Int32) = zJ 48 := rfl
theorem l_96 : (96 : Int32) = zJ 96 := rfl
theorem l_99 : (99 : Int32) = zJ 99 := rfl
theorem l_100 : (100 : Int32) = zJ 100 := rfl
theorem l_150 : (150 : Int32) = zJ 150 := rfl
theorem l_180 : (180 : Int32) = zJ 180 := rfl
theorem l_200 : (200 : Int32) = zJ 200 := rfl
theorem l_240 : (240 : Int32) = zJ 240 := rfl
theorem l_255 : (255 : Int32) = zJ 255 := rfl
theorem l_260 : (260 : Int32) = zJ 260 := rfl
theorem l_384 : (384 : Int32) = zJ 384 := rfl
theorem l_400 : (400 : Int32) = zJ 400 := rfl
theorem l_999 : (999 : Int32) = zJ 999 := rfl
theorem l_5000 : (5000 : Int32) = zJ 5000 := rfl
theorem l_9999 : (9999 : Int32) = zJ 9999 := rfl
theorem l_1000000 : (1000000 : Int32) = zJ 1000000 := rfl
theorem l_1000000000 : (1000000000 : Int32) = zJ 1000000000 := rfl
def zB (p : Prop) [Decidable p] : Int := if p then 1 else 0
theorem e_0 {α : Type} {a b : α} : (if zJ 0 = 0 then a else b) = a := if_pos (by decide)
theorem e_1 {α : Type} {a b : α} : (if zJ 1 = 0 then a else b) = b := if_neg (by decide)
theorem e_2 {α : Type} {a b : α} : (if zJ 0 = zJ 0 then a else b) = a := if_pos rfl
theorem e_3 {α : Type} {a b : α} : (if zJ 1 = zJ 0 then a else b) = b := if_neg (by decide)
theorem zB_1 {p : Prop} [Decidable p] (h : p) : zB p = 1 := if_pos h
theorem zB_0 {p : Prop} [Decidable p] (h : ¬p) : zB p = 0 := if_neg h
section ZM
variable {Y : zLy} {n s : Nat} {X : zX} {G : Nat × Nat}
theorem c_isIndex {a b : Int} {W : zW} (ha : -2147483648 ≤ a) (ha' : a < 2147483648) (hb : -2147483648 ≤ b) (hb' : b < 2147483648) : ev_ G 12 0 [.int (zJ a), .int (zJ b)] [] W = some (.inl (some (.int (zJ (zB (0 ≤ a ∧ a < b))))), W) := by
  rw [q_X11_isIndex_0]
  simp only [t_0, t_1]
  simp (disch := first | assumption | omega) only [l_0, l_1, l_2, l_3, l_4, l_5, l_6, l_7, l_8, l_9, l_10, l_12, l_16, l_24, l_31, l_32, l_48, l_96, l_99, l_100, l_150, l_180, l_200, l_240, l_255, l_260, l_384, l_400, l_999, l_5000, l_9999, l_1000000, l_1000000000, zJ_lt, zJ_le, zJ_eq]
  unfold zB
  repeat' split
  all_goals first | rfl | (exfalso; omega)
theorem c_isWithin {a b c : Int} {W : zW} (ha : -2147483648 ≤ a) (ha' : a < 2147483648) (hb : -2147483648 ≤ b) (hb' : b < 2147483648) (hc : -2147483648 ≤ c) (hc' : c < 2147483648) : ev_ G 14 0 [.int (zJ a), .int (zJ b), .int (zJ c)] [] W = some (.inl (some (.int (zJ (zB (b ≤ a ∧ a ≤ c))))), W) := by
  rw [q_X11_isWithin_0]
  simp only [t_0, t_1]
  simp (disch := first | assumption | omega) only [l_0, l_1, l_2, l_3, l_4, l_5, l_6, l_7, l_8, l_9, l_10, l_12, l_16, l_24, l_31, l_32, l_48, l_96, l_99, l_100, l_150, l_180, l_200, l_240, l_255, l_260, l_384, l_400, l_999, l_5000, l_9999, l_1000000, l_1000000000, zJ_lt, zJ_le, zJ_eq]
  unfold zB
  repeat' split
  all_goals first | rfl | (exfalso; omega)
theorem c_put {r i v : Int} (hV : wV Y 10 r) (hV2 : wV Y 15 r) (hI : wI Y) (h0 : 0 ≤ r) (hk : wkd r = 0) (hi : -2147483648 ≤ i) (hi' : i < 2147483648) : ev_ G 7 0 [.ref (wA Y 10 r), .int (zJ i), .int (zJ v)] [] (wd Y n s X) = some (.inl none, wd Y n s (if 0 ≤ i ∧ i < wln r then wu X (500 + r) i v else X)) := by
  have := wln_le r
  rw [q_X8_put_0]
  by_cases h : i < 0
  · simp (disch := first | assumption | omega) only [l_0, l_1, l_2, l_3, l_4, l_5, l_6, l_7, l_8, l_9, l_10, l_12, l_16, l_24, l_31, l_32, l_48, l_96, l_99, l_100, l_150, l_180, l_200, l_240, l_255, l_260, l_384, l_400, l_999, l_5000, l_9999, l_1000000, l_1000000000, zJ_lt, zJ_le, zJ_eq, if_pos]
    rw [if_neg (fun q => by omega)]
  · by_cases h' : i < wln r
    · simp (disch := first | assumption | omega) only [l_0, l_1, l_2, l_3, l_4, l_5, l_6, l_7, l_8, l_9, l_10, l_12, l_16, l_24, l_31, l_32, l_48, l_96, l_99, l_100, l_150, l_180, l_200, l_240, l_255, l_260, l_384, l_400, l_999, l_5000, l_9999, l_1000000, l_1000000000, zJ_lt, zJ_le, zJ_eq, g10_0, wd_len, t_I, t_Ie, t_R, t_Re, t_N, t_Nn, t_V, t_Ve, t_b, t_x, t_w, e_0, e_1, e_2, e_3]
      rw [if_neg h, if_neg (by omega), if_pos ⟨by omega, h'⟩, wd_st hV2 hI h0 (by omega) h' hk.symm]
      rfl
    · simp (disch := first | assumption | omega) only [l_0, l_1, l_2, l_3, l_4, l_5, l_6, l_7, l_8, l_9, l_10, l_12, l_16, l_24, l_31, l_32, l_48, l_96, l_99, l_100, l_150, l_180, l_200, l_240, l_255, l_260, l_384, l_400, l_999, l_5000, l_9999, l_1000000, l_1000000000, zJ_lt, zJ_le, zJ_eq, g10_0, wd_len, t_I, t_Ie, t_R, t_Re, t_N, t_Nn, t_V, t_Ve, t_b, t_x, t_w, e_0, e_1, e_2, e_3]
      rw [if_neg h, if_pos (by omega), if_neg (by omega)]
theorem c_at {r i : Int} (hV : wV Y 10 r) (hV2 : wV Y 15 r) (h0 : 0 ≤ r) (hk : wkd r = 0) (hi : -2147483648 ≤ i) (hi' : i < 2147483648) : ev_ G 54 0 [.ref (wA Y 10 r), .int (zJ i)] [] (wd Y n s X) = some (.inl (some (.int (zJ (if 0 ≤ i ∧ i < wln r then X (500 + r) i else 0)))), wd Y n s X) := by
  have := wln_le r
  rw [q_X8_at_0]
  by_cases h : i < 0
  · simp (disch := first | assumption | omega) only [l_0, l_1, l_2, l_3, l_4, l_5, l_6, l_7, l_8, l_9, l_10, l_12, l_16, l_24, l_31, l_32, l_48, l_96, l_99, l_100, l_150, l_180, l_200, l_240, l_255, l_260, l_384, l_400, l_999, l_5000, l_9999, l_1000000, l_1000000000, zJ_lt, zJ_le, zJ_eq, if_pos]
    rw [if_neg (fun q => by omega)]
  · by_cases h' : i < wln r
    · simp (disch := first | assumption | omega) only [l_0, l_1, l_2, l_3, l_4, l_5, l_6, l_7, l_8, l_9, l_10, l_12, l_16, l_24, l_31, l_32, l_48, l_96, l_99, l_100, l_150, l_180, l_200, l_240, l_255, l_260, l_384, l_400, l_999, l_5000, l_9999, l_1000000, l_1000000000, zJ_lt, zJ_le, zJ_eq, g10_0, wd_len, t_I, t_Ie, t_R, t_Re, t_N, t_Nn, t_V, t_Ve, t_b, t_x, t_w, e_0, e_1, e_2, e_3]
      rw [if_neg h, if_neg (by omega), if_pos ⟨by omega, h'⟩, wd_ld hV2 h0 (by omega) h' (by rw [hk]; rfl)]
      rfl
    · simp (disch := first | assumption | omega) only [l_0, l_1, l_2, l_3, l_4, l_5, l_6, l_7, l_8, l_9, l_10, l_12, l_16, l_24, l_31, l_32, l_48, l_96, l_99, l_100, l_150, l_180, l_200, l_240, l_255, l_260, l_384, l_400, l_999, l_5000, l_9999, l_1000000, l_1000000000, zJ_lt, zJ_le, zJ_eq, g10_0, wd_len, t_I, t_Ie, t_R, t_Re, t_N, t_Nn, t_V, t_Ve, t_b, t_x, t_w, e_0, e_1, e_2, e_3]
      rw [if_neg h, if_pos (by omega), if_neg (by omega)]
-- lists
def wLs (Y : zLy) (l : Int) : Prop := wV Y 1 l ∧ 0 ≤ Y.2.2.2.2 0 l ∧ Y.2.2.2.2 0 l ≤ Y.2.2.2.2 1 l ∧ Y.2.2.2.2 1 l ≤ 1000 ∧ (0 < Y.2.2.2.2 1 l → wV Y 16 l)
abbrev wQ (Y : zLy) (j : Nat) (i : Int) : Int := Y.2.2.2.2 j i
theorem c_size {l : Int} (hV : wLs Y l) : ev_ G 16 0 [.ref (wA Y 1 l)] [] (wd Y n s X) = some (.inl (some (.int (zJ (Y.2.2.2.2 0 l)))), wd Y n s X) := by
  have := hV.1
  rw [q_Jx4a65c_size_8abf5_0]
  simp (disch := first | assumption | omega) only [g1_2, t_I, t_Ie, t_R, t_Re, t_N, t_Nn, t_V, t_Ve, t_b, t_x, t_w, e_0, e_1, e_2, e_3]
theorem c_check {a b : Int} {W : zW} (h : 0 ≤ a) (h' : a < b) (hb : b < 2147483648) : ev_ G 42 0 [.int (zJ a), .int (zJ b)] [] W = some (.inl (some (.int (zJ a))), W) := by
  rw [q_J15_checkIndex_7cf53_0, q_J3_checkIndex_8e157_0]
  simp (disch := first | assumption | omega) only [l_0, l_1, l_2, l_3, l_4, l_5, l_6, l_7, l_8, l_9, l_10, l_12, l_16, l_24, l_31, l_32, l_48, l_96, l_99, l_100, l_150, l_180, l_200, l_240, l_255, l_260, l_384, l_400, l_999, l_5000, l_9999, l_1000000, l_1000000000, zJ_lt, zJ_le, zJ_eq]
  rw [if_neg (by omega), if_pos h', t_I]
theorem c_get {l i : Int} (hV : wLs Y l) (h : 0 ≤ i) (h' : i < Y.2.2.2.2 0 l) : ev_ G 44 0 [.ref (wA Y 1 l), .int (zJ i)] [] (wd Y n s X) = some (.inl (some (.ref (wel Y l i))), wd Y n s X) := by
  obtain ⟨h1, h2, h3, h4, h5⟩ := hV
  have h6 := h5 (by omega)
  rw [q_Jx4a65c_get_915e3_0]
  simp (disch := first | assumption | omega) only [g1_2, t_I, t_Ie, t_R, t_Re, t_N, t_Nn, t_V, t_Ve, t_b, t_x, t_w, e_0, e_1, e_2, e_3, c_check, k1]
  rw [q_Jx4a65c_elementData_915e3_0]
  simp (disch := first | assumption | omega) only [g1_1, t_I, t_Ie, t_R, t_Re, t_N, t_Nn, t_V, t_Ve, t_b, t_x, t_w, e_0, e_1, e_2, e_3]
  rw [if_neg (by omega), wd_ldq h6 h h' h3 h4]
  simp only [t_I, t_Ie, t_R, t_Re, t_N, t_Nn, t_V, t_Ve, t_b, t_x, t_w, e_0, e_1, e_2, e_3]
theorem c_cIx0 {W : zW} : ev_ G 13 0 [.int (zJ 0)] [] W = some (.inr 0, (W.1 + 1, W.2.1 + 6, W.2.2)) := by
  rw [q_X11_checkIndex_0, e_0]
theorem c_cIx1 {W : zW} : ev_ G 13 0 [.int (zJ 1)] [] W = some (.inl none, W) := by
  rw [q_X11_checkIndex_0, if_neg (by decide)]
theorem c_cAr0 {W : zW} : ev_ G 15 0 [.int (zJ 0)] [] W = some (.inr 1, (W.1 + 1, W.2.1 + 6, W.2.2)) := by
  rw [q_X11_checkArgument_0, e_0]
theorem c_cAr1 {W : zW} : ev_ G 15 0 [.int (zJ 1)] [] W = some (.inl none, W) := by
  rw [q_X11_checkArgument_0, if_neg (by decide)]
theorem c_cSt0 {W : zW} : ev_ G 17 0 [.int (zJ 0)] [] W = some (.inr 2, (W.1 + 1, W.2.1 + 6, W.2.2)) := by
  rw [q_X11_checkState_0, e_0]
theorem c_cSt1 {W : zW} : ev_ G 17 0 [.int (zJ 1)] [] W = some (.inl none, W) := by
  rw [q_X11_checkState_0, if_neg (by decide)]
theorem c_max {a b : Int} {W : zW} (ha : -2147483648 ≤ a) (ha' : a < 2147483648) (hb : -2147483648 ≤ b) (hb' : b < 2147483648) : ev_ G 19 0 [.int (zJ a), .int (zJ b)] [] W = some (.inl (some (.int (zJ (max a b)))), W) := by
  rw [q_J9_max_7cf53_0]
  simp (disch := first | assumption | omega) only [zJ_lt, zJ_le, zJ_eq]
  by_cases h : a < b
  · rw [if_pos h, show max a b = b by omega]
  · rw [if_neg h, show max a b = a by omega]
theorem c_min {a b : Int} {W : zW} (ha : -2147483648 ≤ a) (ha' : a < 2147483648) (hb : -2147483648 ≤ b) (hb' : b < 2147483648) : ev_ G 21 0 [.int (zJ a), .int (zJ b)] [] W = some (.inl (some (.int (zJ (min a b)))), W) := by
  rw [q_J9_min_7cf53_0]
  simp (disch := first | assumption | omega) only [zJ_lt, zJ_le, zJ_eq]
  by_cases h : b < a
  · rw [if_pos h, show min a b = b by omega]
  · rw [if_neg h, show min a b = a by omega]
-- what stands from the beginning on
def wF (Y : zLy) : Prop := wI Y ∧ wV Y 13 0 ∧ wV Y 5 0 ∧ wV Y 6 0 ∧ wV Y 7 0 ∧ wV Y 8 0 ∧ (∀ r : Int, 0 ≤ r → r < 9 → wV Y 10 r ∧ wV Y 15 r) ∧ (∀ l : Int, 0 ≤ l → l < 5 → wLs Y l) ∧ (∀ i : Int, 0 ≤ i → i < Y.2.2.2.2 0 0 → wV Y 3 i) ∧ (∀ i : Int, 0 ≤ i → i < Y.2.2.2.2 0 1 → wV Y 4 i) ∧ (∀ i : Int, 0 ≤ i → i < Y.2.2.2.2 0 2 → wV Y 12 i ∧ wLs Y (5 + i)) ∧ (∀ i : Int, 0 ≤ i → i < Y.2.2.2.2 0 3 → wV Y 9 i) ∧ (∀ i : Int, 0 ≤ i → i < Y.2.2.2.2 0 4 → wV Y 2 i ∧ wLs Y (29 + i) ∧ Y.2.2.2.2 0 (29 + i) = 8 ∧ wV Y 10 (9 + i) ∧ wV Y 15 (9 + i)) ∧ (∀ i : Int, 0 ≤ i → i < 8 * Y.2.2.2.2 0 4 → wV Y 11 i)
theorem c_connectorAt {p : Int} (hF : wF Y) (hp : 0 ≤ p) (hp' : p < Y.2.2.2.2 0 1) : ev_ G 45 0 [.ref (wA Y 13 0), .int (zJ p)] [] (wd Y n s X) = some (.inl (some (.ref (wA Y 4 p))), wd Y n s X) := by
  obtain ⟨hI, h13, h5, h6, h7, h8, hr, hl, hb, hc, hw, hre, hbo, hs⟩ := hF
  have hl1 := hl 1 (by decide) (by decide)
  have h1 := hl1.1
  have h0 := hl1.2
  rw [q_X11_connectorAt_0]
  simp (disch := first | assumption | omega) only [g13_0, g13_4, g13_5, g6_1, g6_2, t_I, t_Ie, t_R, t_Re, t_N, t_Nn, t_V, t_Ve, t_b, t_x, t_w, e_0, e_1, e_2, e_3, k1, c_size, c_isIndex]
  rw [zB_1 ⟨hp, hp'⟩, e_1]
  simp (disch := first | assumption | omega) only [g13_0, g13_4, g13_5, g6_1, g6_2, t_I, t_Ie, t_R, t_Re, t_N, t_Nn, t_V, t_Ve, t_b, t_x, t_w, e_0, e_1, e_2, e_3, k1, c_get]
  have hv := hc p hp hp'
  have he : wel Y 1 p = wA Y 4 p := by unfold wel; simp only [show ¬(1 : Int) = 0 by decide, show ¬(1 : Int) = 1 ∨ True by simp, if_true, if_false, reduceCtorEq, Int.reduceEq]
  rw [he, k4 hv]
theorem c_connectorAt_no {p : Int} (hF : wF Y) (hq : -2147483648 ≤ p) (hq' : p < 2147483648) (hp : ¬(0 ≤ p ∧ p < Y.2.2.2.2 0 1)) : ev_ G 45 0 [.ref (wA Y 13 0), .int (zJ p)] [] (wd Y n s X) = some (.inr 0, wd Y (n + 1) (s + 6) X) := by
  obtain ⟨hI, h13, h5, h6, h7, h8, hr, hl, hb, hc, hw, hre, hbo, hs⟩ := hF
  have hl1 := hl 1 (by decide) (by decide)
  have h1 := hl1.1
  have h0 := hl1.2
  rw [q_X11_connectorAt_0]
  simp (disch := first | assumption | omega) only [g13_0, g13_4, g13_5, g6_1, g6_2, t_I, t_Ie, t_R, t_Re, t_N, t_Nn, t_V, t_Ve, t_b, t_x, t_w, e_0, e_1, e_2, e_3, k1, c_size, c_isIndex]
  rw [zB_0 hp, e_0]
theorem c_wireAt {p : Int} (hF : wF Y) (hp : 0 ≤ p) (hp' : p < Y.2.2.2.2 0 2) : ev_ G 76 0 [.ref (wA Y 13 0), .int (zJ p)] [] (wd Y n s X) = some (.inl (some (.ref (wA Y 12 p))), wd Y n s X) := by
  obtain ⟨hI, h13, h5, h6, h7, h8, hr, hl, hb, hc, hw, hre, hbo, hs⟩ := hF
  have hl1 := hl 2 (by decide) (by decide)
  have h1 := hl1.1
  have h0 := hl1.2
  rw [q_X11_wireAt_0]
  simp (disch := first | assumption | omega) only [g13_0, g13_4, g13_5, g6_1, g6_2, t_I, t_Ie, t_R, t_Re, t_N, t_Nn, t_V, t_Ve, t_b, t_x, t_w, e_0, e_1, e_2, e_3, k1, c_size, c_isIndex]
  rw [zB_1 ⟨hp, hp'⟩, e_1]
  simp (disch := first | assumption | omega) only [g13_0, g13_4, g13_5, g6_1, g6_2, t_I, t_Ie, t_R, t_Re, t_N, t_Nn, t_V, t_Ve, t_b, t_x, t_w, e_0, e_1, e_2, e_3, k1, c_get]
  have hv := (hw p hp hp').1
  have he : wel Y 2 p = wA Y 12 p := by unfold wel; simp only [show ¬(2 : Int) = 0 by decide, show ¬(2 : Int) = 1 ∨ True by simp, if_true, if_false, reduceCtorEq, Int.reduceEq]
  rw [he, k12 hv]
theorem c_wireAt_no {p : Int} (hF : wF Y) (hq : -2147483648 ≤ p) (hq' : p < 2147483648) (hp : ¬(0 ≤ p ∧ p < Y.2.2.2.2 0 2)) : ev_ G 76 0 [.ref (wA Y 13 0), .int (zJ p)] [] (wd Y n s X) = some (.inr 0, wd Y (n + 1) (s + 6) X) := by
  obtain ⟨hI, h13, h5, h6, h7, h8, hr, hl, hb, hc, hw, hre, hbo, hs⟩ := hF
  have hl1 := hl 2 (by decide) (by decide)
  have h1 := hl1.1
  have h0 := hl1.2
  rw [q_X11_wireAt_0]
  simp (disch := first | assumption | omega) only [g13_0, g13_4, g13_5, g6_1, g6_2, t_I, t_Ie, t_R, t_Re, t_N, t_Nn, t_V, t_Ve, t_b, t_x, t_w, e_0, e_1, e_2, e_3, k1, c_size, c_isIndex]
  rw [zB_0 hp, e_0]
theorem c_reelAt {p : Int} (hF : wF Y) (hp : 0 ≤ p) (hp' : p < Y.2.2.2.2 0 3) : ev_ G 130 0 [.ref (wA Y 13 0), .int (zJ p)] [] (wd Y n s X) = some (.inl (some (.ref (wA Y 9 p))), wd Y n s X) := by
  obtain ⟨hI, h13, h5, h6, h7, h8, hr, hl, hb, hc, hw, hre, hbo, hs⟩ := hF
  have hl1 := hl 3 (by decide) (by decide)
  have h1 := hl1.1
  have h0 := hl1.2
  rw [q_X11_reelAt_0]
  simp (disch := first | assumption | omega) only [g13_0, g13_4, g13_5, g6_1, g6_2, t_I, t_Ie, t_R, t_Re, t_N, t_Nn, t_V, t_Ve, t_b, t_x, t_w, e_0, e_1, e_2, e_3, k1, c_size, c_isIndex]
  rw [zB_1 ⟨hp, hp'⟩, e_1]
  simp (disch := first | assumption | omega) only [g13_0, g13_4, g13_5, g6_1, g6_2, t_I, t_Ie, t_R, t_Re, t_N, t_Nn, t_V, t_Ve, t_b, t_x, t_w, e_0, e_1, e_2, e_3, k1, c_get]
  have hv := hre p hp hp'
  have he : wel Y 3 p = wA Y 9 p := by unfold wel; simp only [show ¬(3 : Int) = 0 by decide, show ¬(3 : Int) = 1 ∨ True by simp, if_true, if_false, reduceCtorEq, Int.reduceEq]
  rw [he, k9 hv]
theorem c_reelAt_no {p : Int} (hF : wF Y) (hq : -2147483648 ≤ p) (hq' : p < 2147483648) (hp : ¬(0 ≤ p ∧ p < Y.2.2.2.2 0 3)) : ev_ G 130 0 [.ref (wA Y 13 0), .int (zJ p)] [] (wd Y n s X) = some (.inr 0, wd Y (n + 1) (s + 6) X) := by
  obtain ⟨hI, h13, h5, h6, h7, h8, hr, hl, hb, hc, hw, hre, hbo, hs⟩ := hF
  have hl1 := hl 3 (by decide) (by decide)
  have h1 := hl1.1
  have h0 := hl1.2
  rw [q_X11_reelAt_0]
  simp (disch := first | assumption | omega) only [g13_0, g13_4, g13_5, g6_1, g6_2, t_I, t_Ie, t_R, t_Re, t_N, t_Nn, t_V, t_Ve, t_b, t_x, t_w, e_0, e_1, e_2, e_3, k1, c_size, c_isIndex]
  rw [zB_0 hp, e_0]
theorem c_boardAt {p : Int} (hF : wF Y) (hp : 0 ≤ p) (hp' : p < Y.2.2.2.2 0 4) : ev_ G 146 0 [.ref (wA Y 13 0), .int (zJ p)] [] (wd Y n s X) = some (.inl (some (.ref (wA Y 2 p))), wd Y n s X) := by
  obtain ⟨hI, h13, h5, h6, h7, h8, hr, hl, hb, hc, hw, hre, hbo, hs⟩ := hF
  have hl1 := hl 4 (by decide) (by decide)
  have h1 := hl1.1
  have h0 := hl1.2
  rw [q_X11_boardAt_0]
  simp (disch := first | assumption | omega) only [g13_0, g13_4, g13_5, g6_1, g6_2, t_I, t_Ie, t_R, t_Re, t_N, t_Nn, t_V, t_Ve, t_b, t_x, t_w, e_0, e_1, e_2, e_3, k1, c_size, c_isIndex]
  rw [zB_1 ⟨hp, hp'⟩, e_1]
  simp (disch := first | assumption | omega) only [g13_0, g13_4, g13_5, g6_1, g6_2, t_I, t_Ie, t_R, t_Re, t_N, t_Nn, t_V, t_Ve, t_b, t_x, t_w, e_0, e_1, e_2, e_3, k1, c_get]
  have hv := (hbo p hp hp').1
  have he : wel Y 4 p = wA Y 2 p := by unfold wel; simp only [show ¬(4 : Int) = 0 by decide, show ¬(4 : Int) = 1 ∨ True by simp, if_true, if_false, reduceCtorEq, Int.reduceEq]
  rw [he, k2 hv]
theorem c_boardAt_no {p : Int} (hF : wF Y) (hq : -2147483648 ≤ p) (hq' : p < 2147483648) (hp : ¬(0 ≤ p ∧ p < Y.2.2.2.2 0 4)) : ev_ G 146 0 [.ref (wA Y 13 0), .int (zJ p)] [] (wd Y n s X) = some (.inr 0, wd Y (n + 1) (s + 6) X) := by
  obtain ⟨hI, h13, h5, h6, h7, h8, hr, hl, hb, hc, hw, hre, hbo, hs⟩ := hF
  have hl1 := hl 4 (by decide) (by decide)
  have h1 := hl1.1
  have h0 := hl1.2
  rw [q_X11_boardAt_0]
  simp (disch := first | assumption | omega) only [g13_0, g13_4, g13_5, g6_1, g6_2, t_I, t_Ie, t_R, t_Re, t_N, t_Nn, t_V, t_Ve, t_b, t_x, t_w, e_0, e_1, e_2, e_3, k1, c_size, c_isIndex]
  rw [zB_0 hp, e_0]
end ZM
