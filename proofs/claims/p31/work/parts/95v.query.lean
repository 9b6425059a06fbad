/-! THE LAW: what the class tells without a change -/
section ZQ
variable {Y : zLy} {n s : Nat} {X : zX} {G : Nat × Nat} {t p q r : Int}
theorem qc_weight (hY : wY Y n) (hI : iAll t Y.2.2.2.2 X) (g1 : 0 ≤ p ∧ p ≤ 255) : ev_ G 89 0 [.ref (wA Y 13 0), .int (zJ p)] [] (wd Y n s X) = some (.inl (some (.int (zJ (zsm (zwt X p) 0 (Y.2.2.2.2 0 2).toNat)))), wd Y n s X) := by
  have hF := wY_F hY
  have h13 := hF.2.1
  have hIw := hF.1
  obtain ⟨hn, hn4⟩ := wY_n hY
  obtain ⟨h1, h2, h3, h4, h5, h6, h7, h8, h9, h10, h11, h12⟩ := id hI
  have h6' := hF.2.2.2.1
  have hr : ∀ w, 0 ≤ w → w < Y.2.2.2.2 0 2 → 0 ≤ X 246 w ∧ X 246 w ≤ 1 := fun w a b => by
    rw [(h4.2.2.2 w a b).1.1]
    exact h4.2.1 w a (by omega)
  have hw := c_weight (G := G) (n := n) (s := s) (X := X) (o := p) hF hr
  simp (disch := first | assumption | omega) only [q_X11_weight_0, c_isWithin, ↓reduceIte, zB_T, zB_F, zB_if, ite_not, z_10, z_00, i_10, i_00, if_true, if_false, c_cIx0, c_cIx1, c_cAr0, c_cAr1, c_cSt0, c_cSt1, l_0, l_1, l_2, l_3, l_4, l_5, l_6, l_7, l_8, l_9, l_10, l_12, l_16, l_24, l_31, l_32, l_48, l_96, l_99, l_100, l_150, l_180, l_200, l_240, l_255, l_260, l_384, l_400, l_999, l_5000, l_9999, l_1000000, l_1000000000, t_I, t_Ie, t_R, t_Re, t_N, t_Nn, t_V, t_Ve, t_b, t_x, t_w, e_0, e_1, e_2, e_3, zJ_lt, zJ_le, zJ_eq, g1, and_self, g13_0, k6 h6', hw]
theorem qc_crimps (hY : wY Y n) (hI : iAll t Y.2.2.2.2 X) (ht : t < 1000) (g1 : 0 ≤ p ∧ p ≤ 2) : ev_ G 123 0 [.ref (wA Y 13 0), .int (zJ p)] [] (wd Y n s X) = some (.inl (some (.int (zJ (if p = 0 then X 100 0 else if p = 1 then X 101 0 else zwin X)))), wd Y n s X) := by
  have hF := wY_F hY
  have h13 := hF.2.1
  have hIw := hF.1
  obtain ⟨hn, hn4⟩ := wY_n hY
  obtain ⟨h1, h2, h3, h4, h5, h6, h7, h8, h9, h10, h11, h12⟩ := id hI
  have h5' := hF.2.2.1
  obtain ⟨w1, w2, w3⟩ := zwin_e h7
  have z7 := h7
  unfold iD at z7
  obtain ⟨d1, d2, d3, d4, d5, d6⟩ := z7
  have hw := c_window (G := G) (n := n) (s := s) (X := X) hF (by omega) (by omega) (by omega)
  by_cases q0 : p = 0
  · subst q0
    simp (disch := first | assumption | omega) only [q_X11_crimps_0, c_isWithin, ↓reduceIte, zB_T, zB_F, zB_if, ite_not, z_10, z_00, i_10, i_00, if_true, if_false, c_cIx0, c_cIx1, c_cAr0, c_cAr1, c_cSt0, c_cSt1, l_0, l_1, l_2, l_3, l_4, l_5, l_6, l_7, l_8, l_9, l_10, l_12, l_16, l_24, l_31, l_32, l_48, l_96, l_99, l_100, l_150, l_180, l_200, l_240, l_255, l_260, l_384, l_400, l_999, l_5000, l_9999, l_1000000, l_1000000000, t_I, t_Ie, t_R, t_Re, t_N, t_Nn, t_V, t_Ve, t_b, t_x, t_w, e_0, e_1, e_2, e_3, zJ_lt, zJ_le, zJ_eq, g1, and_self, g13_2, g5_0]
  · by_cases q1 : p = 1
    · subst q1
      simp (disch := first | assumption | omega) only [q_X11_crimps_0, c_isWithin, ↓reduceIte, zB_T, zB_F, zB_if, ite_not, z_10, z_00, i_10, i_00, if_true, if_false, c_cIx0, c_cIx1, c_cAr0, c_cAr1, c_cSt0, c_cSt1, l_0, l_1, l_2, l_3, l_4, l_5, l_6, l_7, l_8, l_9, l_10, l_12, l_16, l_24, l_31, l_32, l_48, l_96, l_99, l_100, l_150, l_180, l_200, l_240, l_255, l_260, l_384, l_400, l_999, l_5000, l_9999, l_1000000, l_1000000000, t_I, t_Ie, t_R, t_Re, t_N, t_Nn, t_V, t_Ve, t_b, t_x, t_w, e_0, e_1, e_2, e_3, zJ_lt, zJ_le, zJ_eq, g1, and_self, g13_2, g5_1]
    · simp (disch := first | assumption | omega) only [q_X11_crimps_0, c_isWithin, ↓reduceIte, zB_T, zB_F, zB_if, ite_not, z_10, z_00, i_10, i_00, if_true, if_false, c_cIx0, c_cIx1, c_cAr0, c_cAr1, c_cSt0, c_cSt1, l_0, l_1, l_2, l_3, l_4, l_5, l_6, l_7, l_8, l_9, l_10, l_12, l_16, l_24, l_31, l_32, l_48, l_96, l_99, l_100, l_150, l_180, l_200, l_240, l_255, l_260, l_384, l_400, l_999, l_5000, l_9999, l_1000000, l_1000000000, t_I, t_Ie, t_R, t_Re, t_N, t_Nn, t_V, t_Ve, t_b, t_x, t_w, e_0, e_1, e_2, e_3, zJ_lt, zJ_le, zJ_eq, g1, and_self, g13_2, k5 h5', hw, q0, q1]
theorem qc_ofReel (hY : wY Y n) (hI : iAll t Y.2.2.2.2 X) (g1 : 0 ≤ p ∧ p < Y.2.2.2.2 0 3) (g2 : 0 ≤ q ∧ q ≤ 2) : ev_ G 138 0 [.ref (wA Y 13 0), .int (zJ p), .int (zJ q), zU] [] (wd Y n s X) = some (.inl (some (.int (zJ (if q = 0 then X 180 p else if q = 1 then X 182 p else zclk (X 183 p) (X 181 p) (X 184 p) (X 267 0))))), wd Y n s X) := by
  have hF := wY_F hY
  have h13 := hF.2.1
  have hIw := hF.1
  obtain ⟨hn, hn4⟩ := wY_n hY
  obtain ⟨h1, h2, h3, h4, h5, h6, h7, h8, h9, h10, h11, h12⟩ := id hI
  obtain ⟨r1, r2, r3⟩ := id h8
  have z9 := h9
  unfold iM at z9
  have hQ3 := hY.2.2.2.2.1
  have hV9 : wV Y 9 p := hF.2.2.2.2.2.2.2.2.2.2.2.1 p g1.1 g1.2
  obtain ⟨a1, a2, a3, a4, a5, a6⟩ := r3 p g1.1 g1.2
  obtain ⟨b1, b2, b3, b4⟩ := r2 p g1.1 (by omega)
  have hat := c_reelAt (G := G) (n := n) (s := s) (X := X) hF g1.1 g1.2
  have hck := c_clockAt (G := G) (n := n) (s := s) (X := X) (j := X 267 0) hV9 (by omega) (by omega) a4 (by omega)
  by_cases q0 : q = 0
  · subst q0
    simp (disch := first | assumption | omega) only [q_X11_ofReel_0, k13 h13, hat, c_isWithin, ↓reduceIte, zB_T, zB_F, zB_if, ite_not, z_10, z_00, i_10, i_00, if_true, if_false, c_cIx0, c_cIx1, c_cAr0, c_cAr1, c_cSt0, c_cSt1, l_0, l_1, l_2, l_3, l_4, l_5, l_6, l_7, l_8, l_9, l_10, l_12, l_16, l_24, l_31, l_32, l_48, l_96, l_99, l_100, l_150, l_180, l_200, l_240, l_255, l_260, l_384, l_400, l_999, l_5000, l_9999, l_1000000, l_1000000000, t_I, t_Ie, t_R, t_Re, t_N, t_Nn, t_V, t_Ve, t_b, t_x, t_w, e_0, e_1, e_2, e_3, zJ_lt, zJ_le, zJ_eq, g2, and_self, g9_0]
  · by_cases q1 : q = 1
    · subst q1
      simp (disch := first | assumption | omega) only [q_X11_ofReel_0, k13 h13, hat, c_isWithin, ↓reduceIte, zB_T, zB_F, zB_if, ite_not, z_10, z_00, i_10, i_00, if_true, if_false, c_cIx0, c_cIx1, c_cAr0, c_cAr1, c_cSt0, c_cSt1, l_0, l_1, l_2, l_3, l_4, l_5, l_6, l_7, l_8, l_9, l_10, l_12, l_16, l_24, l_31, l_32, l_48, l_96, l_99, l_100, l_150, l_180, l_200, l_240, l_255, l_260, l_384, l_400, l_999, l_5000, l_9999, l_1000000, l_1000000000, t_I, t_Ie, t_R, t_Re, t_N, t_Nn, t_V, t_Ve, t_b, t_x, t_w, e_0, e_1, e_2, e_3, zJ_lt, zJ_le, zJ_eq, g2, and_self, g9_2]
    · simp (disch := first | assumption | omega) only [q_X11_ofReel_0, k13 h13, hat, c_isWithin, ↓reduceIte, zB_T, zB_F, zB_if, ite_not, z_10, z_00, i_10, i_00, if_true, if_false, c_cIx0, c_cIx1, c_cAr0, c_cAr1, c_cSt0, c_cSt1, l_0, l_1, l_2, l_3, l_4, l_5, l_6, l_7, l_8, l_9, l_10, l_12, l_16, l_24, l_31, l_32, l_48, l_96, l_99, l_100, l_150, l_180, l_200, l_240, l_255, l_260, l_384, l_400, l_999, l_5000, l_9999, l_1000000, l_1000000000, t_I, t_Ie, t_R, t_Re, t_N, t_Nn, t_V, t_Ve, t_b, t_x, t_w, e_0, e_1, e_2, e_3, zJ_lt, zJ_le, zJ_eq, g2, and_self, g13_7, k9 hV9, hck, q0, q1]
theorem qc_ofReel_no (hY : wY Y n) (hp : -2147483648 ≤ p ∧ p < 2147483648) (g1 : ¬(0 ≤ p ∧ p < Y.2.2.2.2 0 3)) : ev_ G 138 0 [.ref (wA Y 13 0), .int (zJ p), .int (zJ q), zU] [] (wd Y n s X) = some (.inr 0, wd Y (n + 1) (s + 6) X) := by
  have hF := wY_F hY
  have h13 := hF.2.1
  simp (disch := first | assumption | omega) only [q_X11_ofReel_0, k13 h13, c_reelAt_no hF hp.1 hp.2 g1, t_I, t_Ie, t_R, t_Re, t_N, t_Nn, t_V, t_Ve, t_b, t_x, t_w, e_0, e_1, e_2, e_3]
theorem qc_recall (hY : wY Y n) (hI : iAll t Y.2.2.2.2 X) (g1 : 0 ≤ p ∧ p < Y.2.2.2.2 0 3) : ev_ G 202 0 [.ref (wA Y 13 0), .int (zJ p), zU, zU, zU] [] (wd Y n s X) = some (.inl (some (.int (zJ (zsm (fun b => zB (X 1037 b ≠ 0 ∧ 0 < zsm (fun m => zB (X 1038 m = p)) (8 * b) 8)) 0 (Y.2.2.2.2 0 4).toNat)))), wd Y n s X) := by
  have hF := wY_F hY
  have h13 := hF.2.1
  have hIw := hF.1
  obtain ⟨hn, hn4⟩ := wY_n hY
  obtain ⟨h1, h2, h3, h4, h5, h6, h7, h8, h9, h10, h11, h12⟩ := id hI
  have hQ4 := hY.2.2.2.2.2.1
  have hQ3 := hY.2.2.2.2.1
  have hl3 := hF.2.2.2.2.2.2.2.1 3 (by decide) (by decide)
  have hm := iS_m h12
  have h6b := h12.2.2.2.2.2
  have hrc := c_recallR (G := G) (n := n) (s := s) (X := X) (r := p) hF (fun k k0 k1 => by
      have d := (h6b (k / 8) (by omega) (by omega)).2.2 k (by omega) (by omega)
      rw [d.1.1]
      have := hm.2.1 k k0 (by omega)
      omega) ⟨g1.1, by omega⟩ (fun b b0 b1 => by
      rw [(h6b b b0 b1).1.2.2]
      exact (hm.1 b b0 (by omega)).2) (Y.2.2.2.2 0 4).toNat 0 0 zU (by decide) (by omega)
  have heq : zsm (fun b => zB (X 42 b ≠ 0 ∧ 0 < zsm (fun m => zB (X 221 (8 * b + m) = p)) 0 8)) 0 (Y.2.2.2.2 0 4).toNat = zsm (fun b => zB (X 1037 b ≠ 0 ∧ 0 < zsm (fun m => zB (X 1038 m = p)) (8 * b) 8)) 0 (Y.2.2.2.2 0 4).toNat := zsm_congr _ _ (fun b b0 b1 => by
      obtain ⟨d1, d2, d3⟩ := h6b b b0 (by omega)
      have e : zsm (fun m => zB (X 221 (8 * b + m) = p)) 0 8 = zsm (fun m => zB (X 1038 m = p)) (8 * b) 8 := by
        rw [zsm_sh (f := fun m => zB (X 221 m = p)), Int.add_zero]
        exact zsm_congr _ _ (fun j j0 j1 => by
          show zB (X 221 j = p) = zB (X 1038 j = p)
          have := (d3 j j0 (by omega)).1.1
          unfold zB
          rw [this])
      show zB (X 42 b ≠ 0 ∧ 0 < zsm (fun m => zB (X 221 (8 * b + m) = p)) 0 8) = zB (X 1037 b ≠ 0 ∧ 0 < zsm (fun m => zB (X 1038 m = p)) (8 * b) 8)
      simp only [e, d1.2.2])
  rw [heq, Int.zero_add] at hrc
  rw [q_X11_recall_0, g13_4 h13, t_b, k1 hl3.1, c_size hl3, t_I, c_isIndex (by omega) (by omega) (by omega) (by omega), t_I, zB_1 g1, c_cIx1, t_V, l_0]
  exact hrc
theorem qc_ofSlot (hY : wY Y n) (hI : iAll t Y.2.2.2.2 X) (g1 : 0 ≤ p ∧ p < Y.2.2.2.2 0 4) (g2 : 0 ≤ q ∧ q < 8) (g3 : 0 ≤ r ∧ r ≤ 3) : ev_ G 195 0 [.ref (wA Y 13 0), .int (zJ p), .int (zJ q), .int (zJ r), zU] [] (wd Y n s X) = some (.inl (some (.int (zJ (if r = 0 then X 1038 (8 * p + q) else if r = 1 then X 1039 (8 * p + q) else if r = 2 then (if X 1042 (8 * p + q) = 0 then 0 else X 1041 (8 * p + q)) else if X 1043 (8 * p + q) = 0 then 0 else 1)))), wd Y n s X) := by
  have hF := wY_F hY
  have h13 := hF.2.1
  have hIw := hF.1
  obtain ⟨hn, hn4⟩ := wY_n hY
  obtain ⟨h1, h2, h3, h4, h5, h6, h7, h8, h9, h10, h11, h12⟩ := id hI
  have hQ4 := hY.2.2.2.2.2.1
  have hV2 : wV Y 2 p := (wF_B hF g1.1 g1.2).1
  have hat := c_boardAt (G := G) (n := n) (s := s) (X := X) hF g1.1 g1.2
  have hsl := c_slotAt (G := G) (n := n) (s := s) (X := X) hF g1.1 g1.2 g2.1 g2.2
  have hV11 : wV Y 11 (8 * p + q) := hF.2.2.2.2.2.2.2.2.2.2.2.2.2 _ (by omega) (by omega)
  obtain ⟨e1, e2, e3⟩ := h12.2.2.2.2.2 p g1.1 g1.2
  obtain ⟨a1, a2, a3, a4, a5, a6, a7⟩ := e3 (8 * p + q) (by omega) (by omega)
  have b4 := h12.2.2.2.1 (8 * p + q) (by omega) (by omega)
  rw [q_X11_ofSlot_0, k13 h13, hat, t_R, k2 hV2, hsl, t_R]
  simp (disch := first | assumption | omega) only [c_isWithin, ↓reduceIte, zB_T, zB_F, zB_if, ite_not, z_10, z_00, i_10, i_00, if_true, if_false, c_cIx0, c_cIx1, c_cAr0, c_cAr1, c_cSt0, c_cSt1, l_0, l_1, l_2, l_3, l_4, l_5, l_6, l_7, l_8, l_9, l_10, l_12, l_16, l_24, l_31, l_32, l_48, l_96, l_99, l_100, l_150, l_180, l_200, l_240, l_255, l_260, l_384, l_400, l_999, l_5000, l_9999, l_1000000, l_1000000000, t_I, t_Ie, t_R, t_Re, t_N, t_Nn, t_V, t_Ve, t_b, t_x, t_w, e_0, e_1, e_2, e_3, zJ_lt, zJ_le, zJ_eq, g3, and_self, g11_1, g11_2, g11_3, g11_4, g11_5, a1]
  all_goals first | rfl | omega | ((repeat' split) <;> first | rfl | omega | (exfalso; omega) | contradiction)
theorem qc_ofSlot_no (hY : wY Y n) (hp : -2147483648 ≤ p ∧ p < 2147483648) (g1 : ¬(0 ≤ p ∧ p < Y.2.2.2.2 0 4)) : ev_ G 195 0 [.ref (wA Y 13 0), .int (zJ p), .int (zJ q), .int (zJ r), zU] [] (wd Y n s X) = some (.inr 0, wd Y (n + 1) (s + 6) X) := by
  have hF := wY_F hY
  have h13 := hF.2.1
  rw [q_X11_ofSlot_0, k13 h13, c_boardAt_no hF hp.1 hp.2 g1, t_Re, t_x]
theorem qc_jointAnew (hY : wY Y n) (hI : iAll t Y.2.2.2.2 X) (g1 : 0 ≤ p ∧ p < Y.2.2.2.2 0 4) (g2 : 0 ≤ q ∧ q < 8) : ev_ G 198 0 [.ref (wA Y 13 0), .int (zJ p), .int (zJ q), zU, zU] [] (wd Y n s X) = some (.inl (some (.int (zJ (X 1040 (8 * p + q))))), wd Y n s X) := by
  have hF := wY_F hY
  have h13 := hF.2.1
  have hIw := hF.1
  obtain ⟨hn, hn4⟩ := wY_n hY
  obtain ⟨h1, h2, h3, h4, h5, h6, h7, h8, h9, h10, h11, h12⟩ := id hI
  have hQ4 := hY.2.2.2.2.2.1
  have hQ3 := hY.2.2.2.2.1
  have hB := wF_B hF g1.1 g1.2
  have hV2 : wV Y 2 p := hB.1
  have hat := c_boardAt (G := G) (n := n) (s := s) (X := X) hF g1.1 g1.2
  have hsl := c_slotAt (G := G) (n := n) (s := s) (X := X) hF g1.1 g1.2 g2.1 g2.2
  have hV11 : wV Y 11 (8 * p + q) := hF.2.2.2.2.2.2.2.2.2.2.2.2.2 _ (by omega) (by omega)
  obtain ⟨e1, e2, e3⟩ := h12.2.2.2.2.2 p g1.1 g1.2
  obtain ⟨a1, a2, a3, a4, a5, a6, a7⟩ := e3 (8 * p + q) (by omega) (by omega)
  have b2 := h12.2.1 p g1.1 (by omega)
  have hpt := iS_p h8 h12 hQ4.2 hQ3.2 g1 (show 8 * p ≤ 8 * p + q ∧ 8 * p + q < 8 * p + 8 by omega)
  have hhp := c_hasPart (G := G) (n := n) (s := s) (X := X) hV11 hpt.1
  have hpk := c_peak (G := G) (n := n) (s := s) (X := X) hB g1.1 (by omega) (fun k k0 k1 => (iS_p h8 h12 hQ4.2 hQ3.2 g1 (show 8 * p ≤ 8 * p + k ∧ 8 * p + k < 8 * p + 8 by omega)).1) (fun z z0 z1 => by have := e2 z z0 z1; omega)
  have hpr : 0 ≤ zpeak X p ∧ zpeak X p ≤ 1000 := zpeak_r (fun z z0 z1 => by have := e2 z z0 z1; omega)
  have hjf := c_jointFor (G := G) (n := n) (s := s) (X := X) (p := zpeak X p) hV11 (by omega) (by omega) (by omega)
  rw [q_X11_jointAnew_0, k13 h13, hat, t_R, k2 hV2, hsl, t_R, a5]
  by_cases k1 : X 1035 p = 0
  · simp (disch := first | assumption | omega) only [g2_0, e1.1, k1, ↓reduceIte, zB_T, zB_F, zB_if, ite_not, z_10, z_00, i_10, i_00, if_true, if_false, c_cIx0, c_cIx1, c_cAr0, c_cAr1, c_cSt0, c_cSt1, l_0, l_1, l_2, l_3, l_4, l_5, l_6, l_7, l_8, l_9, l_10, l_12, l_16, l_24, l_31, l_32, l_48, l_96, l_99, l_100, l_150, l_180, l_200, l_240, l_255, l_260, l_384, l_400, l_999, l_5000, l_9999, l_1000000, l_1000000000, t_I, t_Ie, t_R, t_Re, t_N, t_Nn, t_V, t_Ve, t_b, t_x, t_w, e_0, e_1, e_2, e_3, zJ_lt, zJ_le, zJ_eq, zJ_add, zJ_sub, zJ_mul, zJ_neg, true_or]
  · by_cases k2' : X 220 (8 * p + q) = -1
    · have k3 := hpt.2.mp k2'
      simp (disch := first | assumption | omega) only [g2_0, e1.1, k1, k3, k2', ↓reduceIte, zB_T, zB_F, zB_if, ite_not, z_10, z_00, i_10, i_00, if_true, if_false, c_cIx0, c_cIx1, c_cAr0, c_cAr1, c_cSt0, c_cSt1, l_0, l_1, l_2, l_3, l_4, l_5, l_6, l_7, l_8, l_9, l_10, l_12, l_16, l_24, l_31, l_32, l_48, l_96, l_99, l_100, l_150, l_180, l_200, l_240, l_255, l_260, l_384, l_400, l_999, l_5000, l_9999, l_1000000, l_1000000000, t_I, t_Ie, t_R, t_Re, t_N, t_Nn, t_V, t_Ve, t_b, t_x, t_w, e_0, e_1, e_2, e_3, zJ_lt, zJ_le, zJ_eq, zJ_add, zJ_sub, zJ_mul, zJ_neg, or_true, k11 hV11, hhp, ne_eq, not_true_eq_false]
    · have k3 : ¬X 1038 (8 * p + q) = -1 := fun g => k2' (hpt.2.mpr g)
      simp (disch := first | assumption | omega) only [g2_0, e1.1, k1, k3, k2', ↓reduceIte, zB_T, zB_F, zB_if, ite_not, z_10, z_00, i_10, i_00, if_true, if_false, c_cIx0, c_cIx1, c_cAr0, c_cAr1, c_cSt0, c_cSt1, l_0, l_1, l_2, l_3, l_4, l_5, l_6, l_7, l_8, l_9, l_10, l_12, l_16, l_24, l_31, l_32, l_48, l_96, l_99, l_100, l_150, l_180, l_200, l_240, l_255, l_260, l_384, l_400, l_999, l_5000, l_9999, l_1000000, l_1000000000, t_I, t_Ie, t_R, t_Re, t_N, t_Nn, t_V, t_Ve, t_b, t_x, t_w, e_0, e_1, e_2, e_3, zJ_lt, zJ_le, zJ_eq, zJ_add, zJ_sub, zJ_mul, zJ_neg, or_self, k11 hV11, k2 hV2, hhp, hpk, hjf, ne_eq, not_false_eq_true]
theorem qc_ofWire (hY : wY Y n) (hI : iAll t Y.2.2.2.2 X) (g1 : 0 ≤ p ∧ p < Y.2.2.2.2 0 2) (g2 : -1 ≤ q) (hq : -2147483648 ≤ q ∧ q < 2147483648) : ev_ G 85 0 [.ref (wA Y 13 0), .int (zJ p), .int (zJ q), zU] [] (wd Y n s X) = some (.inl (some (.int (zJ (if q = -1 then (if X 246 p = 0 then X 245 p else 0) else if X 1011 p = 0 ∧ q < X 1014 p then X 1015 (16 * p + q) else -1)))), wd Y n s X) := by
  have hF := wY_F hY
  have h13 := hF.2.1
  have hIw := hF.1
  obtain ⟨hn, hn4⟩ := wY_n hY
  obtain ⟨h1, h2, h3, h4, h5, h6, h7, h8, h9, h10, h11, h12⟩ := id hI
  have hQ2 := hY.2.2.2.1
  have hQ0 := hY.2.1
  obtain ⟨hV, hL⟩ := hF.2.2.2.2.2.2.2.2.2.2.1 p g1.1 g1.2
  have hat := c_wireAt (G := G) (n := n) (s := s) (X := X) hF g1.1 g1.2
  have hw1 := h4.2.2.2 p g1.1 g1.2
  obtain ⟨a1, a2, a3, a4, a5, a6⟩ := id hw1
  have hwo := h4.2.1 p g1.1 (by omega)
  have hg2 : ¬q < -1 := by omega
  have hs0 : ev_ G 85 0 [.ref (wA Y 13 0), .int (zJ p), .int (zJ q), zU] [] (wd Y n s X) = ev_ G 85 16 [.ref (wA Y 13 0), .int (zJ p), .int (zJ q), .ref (wA Y 12 p)] [.int (zJ 1)] (wd Y n s X) := by
    rw [q_X11_ofWire_0, k13 h13, hat, t_R, l_1, zJ_neg, if_neg (by rw [zJ_lt hq.1 hq.2 (by decide) (by decide)]; exact hg2)]
  have hba := c_bundleAt (G := G) (n := n) (s := s) (X := X) hF g1 hn hq (by omega) (fun j j0 j1 => by
      have := a5 j j0 j1
      exact ⟨this.2, (h1.2 _ this.2.1 this.2.2).1.1⟩)
  rw [hs0, q_X11_ofWire_16, c_cIx1, t_V, l_1, zJ_neg]
  by_cases k1 : q = -1
  · rw [if_pos (by rw [k1]), g12_6 hV, t_b, if_pos k1]
    by_cases k2' : X 246 p = 0
    · rw [k2', if_pos (show zJ 0 = 0 from rfl), g12_5 hV, t_b, if_pos rfl]
    · rw [if_neg (by rw [l_0, zJ_eq (by omega) (by omega) (by omega) (by omega)]; exact k2'), if_neg k2', l_0]
  · rw [if_neg (by rw [zJ_eq hq.1 hq.2 (by decide) (by decide)]; exact k1), g12_6 hV, t_b, if_neg k1]
    by_cases k2' : X 246 p = 0
    · rw [k2', if_pos (show zJ 0 = 0 from rfl), k12 hV, hba, t_I]
      by_cases k3' : q < Y.2.2.2.2 0 (5 + p)
      · rw [if_pos ⟨by omega, k3'⟩, if_pos ⟨by omega, by omega⟩, (a5 q (by omega) k3').1]
      · rw [if_neg (by omega), if_neg (by omega)]
    · rw [if_neg (by rw [l_0, zJ_eq (by omega) (by omega) (by omega) (by omega)]; exact k2'), if_neg (by omega)]
theorem qc_ofWire_no (hY : wY Y n) (hp : -2147483648 ≤ p ∧ p < 2147483648) (g1 : ¬(0 ≤ p ∧ p < Y.2.2.2.2 0 2)) : ev_ G 85 0 [.ref (wA Y 13 0), .int (zJ p), .int (zJ q), zU] [] (wd Y n s X) = some (.inr 0, wd Y (n + 1) (s + 6) X) := by
  have hF := wY_F hY
  have h13 := hF.2.1
  rw [q_X11_ofWire_0, k13 h13, c_wireAt_no hF hp.1 hp.2 g1, t_Re, t_x]
end ZQ
