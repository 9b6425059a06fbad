/-! THE TWO SIDES, 78: calls on both sides: place, test -/
section ZK
variable {Y : zLy} {n s : Nat} {X : zX} {G : Nat × Nat} {t p q r u : Int}
theorem k_place (hY : wY Y n) (hI : iAll t Y.2.2.2.2 X) (hp : -2147483648 ≤ p ∧ p < 2147483648) (hq : -2147483648 ≤ q ∧ q < 2147483648) (hr : -2147483648 ≤ r ∧ r < 2147483648) : zcal [(0, 1), (2, 2)] t Y n s X (fun W => ev_ G 151 0 [.ref (wA Y 13 0), .int (zJ p), .int (zJ q), .int (zJ r), zU, zU, zU] [] W) (dPlace X p q r) := by
  have hF := wY_F hY
  have h13 := hF.2.1
  have hIw := hF.1
  obtain ⟨hn, hn4⟩ := wY_n hY
  obtain ⟨h1, h2, h3, h4, h5, h6, h7, h8, h9, h10, h11, h12⟩ := id hI
  have hQ4 := hY.2.2.2.2.2.1
  have hQ3 := hY.2.2.2.2.1
  have hm := iS_m h12
  have hmr := iR_m h8
  obtain ⟨c1, c2, c3, c4, c5, c6⟩ := id h12
  obtain ⟨r1, r2, r3⟩ := id h8
  have z9 := h9
  unfold iM at z9
  by_cases g1 : 0 ≤ p ∧ p < Y.2.2.2.2 0 4
  · have hB := wF_B hF g1.1 g1.2
    have hV2 : wV Y 2 p := hB.1
    have hat := c_boardAt (G := G) (n := n) (s := s) (X := X) hF g1.1 g1.2
    obtain ⟨e1, e2, e3⟩ := c6 p g1.1 g1.2
    have b2 := c2 p g1.1 (by omega)
    by_cases g2 : 0 ≤ q ∧ q < 8
    · have hsl := c_slotAt (G := G) (n := n) (s := s) (X := X) hF g1.1 g1.2 g2.1 g2.2
      have hV11 : wV Y 11 (8 * p + q) := hF.2.2.2.2.2.2.2.2.2.2.2.2.2 _ (by omega) (by omega)
      obtain ⟨a1, a2, a3, a4, a5, a6, a7⟩ := e3 (8 * p + q) (by omega) (by omega)
      have b4 := c4 (8 * p + q) (by omega) (by omega)
      have hpt := iS_p h8 h12 hQ4.2 hQ3.2 g1 (show 8 * p ≤ 8 * p + q ∧ 8 * p + q < 8 * p + 8 by omega)
      have hhp := c_hasPart (G := G) (n := n) (s := s) (X := X) hV11 hpt.1
      by_cases g0 : 0 ≤ r ∧ r < Y.2.2.2.2 0 3
      · have hV9 : wV Y 9 r := hF.2.2.2.2.2.2.2.2.2.2.2.1 r g0.1 g0.2
        obtain ⟨d1, d2, d3, d4, d5, d6⟩ := r3 r g0.1 g0.2
        obtain ⟨f1, f2, f3, f4⟩ := r2 r g0.1 (by omega)
        have hrt := c_reelAt (G := G) (n := n) (s := s) (X := X) hF g0.1 g0.2
        have hgv := c_gives (G := G) (n := n) (s := s) (X := X) (j := X 267 0) hV9 (by omega) (by omega) d4 (by omega) (by omega)
        have hck : zclk (X 1029 r + 1) (X 1028 r) (X 1029 r) (X 424 0) = zclk (X 183 r) (X 181 r) (X 184 r) (X 267 0) := by
          rw [zclk_e d6 rfl d5.1, z9.1, ← d2]
        by_cases g3 : X 1035 p = 0 ∧ X 1038 (8 * p + q) = -1 ∧ (0 < X 182 r ∧ zclk (X 183 r) (X 181 r) (X 184 r) (X 267 0) ≠ -1)
        · obtain ⟨g31, g32, g33⟩ := id g3
          have g34 : X 220 (8 * p + q) = -1 := hpt.2.mpr g32
          have hst : ev_ G 151 0 [.ref (wA Y 13 0), .int (zJ p), .int (zJ q), .int (zJ r), zU, zU, zU] [] (wd Y n s X) = ev_ G 151 55 [.ref (wA Y 13 0), .int (zJ p), .int (zJ q), .int (zJ r), .ref (wA Y 2 p), .ref (wA Y 11 (8 * p + q)), .ref (wA Y 9 r)] [.int (zJ 1)] (wd Y n s X) := by
            rw [q_X11_place_0, k13 h13, hat, t_R, k2 hV2, hsl, t_R, k13 h13, hrt, t_R]
            simp (disch := first | assumption | omega) only [g2_0, e1, g31, ↓reduceIte, zB_T, zB_F, zB_if, ite_not, z_10, z_00, i_10, i_00, if_true, if_false, c_cIx0, c_cIx1, c_cAr0, c_cAr1, c_cSt0, c_cSt1, l_0, l_1, l_2, l_3, l_4, l_5, l_6, l_7, l_8, l_9, l_10, l_12, l_16, l_24, l_31, l_32, l_48, l_96, l_99, l_100, l_150, l_180, l_200, l_240, l_255, l_260, l_384, l_400, l_999, l_5000, l_9999, l_1000000, l_1000000000, t_I, t_Ie, t_R, t_Re, t_N, t_Nn, t_V, t_Ve, t_b, t_x, t_w, e_0, e_1, e_2, e_3, zJ_lt, zJ_le, zJ_eq, k11 hV11, hhp, ne_eq, g34, not_true_eq_false, g13_7, k9 hV9]
            rw [hgv, t_I, zB_1 g33]
            simp only [z_10, if_false]
          have hfl := c_fillS (G := G) (n := n) (s := s) (X := X) (r := r) (m := X 267 0) hV11 hV9 hIw
          rw [wu_ne (by decide : (180 : Int) ≠ 182)] at hfl
          generalize hX1 : wu (wu (wu (wu X 182 r (X 182 r - 1)) 220 (8 * p + q) (X 180 r)) 221 (8 * p + q) r) 222 (8 * p + q) (X 267 0) = X1 at hfl
          have s1 : zsame [182, 220, 221, 222] X X1 := by
            rw [← hX1]
            exact same_u (by decide) (same_u (by decide) (same_u (by decide) (same_u (by decide) same_r)))
          have x182 : X1 182 r = X 182 r - 1 := by
            rw [← hX1]
            simp (disch := decide) only [wu_ne, wu_eq]
          have x1027 : X1 1027 r = X 182 r := by rw [s1 1027 (by decide), d3]
          have x424 : X1 424 0 = X 267 0 := by rw [s1 424 (by decide), z9.1]
          generalize hX2 : wu (wu (wu (wu X1 444 0 0) 1038 (8 * p + q) r) 1039 (8 * p + q) (X 267 0)) 1027 r (X 182 r - 1) = X2
          refine zcal_0 (X1 := X1) (X2 := X2) (X 182 r - 1) hY ?_ (zd2_0 (by omega) (by rw [hck, ← d3]; exact g3) ⟨by rw [← d3], fun k => by rw [← hX2, ← hX1]; simp (disch := decide) only [wu_ne, wu_v], fun k => by rw [z9.1, ← hX2, ← hX1]; simp (disch := decide) only [wu_ne, wu_v], fun k => by rw [← d3, ← hX2, ← hX1]; simp (disch := decide) only [wu_ne, wu_v], by rw [← hX2]; exact same_u (by decide) (same_u (by decide) (same_u (by decide) (same_u (by decide) (same_m s1 (by decide)))))⟩) ?_ ?_ (fun f hf => funext fun j => by (try rw [← hX2]); (try rw [← hX0]); simp (disch := omega) only [wu_ne]) (fun f hf => by first | exact s0 f (by simp only [List.mem_cons, List.not_mem_nil, or_false, not_or]; omega) | (funext j; (try rw [← hX2]); (try rw [← hX0]); (try rw [← hX1]); (try rw [← hXB]); (try rw [← hXA]); simp (disch := omega) only [wu_ne]))
          · show ev_ G 151 0 _ [] _ = _
            rw [hst, q_X11_place_55, c_cSt1, t_V, g13_7 h13, t_b, k11 hV11, hfl, t_V, g9_2 hV9, t_b, x182]
          · rw [← hX2, wu_ne (by decide), wu_ne (by decide), wu_ne (by decide), wu_eq]
          · have s0 : zsame [182, 220, 221, 222, 444, 1038, 1039, 1027] X X2 := by
              rw [← hX2]
              exact same_u (by decide) (same_u (by decide) (same_u (by decide) (same_u (by decide) (same_m s1 (by decide)))))
            have y182 : ∀ k, X2 182 k = if k = r then X 182 r - 1 else X 182 k := fun k => by
              rw [← hX2, ← hX1]
              simp (disch := decide) only [wu_ne, wu_v]
            have y1027 : ∀ k, X2 1027 k = if k = r then X 182 r - 1 else X 1027 k := fun k => by
              rw [← hX2, ← hX1]
              simp (disch := decide) only [wu_ne, wu_v]
            have y220 : ∀ k, X2 220 k = if k = 8 * p + q then X 180 r else X 220 k := fun k => by
              rw [← hX2, ← hX1]
              simp (disch := decide) only [wu_ne, wu_v]
            have y221 : ∀ k, X2 221 k = if k = 8 * p + q then r else X 221 k := fun k => by
              rw [← hX2, ← hX1]
              simp (disch := decide) only [wu_ne, wu_v]
            have y222 : ∀ k, X2 222 k = if k = 8 * p + q then X 267 0 else X 222 k := fun k => by
              rw [← hX2, ← hX1]
              simp (disch := decide) only [wu_ne, wu_v]
            have y1038 : ∀ k, X2 1038 k = if k = 8 * p + q then r else X 1038 k := fun k => by
              rw [← hX2, ← hX1]
              simp (disch := decide) only [wu_ne, wu_v]
            have y1039 : ∀ k, X2 1039 k = if k = 8 * p + q then X 267 0 else X 1039 k := fun k => by
              rw [← hX2, ← hX1]
              simp (disch := decide) only [wu_ne, wu_v]
            refine ⟨iB_c h1 (same_g s0 (by decide)) rfl, iC_c h2 (same_g s0 (by decide)) rfl, iT_c h3 (same_g s0 (by decide)) rfl, iW_c h4 (same_g s0 (by decide)) (fun _ _ _ => rfl) hn, iF_c h5 (same_g s0 (by decide)), iO_c h6 (same_g s0 (by decide)), iD_c h7 (same_g s0 (by decide)) (by omega), ?_, iM_c h9 (same_g s0 (by decide)), iV_c h10 (same_g s0 (by decide)), iH_c h11 (same_g s0 (by decide)), ?_⟩
            · unfold iR
              rw [s0 425 (by decide), s0 1026 (by decide), s0 1028 (by decide), s0 1029 (by decide), s0 180 (by decide), s0 181 (by decide), s0 183 (by decide), s0 184 (by decide)]
              refine ⟨r1, fun k k0 k1 => ?_, fun k k0 k1 => ?_⟩
              · have := r2 k k0 k1
                rw [y1027]
                by_cases hk : k = r
                · rw [if_pos hk]
                  refine ⟨this.1, by omega, this.2.2⟩
                · rw [if_neg hk]
                  exact this
              · have := r3 k k0 k1
                rw [y182, y1027]
                by_cases hk : k = r
                · rw [if_pos hk, if_pos hk]
                  exact ⟨this.1, this.2.1, rfl, this.2.2.2⟩
                · rw [if_neg hk, if_neg hk]
                  exact this
            · refine iS_u h12 g1 hn4 (by rw [s0 434 (by decide)]) (fun b hb f hf => by rw [s0 f (by simp only [List.mem_cons, List.not_mem_nil, or_false] at hf ⊢; omega)]) (fun b b0 b1 _ => s0 (509 + b) (by simp only [List.mem_cons, List.not_mem_nil, or_false]; omega)) (fun k hk f hf => ?_) (s0 1026 (by decide)) ?_ (fun k k0 k1 => ?_) ?_ (fun z z0 z1 => ?_) (fun k k0 k1 => ?_)
              · have hkn : ¬k = 8 * p + q := by omega
                simp only [fK, List.mem_cons, List.not_mem_nil, or_false] at hf
                rcases hf with e | e | e | e | e | e | e | e | e | e | e | e | e | e <;> subst e
                · rw [y220, if_neg hkn]
                · rw [y221, if_neg hkn]
                · rw [y222, if_neg hkn]
                · rw [s0 223 (by decide)]
                · rw [s0 224 (by decide)]
                · rw [s0 225 (by decide)]
                · rw [s0 226 (by decide)]
                · rw [s0 227 (by decide)]
                · rw [y1038, if_neg hkn]
                · rw [y1039, if_neg hkn]
                · rw [s0 1040 (by decide)]
                · rw [s0 1041 (by decide)]
                · rw [s0 1042 (by decide)]
                · rw [s0 1043 (by decide)]
              · rw [s0 1035 (by decide), s0 1036 (by decide), s0 1037 (by decide)]
                exact b2
              · rw [y1038, s0 1041 (by decide), s0 1042 (by decide), s0 1043 (by decide)]
                have := c4 k (by omega) (by omega)
                by_cases hk : k = 8 * p + q
                · rw [if_pos hk]
                  omega
                · rw [if_neg hk]
                  exact this
              · rw [s0 1035 (by decide), s0 1036 (by decide), s0 1037 (by decide), s0 40 (by decide), s0 41 (by decide), s0 42 (by decide)]
                exact e1
              · rw [s0 (509 + p) (by simp only [List.mem_cons, List.not_mem_nil, or_false]; omega)]
                exact e2 z z0 z1
              · obtain ⟨i1, i2, i3, i4, i5, i6, i7⟩ := e3 k k0 k1
                rw [if_pos (.inl g31)] at i5
                unfold iS1
                rw [s0 223 (by decide), s0 224 (by decide), s0 225 (by decide), s0 226 (by decide), s0 227 (by decide), s0 1040 (by decide), s0 1041 (by decide), s0 1042 (by decide), s0 1043 (by decide), s0 1026 (by decide), s0 1035 (by decide), y220, y221, y222, y1038, y1039, if_pos (show X 1035 p = 0 ∨ _ from .inl g31)]
                by_cases hk : k = 8 * p + q
                · rw [if_pos hk, if_pos hk, if_pos hk, if_pos hk, if_pos hk]
                  refine ⟨⟨rfl, rfl, i1.2.2⟩, by omega, ?_, i4, i5, fun g => by omega, i7⟩
                  rw [if_neg (by omega), d1]
                · rw [if_neg hk, if_neg hk, if_neg hk, if_neg hk, if_neg hk]
                  exact ⟨i1, i2, i3, i4, i5, i6, i7⟩
        · refine zcal_e 2 2 hI hY (by decide) (by decide) ?_ (zd2_2 (by omega) (by rw [hck, ← d3]; exact g3) (same_u (by decide) same_r))
          · have hst : ev_ G 151 0 [.ref (wA Y 13 0), .int (zJ p), .int (zJ q), .int (zJ r), zU, zU, zU] [] (wd Y n s X) = ev_ G 151 55 [.ref (wA Y 13 0), .int (zJ p), .int (zJ q), .int (zJ r), .ref (wA Y 2 p), .ref (wA Y 11 (8 * p + q)), .ref (wA Y 9 r)] [.int (zJ 0)] (wd Y n s X) := by
              rw [q_X11_place_0, k13 h13, hat, t_R, k2 hV2, hsl, t_R, k13 h13, hrt, t_R]
              by_cases g31 : X 1035 p = 0
              · by_cases g32 : X 220 (8 * p + q) = -1
                · have g33 : ¬(0 < X 182 r ∧ zclk (X 183 r) (X 181 r) (X 184 r) (X 267 0) ≠ -1) := fun g => g3 ⟨g31, hpt.2.mp g32, g⟩
                  simp (disch := first | assumption | omega) only [g2_0, e1, g31, ↓reduceIte, zB_T, zB_F, zB_if, ite_not, z_10, z_00, i_10, i_00, if_true, if_false, c_cIx0, c_cIx1, c_cAr0, c_cAr1, c_cSt0, c_cSt1, l_0, l_1, l_2, l_3, l_4, l_5, l_6, l_7, l_8, l_9, l_10, l_12, l_16, l_24, l_31, l_32, l_48, l_96, l_99, l_100, l_150, l_180, l_200, l_240, l_255, l_260, l_384, l_400, l_999, l_5000, l_9999, l_1000000, l_1000000000, t_I, t_Ie, t_R, t_Re, t_N, t_Nn, t_V, t_Ve, t_b, t_x, t_w, e_0, e_1, e_2, e_3, zJ_lt, zJ_le, zJ_eq, k11 hV11, hhp, ne_eq, g32, not_true_eq_false, g13_7, k9 hV9]
                  rw [hgv, t_I, zB_0 g33]
                  simp only [if_true]
                · simp (disch := first | assumption | omega) only [g2_0, e1, g31, ↓reduceIte, zB_T, zB_F, zB_if, ite_not, z_10, z_00, i_10, i_00, if_true, if_false, c_cIx0, c_cIx1, c_cAr0, c_cAr1, c_cSt0, c_cSt1, l_0, l_1, l_2, l_3, l_4, l_5, l_6, l_7, l_8, l_9, l_10, l_12, l_16, l_24, l_31, l_32, l_48, l_96, l_99, l_100, l_150, l_180, l_200, l_240, l_255, l_260, l_384, l_400, l_999, l_5000, l_9999, l_1000000, l_1000000000, t_I, t_Ie, t_R, t_Re, t_N, t_Nn, t_V, t_Ve, t_b, t_x, t_w, e_0, e_1, e_2, e_3, zJ_lt, zJ_le, zJ_eq, k11 hV11, hhp, ne_eq, g32, not_false_eq_true]
              · simp (disch := first | assumption | omega) only [g2_0, e1, g31, ↓reduceIte, zB_T, zB_F, zB_if, ite_not, z_10, z_00, i_10, i_00, if_true, if_false, c_cIx0, c_cIx1, c_cAr0, c_cAr1, c_cSt0, c_cSt1, l_0, l_1, l_2, l_3, l_4, l_5, l_6, l_7, l_8, l_9, l_10, l_12, l_16, l_24, l_31, l_32, l_48, l_96, l_99, l_100, l_150, l_180, l_200, l_240, l_255, l_260, l_384, l_400, l_999, l_5000, l_9999, l_1000000, l_1000000000, t_I, t_Ie, t_R, t_Re, t_N, t_Nn, t_V, t_Ve, t_b, t_x, t_w, e_0, e_1, e_2, e_3, zJ_lt, zJ_le, zJ_eq]
            show ev_ G 151 0 _ [] _ = _
            rw [hst, q_X11_place_55, c_cSt0, t_Ve, t_x, t_w]
      · refine zcal_e 0 1 hI hY (by decide) (by decide) ?_ (by first | exact zd1_1 (by first | assumption | omega) (same_u (by decide) same_r) | exact zd2_1 (by first | assumption | omega) (same_u (by decide) same_r) | exact zd2_2 (by first | assumption | omega) (by first | assumption | omega) (same_u (by decide) same_r) | exact zd3_1 (by first | assumption | omega) (same_u (by decide) same_r) | exact zd3_2 (by first | assumption | omega) (by first | assumption | omega) (same_u (by decide) same_r) | exact zd3_3 (by first | assumption | omega) (by first | assumption | omega) (by first | assumption | omega) (same_u (by decide) same_r))
        · show ev_ G 151 0 _ [] _ = _
          rw [q_X11_place_0, k13 h13, hat, t_R, k2 hV2, hsl, t_R, k13 h13, c_reelAt_no hF hr.1 hr.2 g0, t_Re, t_x]
    · refine zcal_e 0 1 hI hY (by decide) (by decide) ?_ (by first | exact zd1_1 (by first | assumption | omega) (same_u (by decide) same_r) | exact zd2_1 (by first | assumption | omega) (same_u (by decide) same_r) | exact zd2_2 (by first | assumption | omega) (by first | assumption | omega) (same_u (by decide) same_r) | exact zd3_1 (by first | assumption | omega) (same_u (by decide) same_r) | exact zd3_2 (by first | assumption | omega) (by first | assumption | omega) (same_u (by decide) same_r) | exact zd3_3 (by first | assumption | omega) (by first | assumption | omega) (by first | assumption | omega) (same_u (by decide) same_r))
      · show ev_ G 151 0 _ [] _ = _
        rw [q_X11_place_0, k13 h13, hat, t_R, k2 hV2, c_slotAt_no hF g1.1 g1.2 hq.1 hq.2 g2, t_Re, t_x]
  · refine zcal_e 0 1 hI hY (by decide) (by decide) ?_ (by first | exact zd1_1 (by first | assumption | omega) (same_u (by decide) same_r) | exact zd2_1 (by first | assumption | omega) (same_u (by decide) same_r) | exact zd2_2 (by first | assumption | omega) (by first | assumption | omega) (same_u (by decide) same_r) | exact zd3_1 (by first | assumption | omega) (same_u (by decide) same_r) | exact zd3_2 (by first | assumption | omega) (by first | assumption | omega) (same_u (by decide) same_r) | exact zd3_3 (by first | assumption | omega) (by first | assumption | omega) (by first | assumption | omega) (same_u (by decide) same_r))
    · show ev_ G 151 0 _ [] _ = _
      rw [q_X11_place_0, k13 h13, c_boardAt_no hF hp.1 hp.2 g1, t_Re, t_x]
end ZK
