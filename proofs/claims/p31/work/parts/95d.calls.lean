/-! THE TWO SIDES, 73: calls on both sides: order, ofReel, open, bundle -/
section ZK
variable {Y : zLy} {n s : Nat} {X : zX} {G : Nat × Nat} {t p q r u : Int}
theorem c_orderAdd (hF : wF Y) (ho : 0 ≤ X 144 0 ∧ X 144 0 < 5) : ev_ G 94 0 [.ref (wA Y 7 0), .int (zJ p), .int (zJ q)] [] (wd Y n s X) = some (.inl (some (.int (zJ (X 144 0)))), wd Y n s (wu (wu (wu X 501 (X 144 0) p) 502 (X 144 0) q) 144 0 (X 144 0 + 1))) := by
  have h7 := hF.2.2.2.2.1
  have hIw := hF.1
  obtain ⟨a1, a2⟩ := hF.2.2.2.2.2.2.1 1 (by decide) (by decide)
  obtain ⟨b1, b2⟩ := hF.2.2.2.2.2.2.1 2 (by decide) (by decide)
  have e1 : wu X 501 (X 144 0) p 144 0 = X 144 0 := wu_ne (by decide)
  have e2 : wu (wu X 501 (X 144 0) p) 502 (X 144 0) q 144 0 = X 144 0 := by rw [wu_ne (by decide), e1]
  have g1 : ∀ X, zgR 6 0 (wd Y n s X) (wA Y 7 0) = some (wA Y 10 1) := fun X => g7_0 h7
  have g2 : ∀ X, zgR 6 1 (wd Y n s X) (wA Y 7 0) = some (wA Y 10 2) := fun X => g7_1 h7
  rw [q_X5_add_0, g1, t_b, g7_4 h7, t_b, k10 a1, c_put a1 a2 hIw (by decide) rfl (by omega) (by omega), t_V, if_pos ⟨ho.1, by rw [ln_1]; omega⟩, show (500 : Int) + 1 = 501 from rfl, g2, t_b, g7_4 h7, t_b, e1, k10 b1, c_put b1 b2 hIw (by decide) rfl (by omega) (by omega), t_V, if_pos ⟨ho.1, by rw [ln_2]; omega⟩, show (500 : Int) + 2 = 502 from rfl, g7_4 h7, t_b, e2, l_1, zJ_add, p7_4 h7 hIw, t_b, g7_4 h7, t_b, wu_eq, zJ_sub, show X 144 0 + 1 - 1 = X 144 0 by omega]
/-- a reel's clock on both sides -/
theorem zclk_e {o l b o' b' m : Int} (h : b' = if o = 0 then -1 else b) (h0 : o' = b' + 1) (hb : 0 ≤ b) : zclk o' l b' m = zclk o l b m := by
  unfold zclk
  by_cases g : o = 0
  · rw [if_pos g] at h
    rw [if_pos (.inl (by omega)), if_pos (.inl g)]
  · rw [if_neg g] at h
    subst h
    by_cases g2 : l - (m - b') < 0
    · rw [if_pos (.inr g2), if_pos (.inr g2)]
    · rw [if_neg (fun k => k.elim (by omega) g2), if_neg (fun k => k.elim g g2)]
theorem k_open (hY : wY Y n) (hI : iAll t Y.2.2.2.2 X) (hp : -2147483648 ≤ p ∧ p < 2147483648) (hq : q = 0 ∨ q = 1) : zcal [(0, 1), (2, 2)] t Y n s X (fun W => ev_ G 133 0 [.ref (wA Y 13 0), .int (zJ p), .int (zJ q), zU] [] W) (dOpen X p q) := by
  have hF := wY_F hY
  have h13 := hF.2.1
  have hIw := hF.1
  obtain ⟨hn, hn4⟩ := wY_n hY
  obtain ⟨h1, h2, h3, h4, h5, h6, h7, h8, h9, h10, h11, h12⟩ := id hI
  obtain ⟨r1, r2, r3⟩ := id h8
  have z9 := h9
  unfold iM at z9
  have hQ3 := hY.2.2.2.2.1
  by_cases g1 : 0 ≤ p ∧ p < Y.2.2.2.2 0 3
  · have hV9 : wV Y 9 p := hF.2.2.2.2.2.2.2.2.2.2.2.1 p g1.1 g1.2
    obtain ⟨a1, a2, a3, a4, a5, a6⟩ := r3 p g1.1 g1.2
    obtain ⟨b1, b2, b3, b4⟩ := r2 p g1.1 (by omega)
    have hat := c_reelAt (G := G) (n := n) (s := s) (X := X) hF g1.1 g1.2
    by_cases g2 : X 183 p ≠ 0 ∧ q = 0
    · obtain ⟨g21, g22⟩ := g2
      refine zcal_e 2 2 hI hY (by decide) (by decide) ?_ (by rw [if_neg g21] at a6; exact zd2_2 (by omega) (by omega) (same_u (by decide) same_r))
      · subst g22
        simp (disch := first | assumption | omega) only [q_X11_open_0, q_X11_open_22, k13 h13, hat, ↓reduceIte, zB_T, zB_F, zB_if, ite_not, z_10, z_00, i_10, i_00, if_true, if_false, c_cIx0, c_cIx1, c_cAr0, c_cAr1, c_cSt0, c_cSt1, l_0, l_1, l_2, l_3, l_4, l_5, l_6, l_7, l_8, l_9, l_10, l_12, l_16, l_24, l_31, l_32, l_48, l_96, l_99, l_100, l_150, l_180, l_200, l_240, l_255, l_260, l_384, l_400, l_999, l_5000, l_9999, l_1000000, l_1000000000, t_I, t_Ie, t_R, t_Re, t_N, t_Nn, t_V, t_Ve, t_b, t_x, t_w, e_0, e_1, e_2, e_3, zJ_lt, zJ_le, zJ_eq, g9_3, g21]
    · generalize hX1 : wu (wu X 183 p 1) 184 p (X 267 0) = X1
      have hbc := c_beginClock (G := G) (n := n) (s := s) (X := X) (j := X 267 0) hV9 hIw
      rw [hX1] at hbc
      have s1 : zsame [183, 184] X X1 := by
        rw [← hX1]
        exact same_u (by decide) (same_u (by decide) same_r)
      have x267 : X1 267 0 = X 267 0 := by rw [s1 267 (by decide)]
      have x424 : X1 424 0 = X 267 0 := by rw [s1 424 (by decide), z9.1]
      have x181 : X1 181 p = X 181 p := by rw [s1 181 (by decide)]
      have x1028 : X1 1028 p = X 181 p := by rw [s1 1028 (by decide), a2]
      have x1029 : ∀ k, X1 1029 k = X 1029 k := fun k => by rw [s1 1029 (by decide)]
      have x183 : ∀ k, X1 183 k = if k = p then 1 else X 183 k := fun k => by
        rw [← hX1]
        simp (disch := decide) only [wu_ne, wu_v]
      have x184 : ∀ k, X1 184 k = if k = p then X 267 0 else X 184 k := fun k => by
        rw [← hX1]
        simp (disch := decide) only [wu_ne, wu_v]
      have x183p : X1 183 p = 1 := by rw [x183, if_pos rfl]
      have x184p : X1 184 p = X 267 0 := by rw [x184, if_pos rfl]
      have hck := c_clockAt (G := G) (n := n) (s := s) (X := X1) (j := X 267 0) hV9 (by omega) (by omega) (by omega) (by omega)
      rw [x183p, x181, x184p] at hck
      have hst : ev_ G 133 0 [.ref (wA Y 13 0), .int (zJ p), .int (zJ q), zU] [] (wd Y n s X) = ev_ G 133 22 [.ref (wA Y 13 0), .int (zJ p), .int (zJ q), .ref (wA Y 9 p)] [.int (zJ 1)] (wd Y n s X) := by
        rcases hq with rfl | rfl
        · have g3 : X 183 p = 0 := by
            by_cases g : X 183 p = 0
            · exact g
            · exact absurd ⟨g, rfl⟩ g2
          simp (disch := first | assumption | omega) only [q_X11_open_0, k13 h13, hat, ↓reduceIte, zB_T, zB_F, zB_if, ite_not, z_10, z_00, i_10, i_00, if_true, if_false, c_cIx0, c_cIx1, c_cAr0, c_cAr1, c_cSt0, c_cSt1, l_0, l_1, l_2, l_3, l_4, l_5, l_6, l_7, l_8, l_9, l_10, l_12, l_16, l_24, l_31, l_32, l_48, l_96, l_99, l_100, l_150, l_180, l_200, l_240, l_255, l_260, l_384, l_400, l_999, l_5000, l_9999, l_1000000, l_1000000000, t_I, t_Ie, t_R, t_Re, t_N, t_Nn, t_V, t_Ve, t_b, t_x, t_w, e_0, e_1, e_2, e_3, zJ_lt, zJ_le, zJ_eq, g9_3, g3]
        · simp (disch := first | assumption | omega) only [q_X11_open_0, k13 h13, hat, ↓reduceIte, zB_T, zB_F, zB_if, ite_not, z_10, z_00, i_10, i_00, if_true, if_false, c_cIx0, c_cIx1, c_cAr0, c_cAr1, c_cSt0, c_cSt1, l_0, l_1, l_2, l_3, l_4, l_5, l_6, l_7, l_8, l_9, l_10, l_12, l_16, l_24, l_31, l_32, l_48, l_96, l_99, l_100, l_150, l_180, l_200, l_240, l_255, l_260, l_384, l_400, l_999, l_5000, l_9999, l_1000000, l_1000000000, t_I, t_Ie, t_R, t_Re, t_N, t_Nn, t_V, t_Ve, t_b, t_x, t_w, e_0, e_1, e_2, e_3, zJ_lt, zJ_le, zJ_eq, g9_3]
      refine zcal_0 (X1 := X1) (X2 := wu (wu X1 444 0 0) 1029 p (X1 424 0)) (zclk 1 (X 181 p) (X 267 0) (X 267 0)) hY ?_ (zd2_0 (by omega) (by rw [a6]; rcases hq with rfl | rfl; exact .inl (if_pos (Decidable.byContradiction (fun g => g2 ⟨g, rfl⟩))); exact .inr (by decide)) ⟨by rw [a2, z9.1], fun k => by rw [wu_v, wu_ne (by decide), x1029, x424, z9.1], same_u (by decide) (same_u (by decide) (same_m s1 (by decide)))⟩) ?_ ?_ (fun f hf => funext fun j => by (try rw [← hX2]); (try rw [← hX0]); simp (disch := omega) only [wu_ne]) (fun f hf => by first | exact s0 f (by simp only [List.mem_cons, List.not_mem_nil, or_false, not_or]; omega) | (funext j; (try rw [← hX2]); (try rw [← hX0]); (try rw [← hX1]); (try rw [← hXB]); (try rw [← hXA]); simp (disch := omega) only [wu_ne]))
      · show ev_ G 133 0 _ [] _ = _
        rw [hst]
        simp (disch := first | assumption | omega) only [q_X11_open_22, ↓reduceIte, zB_T, zB_F, zB_if, ite_not, z_10, z_00, i_10, i_00, if_true, if_false, c_cIx0, c_cIx1, c_cAr0, c_cAr1, c_cSt0, c_cSt1, l_0, l_1, l_2, l_3, l_4, l_5, l_6, l_7, l_8, l_9, l_10, l_12, l_16, l_24, l_31, l_32, l_48, l_96, l_99, l_100, l_150, l_180, l_200, l_240, l_255, l_260, l_384, l_400, l_999, l_5000, l_9999, l_1000000, l_1000000000, t_I, t_Ie, t_R, t_Re, t_N, t_Nn, t_V, t_Ve, t_b, t_x, t_w, e_0, e_1, e_2, e_3, g13_7, k9 hV9, hbc, x267, hck]
      · rw [wu_ne (by decide), wu_eq]
      · have s0 : zsame [183, 184, 444, 1029] X (wu (wu X1 444 0 0) 1029 p (X1 424 0)) := same_u (by decide) (same_u (by decide) (same_m s1 (by decide)))
        refine ⟨iB_c h1 (same_g s0 (by decide)) rfl, iC_c h2 (same_g s0 (by decide)) rfl, iT_c h3 (same_g s0 (by decide)) rfl, iW_c h4 (same_g s0 (by decide)) (fun _ _ _ => rfl) hn, iF_c h5 (same_g s0 (by decide)), iO_c h6 (same_g s0 (by decide)), iD_c h7 (same_g s0 (by decide)) (by omega), ?_, iM_c h9 (same_g s0 (by decide)), iV_c h10 (same_g s0 (by decide)), iH_c h11 (same_g s0 (by decide)), iS_c h12 (same_g s0 (by decide)) rfl rfl hn4⟩
        unfold iR
        rw [s0 425 (by decide), s0 1026 (by decide), s0 1027 (by decide), s0 1028 (by decide), s0 180 (by decide), s0 181 (by decide), s0 182 (by decide)]
        refine ⟨r1, fun k k0 k1 => ?_, fun k k0 k1 => ?_⟩
        · have := r2 k k0 k1
          rw [wu_v]
          refine ⟨this.1, this.2.1, this.2.2.1, ?_⟩
          by_cases hk : k = p
          · rw [if_pos hk, x424]
            omega
          · rw [if_neg hk, wu_ne (by decide), x1029]
            exact this.2.2.2
        · obtain ⟨c1, c2, c3, c4, c5, c6⟩ := r3 k k0 k1
          rw [wu_v, wu_ne (by decide : (183 : Int) ≠ 1029), wu_ne (by decide : (183 : Int) ≠ 444), wu_ne (by decide : (184 : Int) ≠ 1029), wu_ne (by decide : (184 : Int) ≠ 444), x183, x184]
          refine ⟨c1, c2, c3, ?_⟩
          by_cases hk : k = p
          · rw [if_pos hk, if_pos hk, if_pos hk, x424]
            refine ⟨by decide, by omega, ?_⟩
            rw [if_neg (by decide)]
          · rw [if_neg hk, if_neg hk, if_neg hk, wu_ne (by decide), x1029]
            exact ⟨c4, c5, c6⟩
  · refine zcal_e 0 1 hI hY (by decide) (by decide) ?_ (by first | exact zd1_1 (by first | assumption | omega) (same_u (by decide) same_r) | exact zd2_1 (by first | assumption | omega) (same_u (by decide) same_r) | exact zd2_2 (by first | assumption | omega) (by first | assumption | omega) (same_u (by decide) same_r) | exact zd3_1 (by first | assumption | omega) (same_u (by decide) same_r) | exact zd3_2 (by first | assumption | omega) (by first | assumption | omega) (same_u (by decide) same_r) | exact zd3_3 (by first | assumption | omega) (by first | assumption | omega) (by first | assumption | omega) (same_u (by decide) same_r))
    · simp (disch := first | assumption | omega) only [q_X11_open_0, k13 h13, c_reelAt_no hF hp.1 hp.2 g1, t_I, t_Ie, t_R, t_Re, t_N, t_Nn, t_V, t_Ve, t_b, t_x, t_w, e_0, e_1, e_2, e_3]
end ZK
