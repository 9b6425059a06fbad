/-! THE TWO SIDES, 77: calls on both sides: recall, ship, flaw, place -/
theorem zsm_sh {f : Int → Int} {a : Int} : ∀ (k : Nat) (i : Int), zsm (fun m => f (a + m)) i k = zsm f (a + i) k := by
  intro k
  induction k with
  | zero => intro i; rfl
  | succ k ih =>
    intro i
    show f (a + i) + zsm (fun m => f (a + m)) (i + 1) k = f (a + i) + zsm f (a + i + 1) k
    rw [ih, Int.add_assoc]
section ZI
variable {X X' : zX} {Q Q' : zQs}
/-- only board p has changed -/
theorem iS_u {p : Int} (h : iS Q X) (hp : 0 ≤ p ∧ p < Q 0 4) (hn4 : Q 0 4 ≤ 12) (g0 : X' 434 0 = X 434 0) (gb : ∀ b, b ≠ p → ∀ f ∈ ([1035, 1036, 1037, 40, 41, 42] : List Int), X' f b = X f b) (g9 : ∀ b, 0 ≤ b → b < 12 → b ≠ p → X' (509 + b) = X (509 + b)) (gk : ∀ k, ¬(8 * p ≤ k ∧ k < 8 * p + 8) → ∀ f ∈ fK, X' f k = X f k) (g26 : X' 1026 = X 1026) (r1 : (0 ≤ X' 1035 p ∧ X' 1035 p ≤ 1) ∧ (0 ≤ X' 1036 p ∧ X' 1036 p ≤ 1) ∧ (0 ≤ X' 1037 p ∧ X' 1037 p ≤ 1)) (r2 : ∀ k, 8 * p ≤ k → k < 8 * p + 8 → (-1 ≤ X' 1038 k ∧ X' 1038 k < 12) ∧ (0 ≤ X' 1041 k ∧ X' 1041 k < 4) ∧ (0 ≤ X' 1042 k ∧ X' 1042 k ≤ 1) ∧ (0 ≤ X' 1043 k ∧ X' 1043 k ≤ 1) ∧ (X' 1042 k ≠ 0 → X' 1041 k ≠ 0 ∧ 0 ≤ X' 1038 k)) (e1 : X' 40 p = X' 1035 p ∧ X' 41 p = X' 1036 p ∧ X' 42 p = X' 1037 p) (e2 : ∀ z, 0 ≤ z → z < 4 → 0 ≤ X' (509 + p) z ∧ X' (509 + p) z ≤ 400) (e3 : ∀ k, 8 * p ≤ k → k < 8 * p + 8 → iS1 Q X' p k) : iS Q X' := by
  obtain ⟨c1, c2, c3, c4, c5, c6⟩ := h
  unfold iS
  refine ⟨g0.trans c1, fun b b0 b1 => ?_, fun b b0 b1 => ?_, fun k k0 k1 => ?_, fun k k0 k1 => ?_, fun b b0 b1 => ?_⟩
  · by_cases hb : b = p
    · rw [hb]; exact r1
    · rw [gb b hb 1035 (by decide), gb b hb 1036 (by decide), gb b hb 1037 (by decide)]
      exact c2 b b0 b1
  · rw [gb b (by omega) 1035 (by decide), gb b (by omega) 1036 (by decide), gb b (by omega) 1037 (by decide)]
    exact c3 b b0 b1
  · by_cases hk : 8 * p ≤ k ∧ k < 8 * p + 8
    · exact r2 k hk.1 hk.2
    · rw [gk k hk 1038 (by decide), gk k hk 1041 (by decide), gk k hk 1042 (by decide), gk k hk 1043 (by decide)]
      exact c4 k k0 k1
  · have hk : ¬(8 * p ≤ k ∧ k < 8 * p + 8) := by omega
    rw [gk k hk 1038 (by decide), gk k hk 1039 (by decide), gk k hk 1040 (by decide), gk k hk 1041 (by decide), gk k hk 1042 (by decide), gk k hk 1043 (by decide)]
    exact c5 k k0 k1
  · by_cases hb : b = p
    · subst hb
      exact ⟨e1, e2, e3⟩
    · obtain ⟨d1, d2, d3⟩ := c6 b b0 b1
      have h9 := g9 b b0 (by omega) hb
      rw [gb b hb 1035 (by decide), gb b hb 1036 (by decide), gb b hb 1037 (by decide), gb b hb 40 (by decide), gb b hb 41 (by decide), gb b hb 42 (by decide), h9]
      refine ⟨d1, d2, fun k k0 k1 => ?_⟩
      have hk : ¬(8 * p ≤ k ∧ k < 8 * p + 8) := by omega
      exact iS1_c (d3 k k0 k1) (Int.le_refl _) (gk k hk) (.inr (by rw [g26])) (gb b hb 1035 (by decide)) (.inr (zpeak_c h9 (fun j j0 j1 => by rw [gk j (by omega) 220 (by decide)])))
end ZI
section ZK
variable {Y : zLy} {n s : Nat} {X : zX} {G : Nat × Nat} {t p q r u : Int}
/-- faults on both sides -/
theorem zfnd_e {X : zX} {Q : zQs} {b f : Int} (h : ∀ k, 8 * b ≤ k → k < 8 * b + 8 → X 223 k = X 1041 k ∧ X 224 k = X 1042 k) : zfnd X b f = zfm X b f := by
  unfold zfnd zfm
  rw [zsm_sh (f := fun m => zB (X 223 m ≠ 0 ∧ X 224 m = f)), Int.add_zero]
  exact zsm_congr _ _ (fun j j0 j1 => by
    have := h j j0 (by omega)
    show zB (X 223 j ≠ 0 ∧ X 224 j = f) = zB (X 1041 j ≠ 0 ∧ X 1042 j = f)
    unfold zB
    rw [this.1, this.2])
theorem k_ship (hY : wY Y n) (hI : iAll t Y.2.2.2.2 X) (hp : -2147483648 ≤ p ∧ p < 2147483648) : zcal [(0, 1), (2, 2)] t Y n s X (fun W => ev_ G 189 0 [.ref (wA Y 13 0), .int (zJ p), zU] [] W) (dShip X p) := by
  have hF := wY_F hY
  have h13 := hF.2.1
  have hIw := hF.1
  obtain ⟨hn, hn4⟩ := wY_n hY
  obtain ⟨h1, h2, h3, h4, h5, h6, h7, h8, h9, h10, h11, h12⟩ := id hI
  have hQ4 := hY.2.2.2.2.2.1
  have hm := iS_m h12
  obtain ⟨c1, c2, c3, c4, c5, c6⟩ := id h12
  by_cases g1 : 0 ≤ p ∧ p < Y.2.2.2.2 0 4
  · have hB := wF_B hF g1.1 g1.2
    have hV2 : wV Y 2 p := hB.1
    have hat := c_boardAt (G := G) (n := n) (s := s) (X := X) hF g1.1 g1.2
    obtain ⟨e1, e2, e3⟩ := c6 p g1.1 g1.2
    have b2 := c2 p g1.1 (by omega)
    have hz : ∀ f, zfnd X p f = zfm X p f := fun f => zfnd_e (Q := Y.2.2.2.2) (fun k k0 k1 => by
      have := (e3 k k0 k1).1
      exact ⟨this.2.2.1, this.2.2.2.1⟩)
    have hf1 := c_found (G := G) (n := n) (s := s) (X := X) (f := 1) hB (fun k k0 k1 => by
      have := (e3 (8 * p + k) (by omega) (by omega)).1
      rw [this.2.2.1, this.2.2.2.1]
      exact hm.2.2.1 _ (by omega) (by omega)) (by decide)
    have hr1 := zfm_r X p 1
    rw [hz] at hf1
    by_cases g2 : X 1037 p = 0 ∧ X 1036 p ≠ 0 ∧ zfm X p 1 ≤ 0
    · obtain ⟨g21, g22, g23⟩ := id g2
      have g24 : zfm X p 1 = 0 := by omega
      generalize hX1 : wu X 42 p 1 = X1
      have s1 : zsame [42] X X1 := by
        rw [← hX1]
        exact same_u (by decide) same_r
      have hf0 := c_found (G := G) (n := n) (s := s) (X := X1) (f := 0) hB (fun k k0 k1 => by
        have := (e3 (8 * p + k) (by omega) (by omega)).1
        rw [s1 223 (by decide), s1 224 (by decide), this.2.2.1, this.2.2.2.1]
        exact hm.2.2.1 _ (by omega) (by omega)) (by decide)
      have hz0 : zfnd X1 p 0 = zfm X p 0 := by
        rw [← hz]
        unfold zfnd
        rw [s1 223 (by decide), s1 224 (by decide)]
      have hz1 : zfm X1 p 0 = zfm X p 0 := by
        unfold zfm
        rw [s1 1041 (by decide), s1 1042 (by decide)]
      have hz2 : zfm X1 p 1 = zfm X p 1 := by
        unfold zfm
        rw [s1 1041 (by decide), s1 1042 (by decide)]
      rw [hz0] at hf0
      have hst : ev_ G 189 0 [.ref (wA Y 13 0), .int (zJ p), zU] [] (wd Y n s X) = ev_ G 189 33 [.ref (wA Y 13 0), .int (zJ p), .ref (wA Y 2 p)] [.int (zJ 1)] (wd Y n s X) := by
        rw [q_X11_ship_0, k13 h13, hat, t_R]
        simp (disch := first | assumption | omega) only [g2_1, g2_2, e1, g21, g22, ↓reduceIte, zB_T, zB_F, zB_if, ite_not, z_10, z_00, i_10, i_00, if_true, if_false, c_cIx0, c_cIx1, c_cAr0, c_cAr1, c_cSt0, c_cSt1, l_0, l_1, l_2, l_3, l_4, l_5, l_6, l_7, l_8, l_9, l_10, l_12, l_16, l_24, l_31, l_32, l_48, l_96, l_99, l_100, l_150, l_180, l_200, l_240, l_255, l_260, l_384, l_400, l_999, l_5000, l_9999, l_1000000, l_1000000000, t_I, t_Ie, t_R, t_Re, t_N, t_Nn, t_V, t_Ve, t_b, t_x, t_w, e_0, e_1, e_2, e_3, zJ_lt, zJ_le, zJ_eq, k2 hV2, hf1, g24]
      have hgo : ev_ G 189 33 [.ref (wA Y 13 0), .int (zJ p), .ref (wA Y 2 p)] [.int (zJ 1)] (wd Y n s X) = some (.inl (some (.int (zJ (zfm X p 0)))), wd Y n s X1) := by
        rw [q_X11_ship_33, c_cSt1, t_V, t_1, l_1, p2_2 hV2 hIw, t_b, hX1, k2 hV2, l_0, hf0, t_I]
      refine zcal_0 (X1 := X1) (X2 := wu (wu X1 444 0 0) 1037 p 1) (zfm X p 0) hY (hst.trans hgo) (zd2_0 (by omega) g2 ⟨rfl, fun k => by rw [wu_v, wu_ne (by decide), s1 1037 (by decide)], same_u (by decide) (same_u (by decide) (same_m s1 (by decide)))⟩) ?_ ?_ (fun f hf => funext fun j => by (try rw [← hX2]); (try rw [← hX0]); simp (disch := omega) only [wu_ne]) (fun f hf => by first | exact s0 f (by simp only [List.mem_cons, List.not_mem_nil, or_false, not_or]; omega) | (funext j; (try rw [← hX2]); (try rw [← hX0]); (try rw [← hX1]); (try rw [← hXB]); (try rw [← hXA]); simp (disch := omega) only [wu_ne]))
      · rw [wu_ne (by decide), wu_eq]
      · have s0 : zsame [42, 444, 1037] X (wu (wu X1 444 0 0) 1037 p 1) := same_u (by decide) (same_u (by decide) (same_m s1 (by decide)))
        have f42 : ∀ b, wu (wu X1 444 0 0) 1037 p 1 42 b = if b = p then 1 else X 42 b := fun b => by
          rw [← hX1]
          simp (disch := decide) only [wu_ne, wu_v]
        have f37 : ∀ b, wu (wu X1 444 0 0) 1037 p 1 1037 b = if b = p then 1 else X 1037 b := fun b => by
          rw [← hX1]
          simp (disch := decide) only [wu_ne, wu_v]
        refine ⟨iB_c h1 (same_g s0 (by decide)) rfl, iC_c h2 (same_g s0 (by decide)) rfl, iT_c h3 (same_g s0 (by decide)) rfl, iW_c h4 (same_g s0 (by decide)) (fun _ _ _ => rfl) hn, iF_c h5 (same_g s0 (by decide)), iO_c h6 (same_g s0 (by decide)), iD_c h7 (same_g s0 (by decide)) (by omega), iR_c h8 (same_g s0 (by decide)) rfl, iM_c h9 (same_g s0 (by decide)), iV_c h10 (same_g s0 (by decide)), iH_c h11 (same_g s0 (by decide)), ?_⟩
        refine iS_u h12 g1 hn4 (by rw [s0 434 (by decide)]) (fun b hb f hf => ?_) (fun b b0 b1 _ => s0 (509 + b) (by simp only [List.mem_cons, List.not_mem_nil, or_false]; omega)) (fun k _ f hf => by rw [s0 f (by simp only [fK, List.mem_cons, List.not_mem_nil, or_false] at hf; simp only [List.mem_cons, List.not_mem_nil, or_false]; omega)]) (s0 1026 (by decide)) ?_ (fun k k0 k1 => ?_) ?_ (fun z z0 z1 => ?_) (fun k k0 k1 => ?_)
        · simp only [List.mem_cons, List.not_mem_nil, or_false] at hf
          rcases hf with e | e | e | e | e | e <;> subst e
          · rw [s0 1035 (by decide)]
          · rw [s0 1036 (by decide)]
          · rw [f37, if_neg hb]
          · rw [s0 40 (by decide)]
          · rw [s0 41 (by decide)]
          · rw [f42, if_neg hb]
        · rw [s0 1035 (by decide), s0 1036 (by decide), f37, if_pos rfl]
          omega
        · rw [s0 1038 (by decide), s0 1041 (by decide), s0 1042 (by decide), s0 1043 (by decide)]
          exact c4 k (by omega) (by omega)
        · rw [s0 1035 (by decide), s0 1036 (by decide), s0 40 (by decide), s0 41 (by decide), f37, f42, if_pos rfl, if_pos rfl]
          exact ⟨e1.1, e1.2.1, rfl⟩
        · rw [s0 (509 + p) (by simp only [List.mem_cons, List.not_mem_nil, or_false]; omega)]
          exact e2 z z0 z1
        · exact iS1_c (e3 k k0 k1) (Int.le_refl _) (fun f hf => by rw [s0 f (by simp only [fK, List.mem_cons, List.not_mem_nil, or_false] at hf; simp only [List.mem_cons, List.not_mem_nil, or_false]; omega)]) (.inr (by rw [s0 1026 (by decide)])) (by rw [s0 1035 (by decide)]) (.inr (zpeak_c (s0 (509 + p) (by simp only [List.mem_cons, List.not_mem_nil, or_false]; omega)) (fun j _ _ => by rw [s0 220 (by decide)])))
    · refine zcal_e 2 2 hI hY (by decide) (by decide) ?_ (by first | exact zd1_1 (by first | assumption | omega) (same_u (by decide) same_r) | exact zd2_1 (by first | assumption | omega) (same_u (by decide) same_r) | exact zd2_2 (by first | assumption | omega) (by first | assumption | omega) (same_u (by decide) same_r) | exact zd3_1 (by first | assumption | omega) (same_u (by decide) same_r) | exact zd3_2 (by first | assumption | omega) (by first | assumption | omega) (same_u (by decide) same_r) | exact zd3_3 (by first | assumption | omega) (by first | assumption | omega) (by first | assumption | omega) (same_u (by decide) same_r))
      · have hst : ev_ G 189 0 [.ref (wA Y 13 0), .int (zJ p), zU] [] (wd Y n s X) = ev_ G 189 33 [.ref (wA Y 13 0), .int (zJ p), .ref (wA Y 2 p)] [.int (zJ 0)] (wd Y n s X) := by
          rw [q_X11_ship_0, k13 h13, hat, t_R]
          by_cases g21 : X 1037 p = 0
          · by_cases g22 : X 1036 p = 0
            · simp (disch := first | assumption | omega) only [g2_1, g2_2, e1, g21, g22, ↓reduceIte, zB_T, zB_F, zB_if, ite_not, z_10, z_00, i_10, i_00, if_true, if_false, c_cIx0, c_cIx1, c_cAr0, c_cAr1, c_cSt0, c_cSt1, l_0, l_1, l_2, l_3, l_4, l_5, l_6, l_7, l_8, l_9, l_10, l_12, l_16, l_24, l_31, l_32, l_48, l_96, l_99, l_100, l_150, l_180, l_200, l_240, l_255, l_260, l_384, l_400, l_999, l_5000, l_9999, l_1000000, l_1000000000, t_I, t_Ie, t_R, t_Re, t_N, t_Nn, t_V, t_Ve, t_b, t_x, t_w, e_0, e_1, e_2, e_3, zJ_lt, zJ_le, zJ_eq]
            · have g23 : ¬zfm X p 1 = 0 := fun g => g2 ⟨g21, g22, by omega⟩
              simp (disch := first | assumption | omega) only [g2_1, g2_2, e1, g21, g22, ↓reduceIte, zB_T, zB_F, zB_if, ite_not, z_10, z_00, i_10, i_00, if_true, if_false, c_cIx0, c_cIx1, c_cAr0, c_cAr1, c_cSt0, c_cSt1, l_0, l_1, l_2, l_3, l_4, l_5, l_6, l_7, l_8, l_9, l_10, l_12, l_16, l_24, l_31, l_32, l_48, l_96, l_99, l_100, l_150, l_180, l_200, l_240, l_255, l_260, l_384, l_400, l_999, l_5000, l_9999, l_1000000, l_1000000000, t_I, t_Ie, t_R, t_Re, t_N, t_Nn, t_V, t_Ve, t_b, t_x, t_w, e_0, e_1, e_2, e_3, zJ_lt, zJ_le, zJ_eq, k2 hV2, hf1, g23]
          · simp (disch := first | assumption | omega) only [g2_1, g2_2, e1, g21, ↓reduceIte, zB_T, zB_F, zB_if, ite_not, z_10, z_00, i_10, i_00, if_true, if_false, c_cIx0, c_cIx1, c_cAr0, c_cAr1, c_cSt0, c_cSt1, l_0, l_1, l_2, l_3, l_4, l_5, l_6, l_7, l_8, l_9, l_10, l_12, l_16, l_24, l_31, l_32, l_48, l_96, l_99, l_100, l_150, l_180, l_200, l_240, l_255, l_260, l_384, l_400, l_999, l_5000, l_9999, l_1000000, l_1000000000, t_I, t_Ie, t_R, t_Re, t_N, t_Nn, t_V, t_Ve, t_b, t_x, t_w, e_0, e_1, e_2, e_3, zJ_lt, zJ_le, zJ_eq]
        show ev_ G 189 0 _ [] _ = _
        rw [hst, q_X11_ship_33, c_cSt0, t_Ve, t_x, t_w]
  · refine zcal_e 0 1 hI hY (by decide) (by decide) ?_ (by first | exact zd1_1 (by first | assumption | omega) (same_u (by decide) same_r) | exact zd2_1 (by first | assumption | omega) (same_u (by decide) same_r) | exact zd2_2 (by first | assumption | omega) (by first | assumption | omega) (same_u (by decide) same_r) | exact zd3_1 (by first | assumption | omega) (same_u (by decide) same_r) | exact zd3_2 (by first | assumption | omega) (by first | assumption | omega) (same_u (by decide) same_r) | exact zd3_3 (by first | assumption | omega) (by first | assumption | omega) (by first | assumption | omega) (same_u (by decide) same_r))
    · show ev_ G 189 0 _ [] _ = _
      rw [q_X11_ship_0, k13 h13, c_boardAt_no hF hp.1 hp.2 g1, t_Re, t_x]
theorem k_flaw (hY : wY Y n) (hI : iAll t Y.2.2.2.2 X) (hp : -2147483648 ≤ p ∧ p < 2147483648) (hq : -2147483648 ≤ q ∧ q < 2147483648) : zcaN [(0, 1), (2, 2)] t Y n s X (fun W => ev_ G 172 0 [.ref (wA Y 13 0), .int (zJ p), .int (zJ q), zU, zU] [] W) (dFlaw X p q) := by
  have hF := wY_F hY
  have h13 := hF.2.1
  have hIw := hF.1
  obtain ⟨hn, hn4⟩ := wY_n hY
  obtain ⟨h1, h2, h3, h4, h5, h6, h7, h8, h9, h10, h11, h12⟩ := id hI
  have hQ4 := hY.2.2.2.2.2.1
  have hQ3 := hY.2.2.2.2.1
  have hm := iS_m h12
  obtain ⟨c1, c2, c3, c4, c5, c6⟩ := id h12
  by_cases g1 : 0 ≤ p ∧ p < Y.2.2.2.2 0 4
  · have hB := wF_B hF g1.1 g1.2
    have hV2 : wV Y 2 p := hB.1
    have hat := c_boardAt (G := G) (n := n) (s := s) (X := X) hF g1.1 g1.2
    obtain ⟨e1, e2, e3⟩ := c6 p g1.1 g1.2
    have b2 := c2 p g1.1 (by omega)
    by_cases g2 : 0 ≤ q ∧ q < 8
    · have hsl := c_slotAt (G := G) (n := n) (s := s) (X := X) hF g1.1 g1.2 g2.1 g2.2
      have hV11 : wV Y 11 (8 * p + q) := hF.2.2.2.2.2.2.2.2.2.2.2.2.2 _ (by omega) (by omega)
      obtain ⟨a1, a2, a3, a4, a5, a6, a7⟩ := e3 (8 * p + q) (by omega) (by omega)
      have b4 := c4 (8 * p + q) (by omega) (by omega)
      have hpt := iS_p h8 h12 hQ4.2 hQ3.2 g1 (show 8 * p ≤ 8 * p + q ∧ 8 * p + q < 8 * p + 8 by omega)
      have hhp := c_hasPart (G := G) (n := n) (s := s) (X := X) hV11 hpt.1
      by_cases g3 : X 1035 p ≠ 0 ∧ X 1037 p = 0 ∧ X 1038 (8 * p + q) ≠ -1
      · obtain ⟨g31, g32, g33⟩ := id g3
        have g34 : ¬X 220 (8 * p + q) = -1 := fun g => g33 (hpt.2.mp g)
        generalize hX1 : wu (wu X 223 (8 * p + q) 3) 224 (8 * p + q) 0 = X1
        have s1 : zsame [223, 224] X X1 := by
          rw [← hX1]
          exact same_u (by decide) (same_u (by decide) same_r)
        have hst : ev_ G 172 0 [.ref (wA Y 13 0), .int (zJ p), .int (zJ q), zU, zU] [] (wd Y n s X) = ev_ G 172 40 [.ref (wA Y 13 0), .int (zJ p), .int (zJ q), .ref (wA Y 2 p), .ref (wA Y 11 (8 * p + q))] [.int (zJ 1)] (wd Y n s X) := by
          rw [q_X11_flaw_0, k13 h13, hat, t_R, k2 hV2, hsl, t_R]
          simp (disch := first | assumption | omega) only [g2_0, g2_2, e1, g31, g32, ↓reduceIte, zB_T, zB_F, zB_if, ite_not, z_10, z_00, i_10, i_00, if_true, if_false, c_cIx0, c_cIx1, c_cAr0, c_cAr1, c_cSt0, c_cSt1, l_0, l_1, l_2, l_3, l_4, l_5, l_6, l_7, l_8, l_9, l_10, l_12, l_16, l_24, l_31, l_32, l_48, l_96, l_99, l_100, l_150, l_180, l_200, l_240, l_255, l_260, l_384, l_400, l_999, l_5000, l_9999, l_1000000, l_1000000000, t_I, t_Ie, t_R, t_Re, t_N, t_Nn, t_V, t_Ve, t_b, t_x, t_w, e_0, e_1, e_2, e_3, zJ_lt, zJ_le, zJ_eq, k11 hV11, hhp, ne_eq, g34, not_false_eq_true]
        generalize hX2 : wu (wu (wu X1 444 0 0) 1041 (8 * p + q) 3) 1042 (8 * p + q) 0 = X2
        refine zcaN_0 (X1 := X1) (X2 := X2) hY ?_ (zd2_0 (by omega) g3 ⟨fun k => by rw [← hX2, ← hX1]; simp (disch := decide) only [wu_ne, wu_v], fun k => by rw [← hX2, ← hX1]; simp (disch := decide) only [wu_ne, wu_v], by rw [← hX2]; exact same_u (by decide) (same_u (by decide) (same_u (by decide) (same_m s1 (by decide))))⟩) ?_ ?_ (fun f hf => funext fun j => by (try rw [← hX2]); (try rw [← hX0]); simp (disch := omega) only [wu_ne]) (fun f hf => by first | exact s0 f (by simp only [List.mem_cons, List.not_mem_nil, or_false, not_or]; omega) | (funext j; (try rw [← hX2]); (try rw [← hX0]); (try rw [← hX1]); (try rw [← hXB]); (try rw [← hXA]); simp (disch := omega) only [wu_ne]))
        · show ev_ G 172 0 _ [] _ = _
          rw [hst, q_X11_flaw_40, c_cSt1, t_V, l_3, p11_3 hV11 hIw, t_b, t_0, l_0, p11_4 hV11 hIw, t_b, hX1]
        · rw [← hX2, wu_ne (by decide), wu_ne (by decide), wu_eq]
        · have s0 : zsame [223, 224, 444, 1041, 1042] X X2 := by
            rw [← hX2]
            exact same_u (by decide) (same_u (by decide) (same_u (by decide) (same_m s1 (by decide))))
          have f223 : ∀ k, X2 223 k = if k = 8 * p + q then 3 else X 223 k := fun k => by
            rw [← hX2, ← hX1]
            simp (disch := decide) only [wu_ne, wu_v]
          have f224 : ∀ k, X2 224 k = if k = 8 * p + q then 0 else X 224 k := fun k => by
            rw [← hX2, ← hX1]
            simp (disch := decide) only [wu_ne, wu_v]
          have f1041 : ∀ k, X2 1041 k = if k = 8 * p + q then 3 else X 1041 k := fun k => by
            rw [← hX2, ← hX1]
            simp (disch := decide) only [wu_ne, wu_v]
          have f1042 : ∀ k, X2 1042 k = if k = 8 * p + q then 0 else X 1042 k := fun k => by
            rw [← hX2, ← hX1]
            simp (disch := decide) only [wu_ne, wu_v]
          refine ⟨iB_c h1 (same_g s0 (by decide)) rfl, iC_c h2 (same_g s0 (by decide)) rfl, iT_c h3 (same_g s0 (by decide)) rfl, iW_c h4 (same_g s0 (by decide)) (fun _ _ _ => rfl) hn, iF_c h5 (same_g s0 (by decide)), iO_c h6 (same_g s0 (by decide)), iD_c h7 (same_g s0 (by decide)) (by omega), iR_c h8 (same_g s0 (by decide)) rfl, iM_c h9 (same_g s0 (by decide)), iV_c h10 (same_g s0 (by decide)), iH_c h11 (same_g s0 (by decide)), ?_⟩
          refine iS_u h12 g1 hn4 (by rw [s0 434 (by decide)]) (fun b hb f hf => by rw [s0 f (by simp only [List.mem_cons, List.not_mem_nil, or_false] at hf ⊢; omega)]) (fun b b0 b1 _ => s0 (509 + b) (by simp only [List.mem_cons, List.not_mem_nil, or_false]; omega)) (fun k hk f hf => ?_) (s0 1026 (by decide)) ?_ (fun k k0 k1 => ?_) ?_ (fun z z0 z1 => ?_) (fun k k0 k1 => ?_)
          · have hkn : ¬k = 8 * p + q := by omega
            simp only [fK, List.mem_cons, List.not_mem_nil, or_false] at hf
            rcases hf with e | e | e | e | e | e | e | e | e | e | e | e | e | e <;> subst e
            · rw [s0 220 (by decide)]
            · rw [s0 221 (by decide)]
            · rw [s0 222 (by decide)]
            · rw [f223, if_neg hkn]
            · rw [f224, if_neg hkn]
            · rw [s0 225 (by decide)]
            · rw [s0 226 (by decide)]
            · rw [s0 227 (by decide)]
            · rw [s0 1038 (by decide)]
            · rw [s0 1039 (by decide)]
            · rw [s0 1040 (by decide)]
            · rw [f1041, if_neg hkn]
            · rw [f1042, if_neg hkn]
            · rw [s0 1043 (by decide)]
          · rw [s0 1035 (by decide), s0 1036 (by decide), s0 1037 (by decide)]
            exact b2
          · rw [s0 1038 (by decide), s0 1043 (by decide), f1041, f1042]
            have := c4 k (by omega) (by omega)
            by_cases hk : k = 8 * p + q
            · rw [if_pos hk, if_pos hk]
              omega
            · rw [if_neg hk, if_neg hk]
              exact this
          · rw [s0 1035 (by decide), s0 1036 (by decide), s0 1037 (by decide), s0 40 (by decide), s0 41 (by decide), s0 42 (by decide)]
            exact e1
          · rw [s0 (509 + p) (by simp only [List.mem_cons, List.not_mem_nil, or_false]; omega)]
            exact e2 z z0 z1
          · obtain ⟨d1, d2, d3, d4, d5, d6, d7⟩ := e3 k k0 k1
            have hz : zpeak X2 p = zpeak X p := zpeak_c (s0 (509 + p) (by simp only [List.mem_cons, List.not_mem_nil, or_false]; omega)) (fun j _ _ => by rw [s0 220 (by decide)])
            unfold iS1
            rw [hz, s0 220 (by decide), s0 221 (by decide), s0 222 (by decide), s0 225 (by decide), s0 226 (by decide), s0 227 (by decide), s0 1038 (by decide), s0 1039 (by decide), s0 1040 (by decide), s0 1043 (by decide), s0 1026 (by decide), s0 1035 (by decide), f223, f224, f1041, f1042]
            by_cases hk : k = 8 * p + q
            · rw [if_pos hk, if_pos hk, if_pos hk, if_pos hk]
              refine ⟨⟨d1.1, d1.2.1, rfl, rfl, d1.2.2.2.2⟩, d2, d3, d4, d5, fun g => absurd (hk ▸ g) g33, fun g => absurd g g31⟩
            · rw [if_neg hk, if_neg hk, if_neg hk, if_neg hk]
              exact ⟨d1, d2, d3, d4, d5, d6, d7⟩
      · refine zcaN_e 2 2 hI hY (by decide) (by decide) ?_ (by first | exact zd1_1 (by first | assumption | omega) (same_u (by decide) same_r) | exact zd2_1 (by first | assumption | omega) (same_u (by decide) same_r) | exact zd2_2 (by first | assumption | omega) (by first | assumption | omega) (same_u (by decide) same_r) | exact zd3_1 (by first | assumption | omega) (same_u (by decide) same_r) | exact zd3_2 (by first | assumption | omega) (by first | assumption | omega) (same_u (by decide) same_r) | exact zd3_3 (by first | assumption | omega) (by first | assumption | omega) (by first | assumption | omega) (same_u (by decide) same_r))
        have hst : ev_ G 172 0 [.ref (wA Y 13 0), .int (zJ p), .int (zJ q), zU, zU] [] (wd Y n s X) = ev_ G 172 40 [.ref (wA Y 13 0), .int (zJ p), .int (zJ q), .ref (wA Y 2 p), .ref (wA Y 11 (8 * p + q))] [.int (zJ 0)] (wd Y n s X) := by
          rw [q_X11_flaw_0, k13 h13, hat, t_R, k2 hV2, hsl, t_R]
          by_cases g31 : X 1035 p = 0
          · simp (disch := first | assumption | omega) only [g2_0, g2_2, e1, g31, ↓reduceIte, zB_T, zB_F, zB_if, ite_not, z_10, z_00, i_10, i_00, if_true, if_false, c_cIx0, c_cIx1, c_cAr0, c_cAr1, c_cSt0, c_cSt1, l_0, l_1, l_2, l_3, l_4, l_5, l_6, l_7, l_8, l_9, l_10, l_12, l_16, l_24, l_31, l_32, l_48, l_96, l_99, l_100, l_150, l_180, l_200, l_240, l_255, l_260, l_384, l_400, l_999, l_5000, l_9999, l_1000000, l_1000000000, t_I, t_Ie, t_R, t_Re, t_N, t_Nn, t_V, t_Ve, t_b, t_x, t_w, e_0, e_1, e_2, e_3, zJ_lt, zJ_le, zJ_eq]
          · by_cases g32 : X 1037 p = 0
            · have g34 : X 220 (8 * p + q) = -1 := by
                by_cases g : X 220 (8 * p + q) = -1
                · exact g
                · exact absurd ⟨g31, g32, fun e => g (hpt.2.mpr e)⟩ g3
              simp (disch := first | assumption | omega) only [g2_0, g2_2, e1, g31, g32, ↓reduceIte, zB_T, zB_F, zB_if, ite_not, z_10, z_00, i_10, i_00, if_true, if_false, c_cIx0, c_cIx1, c_cAr0, c_cAr1, c_cSt0, c_cSt1, l_0, l_1, l_2, l_3, l_4, l_5, l_6, l_7, l_8, l_9, l_10, l_12, l_16, l_24, l_31, l_32, l_48, l_96, l_99, l_100, l_150, l_180, l_200, l_240, l_255, l_260, l_384, l_400, l_999, l_5000, l_9999, l_1000000, l_1000000000, t_I, t_Ie, t_R, t_Re, t_N, t_Nn, t_V, t_Ve, t_b, t_x, t_w, e_0, e_1, e_2, e_3, zJ_lt, zJ_le, zJ_eq, k11 hV11, hhp, ne_eq, g34, not_true_eq_false]
            · simp (disch := first | assumption | omega) only [g2_0, g2_2, e1, g31, g32, ↓reduceIte, zB_T, zB_F, zB_if, ite_not, z_10, z_00, i_10, i_00, if_true, if_false, c_cIx0, c_cIx1, c_cAr0, c_cAr1, c_cSt0, c_cSt1, l_0, l_1, l_2, l_3, l_4, l_5, l_6, l_7, l_8, l_9, l_10, l_12, l_16, l_24, l_31, l_32, l_48, l_96, l_99, l_100, l_150, l_180, l_200, l_240, l_255, l_260, l_384, l_400, l_999, l_5000, l_9999, l_1000000, l_1000000000, t_I, t_Ie, t_R, t_Re, t_N, t_Nn, t_V, t_Ve, t_b, t_x, t_w, e_0, e_1, e_2, e_3, zJ_lt, zJ_le, zJ_eq]
        show ev_ G 172 0 _ [] _ = _
        rw [hst, q_X11_flaw_40, c_cSt0, t_Ve, t_x, t_w]
    · refine zcaN_e 0 1 hI hY (by decide) (by decide) ?_ (by first | exact zd1_1 (by first | assumption | omega) (same_u (by decide) same_r) | exact zd2_1 (by first | assumption | omega) (same_u (by decide) same_r) | exact zd2_2 (by first | assumption | omega) (by first | assumption | omega) (same_u (by decide) same_r) | exact zd3_1 (by first | assumption | omega) (same_u (by decide) same_r) | exact zd3_2 (by first | assumption | omega) (by first | assumption | omega) (same_u (by decide) same_r) | exact zd3_3 (by first | assumption | omega) (by first | assumption | omega) (by first | assumption | omega) (same_u (by decide) same_r))
      show ev_ G 172 0 _ [] _ = _
      rw [q_X11_flaw_0, k13 h13, hat, t_R, k2 hV2, c_slotAt_no hF g1.1 g1.2 hq.1 hq.2 g2, t_Re, t_x]
  · refine zcaN_e 0 1 hI hY (by decide) (by decide) ?_ (by first | exact zd1_1 (by first | assumption | omega) (same_u (by decide) same_r) | exact zd2_1 (by first | assumption | omega) (same_u (by decide) same_r) | exact zd2_2 (by first | assumption | omega) (by first | assumption | omega) (same_u (by decide) same_r) | exact zd3_1 (by first | assumption | omega) (same_u (by decide) same_r) | exact zd3_2 (by first | assumption | omega) (by first | assumption | omega) (same_u (by decide) same_r) | exact zd3_3 (by first | assumption | omega) (by first | assumption | omega) (by first | assumption | omega) (same_u (by decide) same_r))
    show ev_ G 172 0 _ [] _ = _
    rw [q_X11_flaw_0, k13 h13, c_boardAt_no hF hp.1 hp.2 g1, t_Re, t_x]
end ZK
