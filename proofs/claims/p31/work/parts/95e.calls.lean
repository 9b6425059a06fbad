/-! THE TWO SIDES, 74: calls on both sides: bundle, connector, reel, board -/
section ZI
variable {X X' : zX} {Q Q' : zQs}
def fW2 : List Int := [410, 246, 1011, 244, 1013, 241, 243, 1012, 1014, 1015, 245]
theorem iW_g (h : iW Q X) (g : ∀ f ∈ fW2, X' f = X f) (g63 : ∀ i, 0 ≤ i → i < Q 0 0 → X' 63 i = X 63 i) (q00 : Q 0 0 ≤ Q' 0 0) (q01 : Q 0 1 ≤ Q' 0 1) (q02 : Q' 0 2 = Q 0 2) (q : ∀ a i, (a = 0 ∧ 5 ≤ i ∧ i < 29) ∨ 2 ≤ a → Q' a i = Q a i) (hn : Q 0 2 ≤ 24) : iW Q' X' := by
  obtain ⟨h1, h2, h3, h4⟩ := h
  unfold iW
  rw [q02, g 410 (by decide), g 1011 (by decide)]
  refine ⟨h1, h2, h3, fun w w1 w2 => ?_⟩
  obtain ⟨a1, a2, a3, a4, a5, a6⟩ := h4 w w1 w2
  have q4 : Q' 4 = Q 4 := funext fun i => q 4 i (.inr (by decide))
  unfold iW1
  rw [g 246 (by decide), g 1011 (by decide), g 244 (by decide), g 1013 (by decide), g 241 (by decide), g 243 (by decide), g 1012 (by decide), g 1014 (by decide), g 1015 (by decide), g 245 (by decide), q 0 (5 + w) (.inl ⟨rfl, by omega, by omega⟩), q 2 w (.inr (by decide)), q 3 w (.inr (by decide)), q4]
  refine ⟨a1, a2, by omega, a4, fun j j0 j1 => ?_, ?_⟩
  · have := a5 j j0 j1
    exact ⟨this.1, this.2.1, by omega⟩
  · rw [a6]
    refine zsm_congr _ _ (fun j j0 j1 => ?_)
    have := a5 (j - 16 * w) (by omega) (by omega)
    rw [show 16 * w + (j - 16 * w) = j by omega] at this
    exact (g63 _ this.2.1 this.2.2).symm
def fS2 : List Int := [434, 1035, 1036, 1037, 1038, 1039, 1040, 1041, 1042, 1043, 40, 41, 42, 220, 221, 222, 223, 224, 225, 226, 227, 509, 510, 511, 512, 513, 514, 515, 516, 517, 518, 519, 520]
theorem iS_g (h : iS Q X) (g : ∀ f ∈ fS2, X' f = X f) (g26 : ∀ r, 0 ≤ r → r < Q 0 3 → X' 1026 r = X 1026 r) (q : Q' 0 4 = Q 0 4) (q3 : Q 0 3 ≤ Q' 0 3) (hn : Q 0 4 ≤ 12) : iS Q' X' := by
  obtain ⟨h1, h2, h3, h4, h5, h6⟩ := h
  unfold iS
  rw [q, g 434 (by decide), g 1035 (by decide), g 1036 (by decide), g 1037 (by decide), g 1038 (by decide), g 1039 (by decide), g 1040 (by decide), g 1041 (by decide), g 1042 (by decide), g 1043 (by decide), g 40 (by decide), g 41 (by decide), g 42 (by decide)]
  refine ⟨h1, h2, h3, h4, h5, fun b b1 b2 => ?_⟩
  obtain ⟨e1, e2, e3⟩ := h6 b b1 b2
  have e5 : X' (509 + b) = X (509 + b) := by
    have : 509 + b = 509 ∨ 509 + b = 510 ∨ 509 + b = 511 ∨ 509 + b = 512 ∨ 509 + b = 513 ∨ 509 + b = 514 ∨ 509 + b = 515 ∨ 509 + b = 516 ∨ 509 + b = 517 ∨ 509 + b = 518 ∨ 509 + b = 519 ∨ 509 + b = 520 := by omega
    rcases this with e | e | e | e | e | e | e | e | e | e | e | e <;> rw [e] <;> exact g _ (by decide)
  rw [e5]
  refine ⟨e1, e2, fun k k1 k2 => ?_⟩
  have hr := (h4 k (by omega) (by omega)).1
  have e4 := e3 k k1 k2
  unfold iS1 zpeak zmass at e4 ⊢
  rw [g 1035 (by decide), g 1038 (by decide), g 1039 (by decide), g 1040 (by decide), g 1041 (by decide), g 1042 (by decide), g 1043 (by decide), g 220 (by decide), g 221 (by decide), g 222 (by decide), g 223 (by decide), g 224 (by decide), g 225 (by decide), g 226 (by decide), g 227 (by decide), e5]
  obtain ⟨c1, c2, c3, c4⟩ := e4
  refine ⟨c1, by omega, ?_, c4⟩
  rw [c3]
  by_cases hk : X 1038 k = -1
  · rw [if_pos hk, if_pos hk]
  · rw [if_neg hk, if_neg hk, g26 _ (by omega) c2]
end ZI
section ZK
variable {Y : zLy} {n s : Nat} {X : zX} {G : Nat × Nat} {t p q r u : Int}
theorem k_bundle (hY : wY Y n) (hG : Y.1 = G.1) (hI : iAll t Y.2.2.2.2 X) (hp : -2147483648 ≤ p ∧ p < 2147483648) (hq : -2147483648 ≤ q ∧ q < 2147483648) (hr : -2147483648 ≤ r ∧ r < 2147483648) (hu : -2147483648 ≤ u ∧ u < 2147483648) : zcal [(0, 1), (1, 2), (2, 3)] t Y n s X (fun W => ev_ G 29 0 [.ref (wA Y 13 0), .int (zJ p), .int (zJ q), .int (zJ r), .int (zJ u)] [] W) (dBundle X p q r u) := by
  have hF := wY_F hY
  have h13 := hF.2.1
  have hIw := hF.1
  obtain ⟨hn, hn4⟩ := wY_n hY
  obtain ⟨h1, h2, h3, h4, h5, h6, h7, h8, h9, h10, h11, h12⟩ := id hI
  have h6' := hF.2.2.2.1
  have hl0 := hF.2.2.2.2.2.2.2.1 0 (by decide) (by decide)
  have hQ0 := hY.2.1
  have z1 := h1.1
  by_cases g1 : (0 ≤ p ∧ p < 8) ∧ (0 ≤ q ∧ q < 8)
  · obtain ⟨g11, g12⟩ := id g1
    have hs1 : ev_ G 29 0 [.ref (wA Y 13 0), .int (zJ p), .int (zJ q), .int (zJ r), .int (zJ u)] [] (wd Y n s X) = ev_ G 29 23 [.ref (wA Y 13 0), .int (zJ p), .int (zJ q), .int (zJ r), .int (zJ u)] [.int (zJ 1)] (wd Y n s X) := by
      simp (disch := first | assumption | omega) only [q_X11_bundle_0, c_isIndex, ↓reduceIte, zB_T, zB_F, zB_if, ite_not, z_10, z_00, i_10, i_00, if_true, if_false, c_cIx0, c_cIx1, c_cAr0, c_cAr1, c_cSt0, c_cSt1, l_0, l_1, l_2, l_3, l_4, l_5, l_6, l_7, l_8, l_9, l_10, l_12, l_16, l_24, l_31, l_32, l_48, l_96, l_99, l_100, l_150, l_180, l_200, l_240, l_255, l_260, l_384, l_400, l_999, l_5000, l_9999, l_1000000, l_1000000000, t_I, t_Ie, t_R, t_Re, t_N, t_Nn, t_V, t_Ve, t_b, t_x, t_w, e_0, e_1, e_2, e_3, g11, g12, and_self]
    by_cases g2 : p ≠ q ∧ (1 ≤ r ∧ r ≤ 999) ∧ (1 ≤ u ∧ u ≤ 24)
    · obtain ⟨g21, g22, g23⟩ := id g2
      have hs2 : ev_ G 29 23 [.ref (wA Y 13 0), .int (zJ p), .int (zJ q), .int (zJ r), .int (zJ u)] [.int (zJ 1)] (wd Y n s X) = ev_ G 29 58 [.ref (wA Y 13 0), .int (zJ p), .int (zJ q), .int (zJ r), .int (zJ u)] [.int (zJ 1)] (wd Y n s X) := by
        simp (disch := first | assumption | omega) only [q_X11_bundle_23, c_isWithin, ↓reduceIte, zB_T, zB_F, zB_if, ite_not, z_10, z_00, i_10, i_00, if_true, if_false, c_cIx0, c_cIx1, c_cAr0, c_cAr1, c_cSt0, c_cSt1, l_0, l_1, l_2, l_3, l_4, l_5, l_6, l_7, l_8, l_9, l_10, l_12, l_16, l_24, l_31, l_32, l_48, l_96, l_99, l_100, l_150, l_180, l_200, l_240, l_255, l_260, l_384, l_400, l_999, l_5000, l_9999, l_1000000, l_1000000000, t_I, t_Ie, t_R, t_Re, t_N, t_Nn, t_V, t_Ve, t_b, t_x, t_w, e_0, e_1, e_2, e_3, zJ_lt, zJ_le, zJ_eq, g21, g22, g23, and_self]
      by_cases g3 : Y.2.2.2.2 0 0 < 16
      · have g4 : ¬16 ≤ Y.2.2.2.2 0 0 := by omega
        have hs3 : ev_ G 29 58 [.ref (wA Y 13 0), .int (zJ p), .int (zJ q), .int (zJ r), .int (zJ u)] [.int (zJ 1)] (wd Y n s X) = ev_ G 29 81 [.ref (wA Y 13 0), .int (zJ p), .int (zJ q), .int (zJ r), .int (zJ u)] [.int (zJ 1)] (wd Y n s X) := by
          simp (disch := first | assumption | omega) only [q_X11_bundle_58, ↓reduceIte, zB_T, zB_F, zB_if, ite_not, z_10, z_00, i_10, i_00, if_true, if_false, c_cIx0, c_cIx1, c_cAr0, c_cAr1, c_cSt0, c_cSt1, l_0, l_1, l_2, l_3, l_4, l_5, l_6, l_7, l_8, l_9, l_10, l_12, l_16, l_24, l_31, l_32, l_48, l_96, l_99, l_100, l_150, l_180, l_200, l_240, l_255, l_260, l_384, l_400, l_999, l_5000, l_9999, l_1000000, l_1000000000, t_I, t_Ie, t_R, t_Re, t_N, t_Nn, t_V, t_Ve, t_b, t_x, t_w, e_0, e_1, e_2, e_3, zJ_lt, zJ_le, zJ_eq, g13_0, g6_0, k1 hl0.1, c_size hl0, g4]
        obtain ⟨Y', n', s', e1, e2, e3, e4, e5, e6, e7, e8⟩ := c_addBundle (G := G) (n := n) (s := s) (X := X) (p := p) (q := q) (r := r) (t := u) hY hG g3
        generalize hb : Y.2.2.2.2 0 0 = b at g3 e1 e7 hQ0 z1
        generalize hX1 : wu (wu (wu (wu (wu (wu X 60 b b) 61 b p) 62 b q) 63 b r) 64 b u) 20 0 (X 20 0 + 1) = X1 at e1
        have a400 : X1 400 0 = b := by
          rw [← hX1, wu_ne (by decide), wu_ne (by decide), wu_ne (by decide), wu_ne (by decide), wu_ne (by decide), wu_ne (by decide), z1]
        generalize hX2 : wu (wu (wu (wu (wu (wu X1 444 0 0) 1001 b p) 1002 b q) 1003 b r) 1004 b u) 400 0 (b + 1) = X2
        refine ⟨Y', n', s', X1, X2, 0, b, .inl ⟨rfl, ?_⟩, (by rw [show dBundle X p q r u = dBundle X p q r u from rfl]; exact zd3_0 g1 g2 (by omega) ⟨z1.symm, by rw [← hX2, wu_eq, z1], fun i => by rw [z1, ← hX2, ← hX1]; simp (disch := decide) only [wu_ne, wu_v], fun i => by rw [z1, ← hX2, ← hX1]; simp (disch := decide) only [wu_ne, wu_v], fun i => by rw [z1, ← hX2, ← hX1]; simp (disch := decide) only [wu_ne, wu_v], fun i => by rw [z1, ← hX2, ← hX1]; simp (disch := decide) only [wu_ne, wu_v], by rw [← hX2, ← hX1]; exact same_u (by decide) (same_u (by decide) (same_u (by decide) (same_u (by decide) (same_u (by decide) (same_u (by decide) (same_u (by decide) (same_u (by decide) (same_u (by decide) (same_u (by decide) (same_u (by decide) (same_u (by decide) same_r)))))))))))⟩), ?_, by omega, e2, e3, by omega, e5, by omega, ?_, (fun f hf => funext fun j => by (try rw [← hX2]); (try rw [← hX0]); simp (disch := omega) only [wu_ne]), (fun f hf => by first | exact s0 f (by simp only [List.mem_cons, List.not_mem_nil, or_false, not_or]; omega) | (funext j; (try rw [← hX2]); (try rw [← hX0]); (try rw [← hX1]); (try rw [← hXB]); (try rw [← hXA]); simp (disch := omega) only [wu_ne]))⟩
        · show ev_ G 29 0 _ [] _ = _
          rw [hs1, hs2, hs3]
          simp (disch := first | assumption | omega) only [q_X11_bundle_81, ↓reduceIte, zB_T, zB_F, zB_if, ite_not, z_10, z_00, i_10, i_00, if_true, if_false, c_cIx0, c_cIx1, c_cAr0, c_cAr1, c_cSt0, c_cSt1, l_0, l_1, l_2, l_3, l_4, l_5, l_6, l_7, l_8, l_9, l_10, l_12, l_16, l_24, l_31, l_32, l_48, l_96, l_99, l_100, l_150, l_180, l_200, l_240, l_255, l_260, l_384, l_400, l_999, l_5000, l_9999, l_1000000, l_1000000000, t_I, t_Ie, t_R, t_Re, t_N, t_Nn, t_V, t_Ve, t_b, t_x, t_w, e_0, e_1, e_2, e_3, g13_0, k6 h6', e1]
        · rw [← hX2, wu_ne (by decide), wu_ne (by decide), wu_ne (by decide), wu_ne (by decide), wu_ne (by decide), wu_eq]
        · have s0 : zsame [60, 61, 62, 63, 64, 20, 444, 1001, 1002, 1003, 1004, 400] X X2 := by
            rw [← hX2, ← hX1]
            exact same_u (by decide) (same_u (by decide) (same_u (by decide) (same_u (by decide) (same_u (by decide) (same_u (by decide) (same_u (by decide) (same_u (by decide) (same_u (by decide) (same_u (by decide) (same_u (by decide) (same_u (by decide) same_r)))))))))))
          have f400 : X2 400 0 = b + 1 := by rw [← hX2, wu_eq]
          have f60 : ∀ i, X2 60 i = if i = b then b else X 60 i := fun i => by
            rw [← hX2, ← hX1]
            simp (disch := decide) only [wu_ne, wu_v]
          have f61 : ∀ i, X2 61 i = if i = b then p else X 61 i := fun i => by
            rw [← hX2, ← hX1]
            simp (disch := decide) only [wu_ne, wu_v]
          have f62 : ∀ i, X2 62 i = if i = b then q else X 62 i := fun i => by
            rw [← hX2, ← hX1]
            simp (disch := decide) only [wu_ne, wu_v]
          have f63 : ∀ i, X2 63 i = if i = b then r else X 63 i := fun i => by
            rw [← hX2, ← hX1]
            simp (disch := decide) only [wu_ne, wu_v]
          have f64 : ∀ i, X2 64 i = if i = b then u else X 64 i := fun i => by
            rw [← hX2, ← hX1]
            simp (disch := decide) only [wu_ne, wu_v]
          have f1001 : ∀ i, X2 1001 i = if i = b then p else X 1001 i := fun i => by
            rw [← hX2, ← hX1]
            simp (disch := decide) only [wu_ne, wu_v]
          have f1002 : ∀ i, X2 1002 i = if i = b then q else X 1002 i := fun i => by
            rw [← hX2, ← hX1]
            simp (disch := decide) only [wu_ne, wu_v]
          have f1003 : ∀ i, X2 1003 i = if i = b then r else X 1003 i := fun i => by
            rw [← hX2, ← hX1]
            simp (disch := decide) only [wu_ne, wu_v]
          have f1004 : ∀ i, X2 1004 i = if i = b then u else X 1004 i := fun i => by
            rw [← hX2, ← hX1]
            simp (disch := decide) only [wu_ne, wu_v]
          have k0 : ∀ i, i ≠ 0 → Y'.2.2.2.2 0 i = Y.2.2.2.2 0 i := fun i hi => e8 0 i (.inl hi)
          refine ⟨?_, iC_c h2 (same_g s0 (by decide)) (k0 1 (by decide)), iT_c h3 (same_g s0 (by decide)) (k0 1 (by decide)), ?_, iF_c h5 (same_g s0 (by decide)), iO_c h6 (same_g s0 (by decide)), iD_c h7 (same_g s0 (by decide)) (by omega), iR_c h8 (same_g s0 (by decide)) (k0 3 (by decide)), iM_c h9 (same_g s0 (by decide)), iV_c h10 (same_g s0 (by decide)), iH_c h11 (same_g s0 (by decide)), iS_c h12 (same_g s0 (by decide)) (k0 4 (by decide)) (k0 3 (by decide)) hn4⟩
          · unfold iB
            rw [f400, e7]
            refine ⟨rfl, fun i i0 i1 => ?_⟩
            rw [f60, f61, f62, f63, f64, f1001, f1002, f1003, f1004]
            by_cases hi : i = b
            · simp only [if_pos hi]
              exact ⟨⟨hi.symm, by trivial, by trivial, by trivial, by trivial⟩, by omega⟩
            · simp only [hi, if_false]
              have := h1.2 i i0 (by omega)
              exact this
          · refine iW_g h4 (same_g s0 (by decide)) (fun i i0 i1 => ?_) (by omega) (by rw [k0 1 (by decide)]; exact Int.le_refl _) (k0 2 (by decide)) (fun a i g => e8 a i (by omega)) hn
            rw [f63, if_neg (by omega)]
      · have g4 : 16 ≤ Y.2.2.2.2 0 0 := by omega
        refine zcal_e 2 3 hI hY (by decide) (by decide) ?_ (by first | exact zd1_1 (by first | assumption | omega) (same_u (by decide) same_r) | exact zd2_1 (by first | assumption | omega) (same_u (by decide) same_r) | exact zd2_2 (by first | assumption | omega) (by first | assumption | omega) (same_u (by decide) same_r) | exact zd3_1 (by first | assumption | omega) (same_u (by decide) same_r) | exact zd3_2 (by first | assumption | omega) (by first | assumption | omega) (same_u (by decide) same_r) | exact zd3_3 (by first | assumption | omega) (by first | assumption | omega) (by first | assumption | omega) (same_u (by decide) same_r))
        · show ev_ G 29 0 _ [] _ = _
          rw [hs1, hs2]
          simp (disch := first | assumption | omega) only [q_X11_bundle_58, q_X11_bundle_81, ↓reduceIte, zB_T, zB_F, zB_if, ite_not, z_10, z_00, i_10, i_00, if_true, if_false, c_cIx0, c_cIx1, c_cAr0, c_cAr1, c_cSt0, c_cSt1, l_0, l_1, l_2, l_3, l_4, l_5, l_6, l_7, l_8, l_9, l_10, l_12, l_16, l_24, l_31, l_32, l_48, l_96, l_99, l_100, l_150, l_180, l_200, l_240, l_255, l_260, l_384, l_400, l_999, l_5000, l_9999, l_1000000, l_1000000000, t_I, t_Ie, t_R, t_Re, t_N, t_Nn, t_V, t_Ve, t_b, t_x, t_w, e_0, e_1, e_2, e_3, zJ_lt, zJ_le, zJ_eq, g13_0, g6_0, k1 hl0.1, c_size hl0, g4]
    · refine zcal_e 1 2 hI hY (by decide) (by decide) ?_ (by first | exact zd1_1 (by first | assumption | omega) (same_u (by decide) same_r) | exact zd2_1 (by first | assumption | omega) (same_u (by decide) same_r) | exact zd2_2 (by first | assumption | omega) (by first | assumption | omega) (same_u (by decide) same_r) | exact zd3_1 (by first | assumption | omega) (same_u (by decide) same_r) | exact zd3_2 (by first | assumption | omega) (by first | assumption | omega) (same_u (by decide) same_r) | exact zd3_3 (by first | assumption | omega) (by first | assumption | omega) (by first | assumption | omega) (same_u (by decide) same_r))
      · show ev_ G 29 0 _ [] _ = _
        rw [hs1]
        by_cases g21 : p = q
        · simp (disch := first | assumption | omega) only [q_X11_bundle_23, ↓reduceIte, zB_T, zB_F, zB_if, ite_not, z_10, z_00, i_10, i_00, if_true, if_false, c_cIx0, c_cIx1, c_cAr0, c_cAr1, c_cSt0, c_cSt1, l_0, l_1, l_2, l_3, l_4, l_5, l_6, l_7, l_8, l_9, l_10, l_12, l_16, l_24, l_31, l_32, l_48, l_96, l_99, l_100, l_150, l_180, l_200, l_240, l_255, l_260, l_384, l_400, l_999, l_5000, l_9999, l_1000000, l_1000000000, t_I, t_Ie, t_R, t_Re, t_N, t_Nn, t_V, t_Ve, t_b, t_x, t_w, e_0, e_1, e_2, e_3, zJ_lt, zJ_le, zJ_eq, g21]
          simp (disch := first | assumption | omega) only [q_X11_bundle_58, ↓reduceIte, zB_T, zB_F, zB_if, ite_not, z_10, z_00, i_10, i_00, if_true, if_false, c_cIx0, c_cIx1, c_cAr0, c_cAr1, c_cSt0, c_cSt1, l_0, l_1, l_2, l_3, l_4, l_5, l_6, l_7, l_8, l_9, l_10, l_12, l_16, l_24, l_31, l_32, l_48, l_96, l_99, l_100, l_150, l_180, l_200, l_240, l_255, l_260, l_384, l_400, l_999, l_5000, l_9999, l_1000000, l_1000000000, t_I, t_Ie, t_R, t_Re, t_N, t_Nn, t_V, t_Ve, t_b, t_x, t_w, e_0, e_1, e_2, e_3]
        · by_cases g22 : 1 ≤ r ∧ r ≤ 999
          · have g23 : ¬(1 ≤ u ∧ u ≤ 24) := fun g => g2 ⟨g21, g22, g⟩
            simp (disch := first | assumption | omega) only [q_X11_bundle_23, c_isWithin, ↓reduceIte, zB_T, zB_F, zB_if, ite_not, z_10, z_00, i_10, i_00, if_true, if_false, c_cIx0, c_cIx1, c_cAr0, c_cAr1, c_cSt0, c_cSt1, l_0, l_1, l_2, l_3, l_4, l_5, l_6, l_7, l_8, l_9, l_10, l_12, l_16, l_24, l_31, l_32, l_48, l_96, l_99, l_100, l_150, l_180, l_200, l_240, l_255, l_260, l_384, l_400, l_999, l_5000, l_9999, l_1000000, l_1000000000, t_I, t_Ie, t_R, t_Re, t_N, t_Nn, t_V, t_Ve, t_b, t_x, t_w, e_0, e_1, e_2, e_3, zJ_lt, zJ_le, zJ_eq, g21, g22, g23, and_self]
            simp (disch := first | assumption | omega) only [q_X11_bundle_58, ↓reduceIte, zB_T, zB_F, zB_if, ite_not, z_10, z_00, i_10, i_00, if_true, if_false, c_cIx0, c_cIx1, c_cAr0, c_cAr1, c_cSt0, c_cSt1, l_0, l_1, l_2, l_3, l_4, l_5, l_6, l_7, l_8, l_9, l_10, l_12, l_16, l_24, l_31, l_32, l_48, l_96, l_99, l_100, l_150, l_180, l_200, l_240, l_255, l_260, l_384, l_400, l_999, l_5000, l_9999, l_1000000, l_1000000000, t_I, t_Ie, t_R, t_Re, t_N, t_Nn, t_V, t_Ve, t_b, t_x, t_w, e_0, e_1, e_2, e_3]
          · simp (disch := first | assumption | omega) only [q_X11_bundle_23, c_isWithin, ↓reduceIte, zB_T, zB_F, zB_if, ite_not, z_10, z_00, i_10, i_00, if_true, if_false, c_cIx0, c_cIx1, c_cAr0, c_cAr1, c_cSt0, c_cSt1, l_0, l_1, l_2, l_3, l_4, l_5, l_6, l_7, l_8, l_9, l_10, l_12, l_16, l_24, l_31, l_32, l_48, l_96, l_99, l_100, l_150, l_180, l_200, l_240, l_255, l_260, l_384, l_400, l_999, l_5000, l_9999, l_1000000, l_1000000000, t_I, t_Ie, t_R, t_Re, t_N, t_Nn, t_V, t_Ve, t_b, t_x, t_w, e_0, e_1, e_2, e_3, zJ_lt, zJ_le, zJ_eq, g21, g22]
            simp (disch := first | assumption | omega) only [q_X11_bundle_58, ↓reduceIte, zB_T, zB_F, zB_if, ite_not, z_10, z_00, i_10, i_00, if_true, if_false, c_cIx0, c_cIx1, c_cAr0, c_cAr1, c_cSt0, c_cSt1, l_0, l_1, l_2, l_3, l_4, l_5, l_6, l_7, l_8, l_9, l_10, l_12, l_16, l_24, l_31, l_32, l_48, l_96, l_99, l_100, l_150, l_180, l_200, l_240, l_255, l_260, l_384, l_400, l_999, l_5000, l_9999, l_1000000, l_1000000000, t_I, t_Ie, t_R, t_Re, t_N, t_Nn, t_V, t_Ve, t_b, t_x, t_w, e_0, e_1, e_2, e_3]
  · refine zcal_e 0 1 hI hY (by decide) (by decide) ?_ (by first | exact zd1_1 (by first | assumption | omega) (same_u (by decide) same_r) | exact zd2_1 (by first | assumption | omega) (same_u (by decide) same_r) | exact zd2_2 (by first | assumption | omega) (by first | assumption | omega) (same_u (by decide) same_r) | exact zd3_1 (by first | assumption | omega) (same_u (by decide) same_r) | exact zd3_2 (by first | assumption | omega) (by first | assumption | omega) (same_u (by decide) same_r) | exact zd3_3 (by first | assumption | omega) (by first | assumption | omega) (by first | assumption | omega) (same_u (by decide) same_r))
    · show ev_ G 29 0 _ [] _ = _
      by_cases g11 : 0 ≤ p ∧ p < 8
      · have g12 : ¬(0 ≤ q ∧ q < 8) := fun g => g1 ⟨g11, g⟩
        simp (disch := first | assumption | omega) only [q_X11_bundle_0, c_isIndex, ↓reduceIte, zB_T, zB_F, zB_if, ite_not, z_10, z_00, i_10, i_00, if_true, if_false, c_cIx0, c_cIx1, c_cAr0, c_cAr1, c_cSt0, c_cSt1, l_0, l_1, l_2, l_3, l_4, l_5, l_6, l_7, l_8, l_9, l_10, l_12, l_16, l_24, l_31, l_32, l_48, l_96, l_99, l_100, l_150, l_180, l_200, l_240, l_255, l_260, l_384, l_400, l_999, l_5000, l_9999, l_1000000, l_1000000000, t_I, t_Ie, t_R, t_Re, t_N, t_Nn, t_V, t_Ve, t_b, t_x, t_w, e_0, e_1, e_2, e_3, g11, g12, and_self]
        simp (disch := first | assumption | omega) only [q_X11_bundle_23, ↓reduceIte, zB_T, zB_F, zB_if, ite_not, z_10, z_00, i_10, i_00, if_true, if_false, c_cIx0, c_cIx1, c_cAr0, c_cAr1, c_cSt0, c_cSt1, l_0, l_1, l_2, l_3, l_4, l_5, l_6, l_7, l_8, l_9, l_10, l_12, l_16, l_24, l_31, l_32, l_48, l_96, l_99, l_100, l_150, l_180, l_200, l_240, l_255, l_260, l_384, l_400, l_999, l_5000, l_9999, l_1000000, l_1000000000, t_I, t_Ie, t_R, t_Re, t_N, t_Nn, t_V, t_Ve, t_b, t_x, t_w, e_0, e_1, e_2, e_3]
      · simp (disch := first | assumption | omega) only [q_X11_bundle_0, c_isIndex, ↓reduceIte, zB_T, zB_F, zB_if, ite_not, z_10, z_00, i_10, i_00, if_true, if_false, c_cIx0, c_cIx1, c_cAr0, c_cAr1, c_cSt0, c_cSt1, l_0, l_1, l_2, l_3, l_4, l_5, l_6, l_7, l_8, l_9, l_10, l_12, l_16, l_24, l_31, l_32, l_48, l_96, l_99, l_100, l_150, l_180, l_200, l_240, l_255, l_260, l_384, l_400, l_999, l_5000, l_9999, l_1000000, l_1000000000, t_I, t_Ie, t_R, t_Re, t_N, t_Nn, t_V, t_Ve, t_b, t_x, t_w, e_0, e_1, e_2, e_3, g11]
        simp (disch := first | assumption | omega) only [q_X11_bundle_23, ↓reduceIte, zB_T, zB_F, zB_if, ite_not, z_10, z_00, i_10, i_00, if_true, if_false, c_cIx0, c_cIx1, c_cAr0, c_cAr1, c_cSt0, c_cSt1, l_0, l_1, l_2, l_3, l_4, l_5, l_6, l_7, l_8, l_9, l_10, l_12, l_16, l_24, l_31, l_32, l_48, l_96, l_99, l_100, l_150, l_180, l_200, l_240, l_255, l_260, l_384, l_400, l_999, l_5000, l_9999, l_1000000, l_1000000000, t_I, t_Ie, t_R, t_Re, t_N, t_Nn, t_V, t_Ve, t_b, t_x, t_w, e_0, e_1, e_2, e_3]
theorem k_connector (hY : wY Y n) (hG : Y.1 = G.1) (hI : iAll t Y.2.2.2.2 X) (hp : -2147483648 ≤ p ∧ p < 2147483648) (hq : -2147483648 ≤ q ∧ q < 2147483648) (hr : -2147483648 ≤ r ∧ r < 2147483648) : zcal [(0, 1), (1, 2), (2, 3)] t Y n s X (fun W => ev_ G 38 0 [.ref (wA Y 13 0), .int (zJ p), .int (zJ q), .int (zJ r)] [] W) (dConnector X p q r) := by
  have hF := wY_F hY
  have h13 := hF.2.1
  have hIw := hF.1
  obtain ⟨hn, hn4⟩ := wY_n hY
  obtain ⟨h1, h2, h3, h4, h5, h6, h7, h8, h9, h10, h11, h12⟩ := id hI
  have h6' := hF.2.2.2.1
  have hl0 := hF.2.2.2.2.2.2.2.1 1 (by decide) (by decide)
  have hQ0 := hY.2.2.1
  have z1 := h2.1
  by_cases g1 : 0 ≤ p ∧ p < 8
  · by_cases g2 : (1 ≤ q ∧ q ≤ 8) ∧ (0 ≤ r ∧ r ≤ 9)
    · obtain ⟨g21, g22⟩ := id g2
      have hs2 : ev_ G 38 0 [.ref (wA Y 13 0), .int (zJ p), .int (zJ q), .int (zJ r)] [] (wd Y n s X) = ev_ G 38 34 [.ref (wA Y 13 0), .int (zJ p), .int (zJ q), .int (zJ r)] [.int (zJ 1)] (wd Y n s X) := by
        simp (disch := first | assumption | omega) only [q_X11_connector_0, c_isIndex, c_isWithin, ↓reduceIte, zB_T, zB_F, zB_if, ite_not, z_10, z_00, i_10, i_00, if_true, if_false, c_cIx0, c_cIx1, c_cAr0, c_cAr1, c_cSt0, c_cSt1, l_0, l_1, l_2, l_3, l_4, l_5, l_6, l_7, l_8, l_9, l_10, l_12, l_16, l_24, l_31, l_32, l_48, l_96, l_99, l_100, l_150, l_180, l_200, l_240, l_255, l_260, l_384, l_400, l_999, l_5000, l_9999, l_1000000, l_1000000000, t_I, t_Ie, t_R, t_Re, t_N, t_Nn, t_V, t_Ve, t_b, t_x, t_w, e_0, e_1, e_2, e_3, zJ_lt, zJ_le, zJ_eq, g1, g21, g22, and_self]
      by_cases g3 : Y.2.2.2.2 0 1 < 8
      · have g4 : ¬8 ≤ Y.2.2.2.2 0 1 := by omega
        have hs3 : ev_ G 38 34 [.ref (wA Y 13 0), .int (zJ p), .int (zJ q), .int (zJ r)] [.int (zJ 1)] (wd Y n s X) = ev_ G 38 57 [.ref (wA Y 13 0), .int (zJ p), .int (zJ q), .int (zJ r)] [.int (zJ 1)] (wd Y n s X) := by
          simp (disch := first | assumption | omega) only [q_X11_connector_34, ↓reduceIte, zB_T, zB_F, zB_if, ite_not, z_10, z_00, i_10, i_00, if_true, if_false, c_cIx0, c_cIx1, c_cAr0, c_cAr1, c_cSt0, c_cSt1, l_0, l_1, l_2, l_3, l_4, l_5, l_6, l_7, l_8, l_9, l_10, l_12, l_16, l_24, l_31, l_32, l_48, l_96, l_99, l_100, l_150, l_180, l_200, l_240, l_255, l_260, l_384, l_400, l_999, l_5000, l_9999, l_1000000, l_1000000000, t_I, t_Ie, t_R, t_Re, t_N, t_Nn, t_V, t_Ve, t_b, t_x, t_w, e_0, e_1, e_2, e_3, zJ_lt, zJ_le, zJ_eq, g13_0, g6_1, k1 hl0.1, c_size hl0, g4]
        obtain ⟨Y', n', s', e1, e2, e3, e4, e5, e6, e7, e8⟩ := c_addConnector (G := G) (n := n) (s := s) (X := X) (p := p) (q := q) (r := r) hY hG g3
        generalize hb : Y.2.2.2.2 0 1 = b at g3 e1 e7 hQ0 z1
        generalize hX1 : wu (wu (wu (wu (wu (wu X 80 b p) 81 b q) 82 b r) 83 b (-1)) 84 b 0) 20 1 (X 20 1 + 1) = X1 at e1
        have a405 : X1 405 0 = b := by
          rw [← hX1, wu_ne (by decide), wu_ne (by decide), wu_ne (by decide), wu_ne (by decide), wu_ne (by decide), wu_ne (by decide), z1]
        generalize hX2 : wu (wu (wu (wu (wu X1 444 0 0) 1006 b p) 1007 b q) 1008 b r) 405 0 (b + 1) = X2
        refine ⟨Y', n', s', X1, X2, 0, b, .inl ⟨rfl, ?_⟩, (zd3_0 g1 g2 (by omega) ⟨z1.symm, by rw [← hX2, wu_eq, z1], fun i => by rw [z1, ← hX2, ← hX1]; simp (disch := decide) only [wu_ne, wu_v], fun i => by rw [z1, ← hX2, ← hX1]; simp (disch := decide) only [wu_ne, wu_v], fun i => by rw [z1, ← hX2, ← hX1]; simp (disch := decide) only [wu_ne, wu_v], by rw [← hX2, ← hX1]; exact same_u (by decide) (same_u (by decide) (same_u (by decide) (same_u (by decide) (same_u (by decide) (same_u (by decide) (same_u (by decide) (same_u (by decide) (same_u (by decide) (same_u (by decide) (same_u (by decide) same_r))))))))))⟩), ?_, by omega, e2, e3, by omega, e5, by omega, ?_, (fun f hf => funext fun j => by (try rw [← hX2]); (try rw [← hX0]); simp (disch := omega) only [wu_ne]), (fun f hf => by first | exact s0 f (by simp only [List.mem_cons, List.not_mem_nil, or_false, not_or]; omega) | (funext j; (try rw [← hX2]); (try rw [← hX0]); (try rw [← hX1]); (try rw [← hXB]); (try rw [← hXA]); simp (disch := omega) only [wu_ne]))⟩
        · show ev_ G 38 0 _ [] _ = _
          rw [hs2, hs3]
          simp (disch := first | assumption | omega) only [q_X11_connector_57, ↓reduceIte, zB_T, zB_F, zB_if, ite_not, z_10, z_00, i_10, i_00, if_true, if_false, c_cIx0, c_cIx1, c_cAr0, c_cAr1, c_cSt0, c_cSt1, l_0, l_1, l_2, l_3, l_4, l_5, l_6, l_7, l_8, l_9, l_10, l_12, l_16, l_24, l_31, l_32, l_48, l_96, l_99, l_100, l_150, l_180, l_200, l_240, l_255, l_260, l_384, l_400, l_999, l_5000, l_9999, l_1000000, l_1000000000, t_I, t_Ie, t_R, t_Re, t_N, t_Nn, t_V, t_Ve, t_b, t_x, t_w, e_0, e_1, e_2, e_3, g13_0, k6 h6', e1]
        · rw [← hX2, wu_ne (by decide), wu_ne (by decide), wu_ne (by decide), wu_ne (by decide), wu_eq]
        · have s0 : zsame [80, 81, 82, 83, 84, 20, 444, 1006, 1007, 1008, 405] X X2 := by
            rw [← hX2, ← hX1]
            exact same_u (by decide) (same_u (by decide) (same_u (by decide) (same_u (by decide) (same_u (by decide) (same_u (by decide) (same_u (by decide) (same_u (by decide) (same_u (by decide) (same_u (by decide) (same_u (by decide) same_r))))))))))
          have f405 : X2 405 0 = b + 1 := by rw [← hX2, wu_eq]
          have f80 : ∀ i, X2 80 i = if i = b then p else X 80 i := fun i => by
            rw [← hX2, ← hX1]
            simp (disch := decide) only [wu_ne, wu_v]
          have f81 : ∀ i, X2 81 i = if i = b then q else X 81 i := fun i => by
            rw [← hX2, ← hX1]
            simp (disch := decide) only [wu_ne, wu_v]
          have f82 : ∀ i, X2 82 i = if i = b then r else X 82 i := fun i => by
            rw [← hX2, ← hX1]
            simp (disch := decide) only [wu_ne, wu_v]
          have f83 : ∀ i, X2 83 i = if i = b then -1 else X 83 i := fun i => by
            rw [← hX2, ← hX1]
            simp (disch := decide) only [wu_ne, wu_v]
          have f84 : ∀ i, X2 84 i = if i = b then 0 else X 84 i := fun i => by
            rw [← hX2, ← hX1]
            simp (disch := decide) only [wu_ne, wu_v]
          have f1006 : ∀ i, X2 1006 i = if i = b then p else X 1006 i := fun i => by
            rw [← hX2, ← hX1]
            simp (disch := decide) only [wu_ne, wu_v]
          have f1007 : ∀ i, X2 1007 i = if i = b then q else X 1007 i := fun i => by
            rw [← hX2, ← hX1]
            simp (disch := decide) only [wu_ne, wu_v]
          have f1008 : ∀ i, X2 1008 i = if i = b then r else X 1008 i := fun i => by
            rw [← hX2, ← hX1]
            simp (disch := decide) only [wu_ne, wu_v]
          have k0 : ∀ i, i ≠ 1 → Y'.2.2.2.2 0 i = Y.2.2.2.2 0 i := fun i hi => e8 0 i (.inl hi)
          obtain ⟨c1, c2, c3, c4, c5⟩ := id h2
          obtain ⟨t1, t2, t3⟩ := id h3
          refine ⟨iB_c h1 (same_g s0 (by decide)) (k0 0 (by decide)), ?_, ?_, ?_, iF_c h5 (same_g s0 (by decide)), iO_c h6 (same_g s0 (by decide)), iD_c h7 (same_g s0 (by decide)) (by omega), iR_c h8 (same_g s0 (by decide)) (k0 3 (by decide)), iM_c h9 (same_g s0 (by decide)), iV_c h10 (same_g s0 (by decide)), iH_c h11 (same_g s0 (by decide)), iS_c h12 (same_g s0 (by decide)) (k0 4 (by decide)) (k0 3 (by decide)) hn4⟩
          · unfold iC
            rw [f405, e7, s0 1009 (by decide)]
            rw [hb] at c3 c4 c5
            refine ⟨rfl, fun c k1 k2 => ?_, fun c k1 k2 => ?_, fun c k1 k2 => c4 c (by omega) k2, fun c k1 k2 k3 => ?_⟩
            · rw [f1006, f1007, f1008]
              have := c2 c k1 k2
              by_cases hi : c = b
              · simp only [if_pos hi]
                omega
              · simp only [if_neg hi]
                exact this
            · rw [f80, f81, f82, f83, f1006, f1007, f1008]
              by_cases hi : c = b
              · simp only [if_pos hi]
                refine ⟨by trivial, by trivial, by trivial, ?_⟩
                exact (c4 c (by omega) (by omega)).symm
              · simp only [if_neg hi]
                exact c3 c k1 (by omega)
            · rw [f83] at k3 ⊢
              by_cases hi : c = b
              · rw [if_pos hi] at k3
                exact absurd rfl k3
              · rw [if_neg hi] at k3 ⊢
                have := c5 c k1 (by omega) k3
                rw [f83, if_neg (by omega)]
                omega
          · unfold iT
            unfold zty ztk1 at t2 ⊢
            unfold ztk1 at t3
            rw [s0 410 (by decide), s0 1011 (by decide), s0 1012 (by decide), e7]
            rw [hb] at t1 t2
            refine ⟨fun c k1 k2 => ?_, fun c v k1 k2 k3 k4 => ?_, t3⟩
            · rw [f84]
              by_cases hi : c = b
              · rw [if_pos hi]; decide
              · rw [if_neg hi]; exact t1 c k1 (by omega)
            · rw [f84]
              by_cases hi : c = b
              · rw [if_pos hi]
                constructor
                · intro hz
                  obtain ⟨kv, rfl⟩ := zJ_fin k3 8 (by omega)
                  have : ∀ v : Fin 8, zbt 0 (v.val : Int) = false := by decide
                  rw [this kv] at hz
                  cases hz
                · rintro ⟨w, w1, w2, w3, w4⟩
                  rw [h4.1] at w2
                  obtain ⟨b1, b2, b3, b4⟩ := h4.2.2.2 w w1 w2
                  exfalso
                  omega
              · rw [if_neg hi]; exact t2 c v k1 (by omega) k3 k4
          · exact iW_g h4 (same_g s0 (by decide)) (fun i i0 i1 => by rw [s0 63 (by decide)]) (by rw [k0 0 (by decide)]; exact Int.le_refl _) (by omega) (k0 2 (by decide)) (fun a i g => e8 a i (by omega)) hn
      · have g4 : 8 ≤ Y.2.2.2.2 0 1 := by omega
        refine zcal_e 2 3 hI hY (by decide) (by decide) ?_ (by first | exact zd1_1 (by first | assumption | omega) (same_u (by decide) same_r) | exact zd2_1 (by first | assumption | omega) (same_u (by decide) same_r) | exact zd2_2 (by first | assumption | omega) (by first | assumption | omega) (same_u (by decide) same_r) | exact zd3_1 (by first | assumption | omega) (same_u (by decide) same_r) | exact zd3_2 (by first | assumption | omega) (by first | assumption | omega) (same_u (by decide) same_r) | exact zd3_3 (by first | assumption | omega) (by first | assumption | omega) (by first | assumption | omega) (same_u (by decide) same_r))
        · show ev_ G 38 0 _ [] _ = _
          rw [hs2]
          simp (disch := first | assumption | omega) only [q_X11_connector_34, q_X11_connector_57, ↓reduceIte, zB_T, zB_F, zB_if, ite_not, z_10, z_00, i_10, i_00, if_true, if_false, c_cIx0, c_cIx1, c_cAr0, c_cAr1, c_cSt0, c_cSt1, l_0, l_1, l_2, l_3, l_4, l_5, l_6, l_7, l_8, l_9, l_10, l_12, l_16, l_24, l_31, l_32, l_48, l_96, l_99, l_100, l_150, l_180, l_200, l_240, l_255, l_260, l_384, l_400, l_999, l_5000, l_9999, l_1000000, l_1000000000, t_I, t_Ie, t_R, t_Re, t_N, t_Nn, t_V, t_Ve, t_b, t_x, t_w, e_0, e_1, e_2, e_3, zJ_lt, zJ_le, zJ_eq, g13_0, g6_1, k1 hl0.1, c_size hl0, g4]
    · refine zcal_e 1 2 hI hY (by decide) (by decide) ?_ (by first | exact zd1_1 (by first | assumption | omega) (same_u (by decide) same_r) | exact zd2_1 (by first | assumption | omega) (same_u (by decide) same_r) | exact zd2_2 (by first | assumption | omega) (by first | assumption | omega) (same_u (by decide) same_r) | exact zd3_1 (by first | assumption | omega) (same_u (by decide) same_r) | exact zd3_2 (by first | assumption | omega) (by first | assumption | omega) (same_u (by decide) same_r) | exact zd3_3 (by first | assumption | omega) (by first | assumption | omega) (by first | assumption | omega) (same_u (by decide) same_r))
      · show ev_ G 38 0 _ [] _ = _
        by_cases g21 : 1 ≤ q ∧ q ≤ 8
        · have g22 : ¬(0 ≤ r ∧ r ≤ 9) := fun g => g2 ⟨g21, g⟩
          simp (disch := first | assumption | omega) only [q_X11_connector_0, c_isIndex, c_isWithin, ↓reduceIte, zB_T, zB_F, zB_if, ite_not, z_10, z_00, i_10, i_00, if_true, if_false, c_cIx0, c_cIx1, c_cAr0, c_cAr1, c_cSt0, c_cSt1, l_0, l_1, l_2, l_3, l_4, l_5, l_6, l_7, l_8, l_9, l_10, l_12, l_16, l_24, l_31, l_32, l_48, l_96, l_99, l_100, l_150, l_180, l_200, l_240, l_255, l_260, l_384, l_400, l_999, l_5000, l_9999, l_1000000, l_1000000000, t_I, t_Ie, t_R, t_Re, t_N, t_Nn, t_V, t_Ve, t_b, t_x, t_w, e_0, e_1, e_2, e_3, zJ_lt, zJ_le, zJ_eq, g1, g21, g22, and_self]
          simp (disch := first | assumption | omega) only [q_X11_connector_34, ↓reduceIte, zB_T, zB_F, zB_if, ite_not, z_10, z_00, i_10, i_00, if_true, if_false, c_cIx0, c_cIx1, c_cAr0, c_cAr1, c_cSt0, c_cSt1, l_0, l_1, l_2, l_3, l_4, l_5, l_6, l_7, l_8, l_9, l_10, l_12, l_16, l_24, l_31, l_32, l_48, l_96, l_99, l_100, l_150, l_180, l_200, l_240, l_255, l_260, l_384, l_400, l_999, l_5000, l_9999, l_1000000, l_1000000000, t_I, t_Ie, t_R, t_Re, t_N, t_Nn, t_V, t_Ve, t_b, t_x, t_w, e_0, e_1, e_2, e_3]
        · simp (disch := first | assumption | omega) only [q_X11_connector_0, c_isIndex, c_isWithin, ↓reduceIte, zB_T, zB_F, zB_if, ite_not, z_10, z_00, i_10, i_00, if_true, if_false, c_cIx0, c_cIx1, c_cAr0, c_cAr1, c_cSt0, c_cSt1, l_0, l_1, l_2, l_3, l_4, l_5, l_6, l_7, l_8, l_9, l_10, l_12, l_16, l_24, l_31, l_32, l_48, l_96, l_99, l_100, l_150, l_180, l_200, l_240, l_255, l_260, l_384, l_400, l_999, l_5000, l_9999, l_1000000, l_1000000000, t_I, t_Ie, t_R, t_Re, t_N, t_Nn, t_V, t_Ve, t_b, t_x, t_w, e_0, e_1, e_2, e_3, zJ_lt, zJ_le, zJ_eq, g1, g21, and_self]
          simp (disch := first | assumption | omega) only [q_X11_connector_34, ↓reduceIte, zB_T, zB_F, zB_if, ite_not, z_10, z_00, i_10, i_00, if_true, if_false, c_cIx0, c_cIx1, c_cAr0, c_cAr1, c_cSt0, c_cSt1, l_0, l_1, l_2, l_3, l_4, l_5, l_6, l_7, l_8, l_9, l_10, l_12, l_16, l_24, l_31, l_32, l_48, l_96, l_99, l_100, l_150, l_180, l_200, l_240, l_255, l_260, l_384, l_400, l_999, l_5000, l_9999, l_1000000, l_1000000000, t_I, t_Ie, t_R, t_Re, t_N, t_Nn, t_V, t_Ve, t_b, t_x, t_w, e_0, e_1, e_2, e_3]
  · refine zcal_e 0 1 hI hY (by decide) (by decide) ?_ (by first | exact zd1_1 (by first | assumption | omega) (same_u (by decide) same_r) | exact zd2_1 (by first | assumption | omega) (same_u (by decide) same_r) | exact zd2_2 (by first | assumption | omega) (by first | assumption | omega) (same_u (by decide) same_r) | exact zd3_1 (by first | assumption | omega) (same_u (by decide) same_r) | exact zd3_2 (by first | assumption | omega) (by first | assumption | omega) (same_u (by decide) same_r) | exact zd3_3 (by first | assumption | omega) (by first | assumption | omega) (by first | assumption | omega) (same_u (by decide) same_r))
    · simp (disch := first | assumption | omega) only [q_X11_connector_0, c_isIndex, ↓reduceIte, zB_T, zB_F, zB_if, ite_not, z_10, z_00, i_10, i_00, if_true, if_false, c_cIx0, c_cIx1, c_cAr0, c_cAr1, c_cSt0, c_cSt1, l_0, l_1, l_2, l_3, l_4, l_5, l_6, l_7, l_8, l_9, l_10, l_12, l_16, l_24, l_31, l_32, l_48, l_96, l_99, l_100, l_150, l_180, l_200, l_240, l_255, l_260, l_384, l_400, l_999, l_5000, l_9999, l_1000000, l_1000000000, t_I, t_Ie, t_R, t_Re, t_N, t_Nn, t_V, t_Ve, t_b, t_x, t_w, e_0, e_1, e_2, e_3, g1]
theorem k_reel (hY : wY Y n) (hG : Y.1 = G.1) (hI : iAll t Y.2.2.2.2 X) (hp : -2147483648 ≤ p ∧ p < 2147483648) (hq : -2147483648 ≤ q ∧ q < 2147483648) (hr : -2147483648 ≤ r ∧ r < 2147483648) : zcal [(0, 1), (1, 2), (2, 3)] t Y n s X (fun W => ev_ G 127 0 [.ref (wA Y 13 0), .int (zJ p), .int (zJ q), .int (zJ r)] [] W) (dReel X p q r) := by
  have hF := wY_F hY
  have h13 := hF.2.1
  have hIw := hF.1
  obtain ⟨hn, hn4⟩ := wY_n hY
  obtain ⟨h1, h2, h3, h4, h5, h6, h7, h8, h9, h10, h11, h12⟩ := id hI
  have hl0 := hF.2.2.2.2.2.2.2.1 3 (by decide) (by decide)
  have hQ0 := hY.2.2.2.2.1
  have z1 := h8.1
  by_cases g1 : 0 ≤ p ∧ p < 6
  · by_cases g2 : (1 ≤ q ∧ q ≤ 99) ∧ (1 ≤ r ∧ r ≤ 5000)
    · obtain ⟨g21, g22⟩ := id g2
      have hs2 : ev_ G 127 0 [.ref (wA Y 13 0), .int (zJ p), .int (zJ q), .int (zJ r)] [] (wd Y n s X) = ev_ G 127 35 [.ref (wA Y 13 0), .int (zJ p), .int (zJ q), .int (zJ r)] [.int (zJ 1)] (wd Y n s X) := by
        simp (disch := first | assumption | omega) only [q_X11_reel_0, c_isIndex, c_isWithin, ↓reduceIte, zB_T, zB_F, zB_if, ite_not, z_10, z_00, i_10, i_00, if_true, if_false, c_cIx0, c_cIx1, c_cAr0, c_cAr1, c_cSt0, c_cSt1, l_0, l_1, l_2, l_3, l_4, l_5, l_6, l_7, l_8, l_9, l_10, l_12, l_16, l_24, l_31, l_32, l_48, l_96, l_99, l_100, l_150, l_180, l_200, l_240, l_255, l_260, l_384, l_400, l_999, l_5000, l_9999, l_1000000, l_1000000000, t_I, t_Ie, t_R, t_Re, t_N, t_Nn, t_V, t_Ve, t_b, t_x, t_w, e_0, e_1, e_2, e_3, zJ_lt, zJ_le, zJ_eq, g1, g21, g22, and_self]
      by_cases g3 : Y.2.2.2.2 0 3 < 12
      · have g4 : ¬12 ≤ Y.2.2.2.2 0 3 := by omega
        have hs3 : ev_ G 127 35 [.ref (wA Y 13 0), .int (zJ p), .int (zJ q), .int (zJ r)] [.int (zJ 1)] (wd Y n s X) = ev_ G 127 55 [.ref (wA Y 13 0), .int (zJ p), .int (zJ q), .int (zJ r)] [.int (zJ 1)] (wd Y n s X) := by
          simp (disch := first | assumption | omega) only [q_X11_reel_35, ↓reduceIte, zB_T, zB_F, zB_if, ite_not, z_10, z_00, i_10, i_00, if_true, if_false, c_cIx0, c_cIx1, c_cAr0, c_cAr1, c_cSt0, c_cSt1, l_0, l_1, l_2, l_3, l_4, l_5, l_6, l_7, l_8, l_9, l_10, l_12, l_16, l_24, l_31, l_32, l_48, l_96, l_99, l_100, l_150, l_180, l_200, l_240, l_255, l_260, l_384, l_400, l_999, l_5000, l_9999, l_1000000, l_1000000000, t_I, t_Ie, t_R, t_Re, t_N, t_Nn, t_V, t_Ve, t_b, t_x, t_w, e_0, e_1, e_2, e_3, zJ_lt, zJ_le, zJ_eq, g13_4, k1 hl0.1, c_size hl0, g4]
        obtain ⟨Y', n', s', e1, e2, e3, e4, e5, e6, e7, e8⟩ := c_reelR (G := G) (n := n) (s := s) (X := X) (p := p) (q := q) (r := r) hY hG g3
        generalize hb : Y.2.2.2.2 0 3 = b at g3 e1 e7 hQ0 z1
        generalize hX1 : wu (wu (wu (wu (wu (wu X 180 b p) 181 b r) 182 b q) 183 b 0) 184 b 0) 20 3 (X 20 3 + 1) = X1 at e1
        have a425 : X1 425 0 = b := by
          rw [← hX1, wu_ne (by decide), wu_ne (by decide), wu_ne (by decide), wu_ne (by decide), wu_ne (by decide), wu_ne (by decide), z1]
        generalize hX0 : wu X1 444 0 0 = X0
        have b425 : X0 425 0 = b := by rw [← hX0, wu_ne (by decide), a425]
        generalize hX2 : wu (wu (wu (wu (wu X0 1026 b p) 1027 b q) 1028 b r) 1029 b (-1)) 425 0 (b + 1) = X2
        refine ⟨Y', n', s', X1, X2, 0, b, .inl ⟨rfl, ?_⟩, (zd3_0 g1 g2 (by omega) ⟨z1.symm, by rw [← hX2, wu_eq, z1], fun i => by rw [z1, ← hX2, ← hX0, ← hX1]; simp (disch := decide) only [wu_ne, wu_v], fun i => by rw [z1, ← hX2, ← hX0, ← hX1]; simp (disch := decide) only [wu_ne, wu_v], fun i => by rw [z1, ← hX2, ← hX0, ← hX1]; simp (disch := decide) only [wu_ne, wu_v], fun i => by rw [z1, ← hX2, ← hX0, ← hX1]; simp (disch := decide) only [wu_ne, wu_v], by rw [← hX2, ← hX0, ← hX1]; exact same_u (by decide) (same_u (by decide) (same_u (by decide) (same_u (by decide) (same_u (by decide) (same_u (by decide) (same_u (by decide) (same_u (by decide) (same_u (by decide) (same_u (by decide) (same_u (by decide) (same_u (by decide) same_r)))))))))))⟩), ?_, by omega, e2, e3, by omega, e5, by omega, ?_, (fun f hf => funext fun j => by (try rw [← hX2]); (try rw [← hX0]); simp (disch := omega) only [wu_ne]), (fun f hf => by first | exact s0 f (by simp only [List.mem_cons, List.not_mem_nil, or_false, not_or]; omega) | (funext j; (try rw [← hX2]); (try rw [← hX0]); (try rw [← hX1]); (try rw [← hXB]); (try rw [← hXA]); simp (disch := omega) only [wu_ne]))⟩
        · show ev_ G 127 0 _ [] _ = _
          rw [hs2, hs3]
          exact e1
        · rw [← hX2, wu_ne (by decide), wu_ne (by decide), wu_ne (by decide), wu_ne (by decide), wu_ne (by decide), ← hX0, wu_eq]
        · have s0 : zsame [180, 181, 182, 183, 184, 20, 444, 1026, 1027, 1028, 1029, 425] X X2 := by
            rw [← hX2, ← hX0, ← hX1]
            exact same_u (by decide) (same_u (by decide) (same_u (by decide) (same_u (by decide) (same_u (by decide) (same_u (by decide) (same_u (by decide) (same_u (by decide) (same_u (by decide) (same_u (by decide) (same_u (by decide) (same_u (by decide) same_r)))))))))))
          have f425 : X2 425 0 = b + 1 := by rw [← hX2, wu_eq]
          have f180 : ∀ i, X2 180 i = if i = b then p else X 180 i := fun i => by
            rw [← hX2, ← hX0, ← hX1]
            simp (disch := decide) only [wu_ne, wu_v]
          have f181 : ∀ i, X2 181 i = if i = b then r else X 181 i := fun i => by
            rw [← hX2, ← hX0, ← hX1]
            simp (disch := decide) only [wu_ne, wu_v]
          have f182 : ∀ i, X2 182 i = if i = b then q else X 182 i := fun i => by
            rw [← hX2, ← hX0, ← hX1]
            simp (disch := decide) only [wu_ne, wu_v]
          have f183 : ∀ i, X2 183 i = if i = b then 0 else X 183 i := fun i => by
            rw [← hX2, ← hX0, ← hX1]
            simp (disch := decide) only [wu_ne, wu_v]
          have f184 : ∀ i, X2 184 i = if i = b then 0 else X 184 i := fun i => by
            rw [← hX2, ← hX0, ← hX1]
            simp (disch := decide) only [wu_ne, wu_v]
          have f1026 : ∀ i, X2 1026 i = if i = b then p else X 1026 i := fun i => by
            rw [← hX2, ← hX0, ← hX1]
            simp (disch := decide) only [wu_ne, wu_v]
          have f1027 : ∀ i, X2 1027 i = if i = b then q else X 1027 i := fun i => by
            rw [← hX2, ← hX0, ← hX1]
            simp (disch := decide) only [wu_ne, wu_v]
          have f1028 : ∀ i, X2 1028 i = if i = b then r else X 1028 i := fun i => by
            rw [← hX2, ← hX0, ← hX1]
            simp (disch := decide) only [wu_ne, wu_v]
          have f1029 : ∀ i, X2 1029 i = if i = b then -1 else X 1029 i := fun i => by
            rw [← hX2, ← hX0, ← hX1]
            simp (disch := decide) only [wu_ne, wu_v]
          have k0 : ∀ i, i ≠ 3 → Y'.2.2.2.2 0 i = Y.2.2.2.2 0 i := fun i hi => e8 0 i (.inl hi)
          obtain ⟨c1, c2, c3⟩ := id h8
          refine ⟨iB_c h1 (same_g s0 (by decide)) (k0 0 (by decide)), iC_c h2 (same_g s0 (by decide)) (k0 1 (by decide)), iT_c h3 (same_g s0 (by decide)) (k0 1 (by decide)), iW_c h4 (same_g s0 (by decide)) (fun a i g => e8 a i (by omega)) hn, iF_c h5 (same_g s0 (by decide)), iO_c h6 (same_g s0 (by decide)), iD_c h7 (same_g s0 (by decide)) (by omega), ?_, iM_c h9 (same_g s0 (by decide)), iV_c h10 (same_g s0 (by decide)), iH_c h11 (same_g s0 (by decide)), iS_g h12 (same_g s0 (by decide)) (fun r' k1 k2 => by rw [f1026, if_neg (by omega)]) (k0 4 (by decide)) (by omega) hn4⟩
          unfold iR
          rw [f425, e7]
          rw [hb] at c3
          refine ⟨rfl, fun c k1 k2 => ?_, fun c k1 k2 => ?_⟩
          · rw [f1026, f1027, f1028, f1029]
            have := c2 c k1 k2
            by_cases hi : c = b
            · simp only [if_pos hi]
              omega
            · simp only [if_neg hi]
              exact this
          · rw [f180, f181, f182, f183, f184, f1026, f1027, f1028, f1029]
            by_cases hi : c = b
            · simp only [if_pos hi]
              exact ⟨by trivial, by trivial, by trivial, by omega, by omega, by trivial⟩
            · simp only [if_neg hi]
              exact c3 c k1 (by omega)
      · have g4 : 12 ≤ Y.2.2.2.2 0 3 := by omega
        refine zcal_e 2 3 hI hY (by decide) (by decide) ?_ (by first | exact zd1_1 (by first | assumption | omega) (same_u (by decide) same_r) | exact zd2_1 (by first | assumption | omega) (same_u (by decide) same_r) | exact zd2_2 (by first | assumption | omega) (by first | assumption | omega) (same_u (by decide) same_r) | exact zd3_1 (by first | assumption | omega) (same_u (by decide) same_r) | exact zd3_2 (by first | assumption | omega) (by first | assumption | omega) (same_u (by decide) same_r) | exact zd3_3 (by first | assumption | omega) (by first | assumption | omega) (by first | assumption | omega) (same_u (by decide) same_r))
        · show ev_ G 127 0 _ [] _ = _
          rw [hs2]
          simp (disch := first | assumption | omega) only [q_X11_reel_35, ↓reduceIte, zB_T, zB_F, zB_if, ite_not, z_10, z_00, i_10, i_00, if_true, if_false, c_cIx0, c_cIx1, c_cAr0, c_cAr1, c_cSt0, c_cSt1, l_0, l_1, l_2, l_3, l_4, l_5, l_6, l_7, l_8, l_9, l_10, l_12, l_16, l_24, l_31, l_32, l_48, l_96, l_99, l_100, l_150, l_180, l_200, l_240, l_255, l_260, l_384, l_400, l_999, l_5000, l_9999, l_1000000, l_1000000000, t_I, t_Ie, t_R, t_Re, t_N, t_Nn, t_V, t_Ve, t_b, t_x, t_w, e_0, e_1, e_2, e_3, zJ_lt, zJ_le, zJ_eq, g13_4, k1 hl0.1, c_size hl0, g4]
          rw [q_X11_reel_55, c_cSt0, t_Ve, t_x, t_w]
    · refine zcal_e 1 2 hI hY (by decide) (by decide) ?_ (by first | exact zd1_1 (by first | assumption | omega) (same_u (by decide) same_r) | exact zd2_1 (by first | assumption | omega) (same_u (by decide) same_r) | exact zd2_2 (by first | assumption | omega) (by first | assumption | omega) (same_u (by decide) same_r) | exact zd3_1 (by first | assumption | omega) (same_u (by decide) same_r) | exact zd3_2 (by first | assumption | omega) (by first | assumption | omega) (same_u (by decide) same_r) | exact zd3_3 (by first | assumption | omega) (by first | assumption | omega) (by first | assumption | omega) (same_u (by decide) same_r))
      · show ev_ G 127 0 _ [] _ = _
        by_cases g21 : 1 ≤ q ∧ q ≤ 99
        · have g22 : ¬(1 ≤ r ∧ r ≤ 5000) := fun g => g2 ⟨g21, g⟩
          simp (disch := first | assumption | omega) only [q_X11_reel_0, c_isIndex, c_isWithin, ↓reduceIte, zB_T, zB_F, zB_if, ite_not, z_10, z_00, i_10, i_00, if_true, if_false, c_cIx0, c_cIx1, c_cAr0, c_cAr1, c_cSt0, c_cSt1, l_0, l_1, l_2, l_3, l_4, l_5, l_6, l_7, l_8, l_9, l_10, l_12, l_16, l_24, l_31, l_32, l_48, l_96, l_99, l_100, l_150, l_180, l_200, l_240, l_255, l_260, l_384, l_400, l_999, l_5000, l_9999, l_1000000, l_1000000000, t_I, t_Ie, t_R, t_Re, t_N, t_Nn, t_V, t_Ve, t_b, t_x, t_w, e_0, e_1, e_2, e_3, zJ_lt, zJ_le, zJ_eq, g1, g21, g22, and_self]
          simp (disch := first | assumption | omega) only [q_X11_reel_35, ↓reduceIte, zB_T, zB_F, zB_if, ite_not, z_10, z_00, i_10, i_00, if_true, if_false, c_cIx0, c_cIx1, c_cAr0, c_cAr1, c_cSt0, c_cSt1, l_0, l_1, l_2, l_3, l_4, l_5, l_6, l_7, l_8, l_9, l_10, l_12, l_16, l_24, l_31, l_32, l_48, l_96, l_99, l_100, l_150, l_180, l_200, l_240, l_255, l_260, l_384, l_400, l_999, l_5000, l_9999, l_1000000, l_1000000000, t_I, t_Ie, t_R, t_Re, t_N, t_Nn, t_V, t_Ve, t_b, t_x, t_w, e_0, e_1, e_2, e_3]
        · simp (disch := first | assumption | omega) only [q_X11_reel_0, c_isIndex, c_isWithin, ↓reduceIte, zB_T, zB_F, zB_if, ite_not, z_10, z_00, i_10, i_00, if_true, if_false, c_cIx0, c_cIx1, c_cAr0, c_cAr1, c_cSt0, c_cSt1, l_0, l_1, l_2, l_3, l_4, l_5, l_6, l_7, l_8, l_9, l_10, l_12, l_16, l_24, l_31, l_32, l_48, l_96, l_99, l_100, l_150, l_180, l_200, l_240, l_255, l_260, l_384, l_400, l_999, l_5000, l_9999, l_1000000, l_1000000000, t_I, t_Ie, t_R, t_Re, t_N, t_Nn, t_V, t_Ve, t_b, t_x, t_w, e_0, e_1, e_2, e_3, zJ_lt, zJ_le, zJ_eq, g1, g21, and_self]
          simp (disch := first | assumption | omega) only [q_X11_reel_35, ↓reduceIte, zB_T, zB_F, zB_if, ite_not, z_10, z_00, i_10, i_00, if_true, if_false, c_cIx0, c_cIx1, c_cAr0, c_cAr1, c_cSt0, c_cSt1, l_0, l_1, l_2, l_3, l_4, l_5, l_6, l_7, l_8, l_9, l_10, l_12, l_16, l_24, l_31, l_32, l_48, l_96, l_99, l_100, l_150, l_180, l_200, l_240, l_255, l_260, l_384, l_400, l_999, l_5000, l_9999, l_1000000, l_1000000000, t_I, t_Ie, t_R, t_Re, t_N, t_Nn, t_V, t_Ve, t_b, t_x, t_w, e_0, e_1, e_2, e_3]
  · refine zcal_e 0 1 hI hY (by decide) (by decide) ?_ (by first | exact zd1_1 (by first | assumption | omega) (same_u (by decide) same_r) | exact zd2_1 (by first | assumption | omega) (same_u (by decide) same_r) | exact zd2_2 (by first | assumption | omega) (by first | assumption | omega) (same_u (by decide) same_r) | exact zd3_1 (by first | assumption | omega) (same_u (by decide) same_r) | exact zd3_2 (by first | assumption | omega) (by first | assumption | omega) (same_u (by decide) same_r) | exact zd3_3 (by first | assumption | omega) (by first | assumption | omega) (by first | assumption | omega) (same_u (by decide) same_r))
    · simp (disch := first | assumption | omega) only [q_X11_reel_0, c_isIndex, ↓reduceIte, zB_T, zB_F, zB_if, ite_not, z_10, z_00, i_10, i_00, if_true, if_false, c_cIx0, c_cIx1, c_cAr0, c_cAr1, c_cSt0, c_cSt1, l_0, l_1, l_2, l_3, l_4, l_5, l_6, l_7, l_8, l_9, l_10, l_12, l_16, l_24, l_31, l_32, l_48, l_96, l_99, l_100, l_150, l_180, l_200, l_240, l_255, l_260, l_384, l_400, l_999, l_5000, l_9999, l_1000000, l_1000000000, t_I, t_Ie, t_R, t_Re, t_N, t_Nn, t_V, t_Ve, t_b, t_x, t_w, e_0, e_1, e_2, e_3, g1]
end ZK
