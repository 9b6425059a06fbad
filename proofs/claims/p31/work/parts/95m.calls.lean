/-! THE TWO SIDES, 82: calls on both sides: limits, solder -/
theorem zsom_f {p f : Int} (h : f ≠ 1040) (h' : f ≠ 1041) : ∀ (m : Nat) (k : Int) (X : zX) (j : Int), zsom p m k X f j = X f j := by
  intro m
  induction m with
  | zero => intro k X j; rfl
  | succ m ih =>
    intro k X j
    refine (ih _ _ _).trans ?_
    split
    · rfl
    · exact zjm_f h h'
theorem zsom_v {p : Int} : ∀ (m : Nat) (k : Int) (X : zX) (j : Int), (zsom p m k X 1040 j = if (k ≤ j ∧ j < k + m) ∧ X 1038 j ≠ -1 then zjf (X 1031 (X 1026 (X 1038 j))) (X 1032 (X 1026 (X 1038 j))) p else X 1040 j) ∧ (zsom p m k X 1041 j = if (k ≤ j ∧ j < k + m) ∧ X 1038 j ≠ -1 then zjf (X 1031 (X 1026 (X 1038 j))) (X 1032 (X 1026 (X 1038 j))) p else X 1041 j) := by
  intro m
  induction m with
  | zero =>
    intro k X j
    have hno : ¬((k ≤ j ∧ j < k + ((0 : Nat) : Int)) ∧ X 1038 j ≠ -1) := fun g => by omega
    rw [if_neg hno, if_neg hno]
    exact ⟨rfl, rfl⟩
  | succ m ih =>
    intro k X j
    have h := ih (k + 1) (if X 1038 k = -1 then X else zjm X p k) j
    have e : ∀ f, f ≠ 1040 → f ≠ 1041 → ∀ i, (if X 1038 k = -1 then X else zjm X p k) f i = X f i := by
      intro f f1 f2 i
      split
      · rfl
      · exact zjm_f f1 f2
    have e38 := e 1038 (by decide) (by decide)
    have e31 := e 1031 (by decide) (by decide)
    have e32 := e 1032 (by decide) (by decide)
    have e26 := e 1026 (by decide) (by decide)
    rw [e38, e26, e31, e32] at h
    show zsom p m (k + 1) (if X 1038 k = -1 then X else zjm X p k) 1040 j = _ ∧ zsom p m (k + 1) (if X 1038 k = -1 then X else zjm X p k) 1041 j = _
    rw [h.1, h.2]
    by_cases hj : (k + 1 ≤ j ∧ j < k + 1 + m) ∧ X 1038 j ≠ -1
    · have hj' : (k ≤ j ∧ j < k + ((m + 1 : Nat) : Int)) ∧ X 1038 j ≠ -1 := ⟨by omega, hj.2⟩
      rw [if_pos hj, if_pos hj, if_pos hj', if_pos hj']
      exact ⟨rfl, rfl⟩
    · rw [if_neg hj, if_neg hj]
      by_cases hk : j = k
      · subst hk
        by_cases h1 : X 1038 j = -1
        · have hj' : ¬((j ≤ j ∧ j < j + ((m + 1 : Nat) : Int)) ∧ X 1038 j ≠ -1) := fun g => g.2 h1
          rw [if_neg hj', if_neg hj', if_pos h1]
          exact ⟨rfl, rfl⟩
        · have hj' : (j ≤ j ∧ j < j + ((m + 1 : Nat) : Int)) ∧ X 1038 j ≠ -1 := ⟨by omega, h1⟩
          rw [if_pos hj', if_pos hj', if_neg h1]
          unfold zjm
          rw [wu_ne (by decide : (1040 : Int) ≠ 1041), wu_eq, wu_eq]
          exact ⟨rfl, rfl⟩
      · have hj' : ¬((k ≤ j ∧ j < k + ((m + 1 : Nat) : Int)) ∧ X 1038 j ≠ -1) := fun g => hj ⟨by omega, g.2⟩
        rw [if_neg hj', if_neg hj']
        split
        · exact ⟨rfl, rfl⟩
        · unfold zjm
          rw [wu_ne (by decide : (1040 : Int) ≠ 1041), wu_ni hk, wu_ni hk, wu_ne (by decide : (1041 : Int) ≠ 1040)]
          exact ⟨rfl, rfl⟩
theorem zjf_r {a b c : Int} : 0 ≤ zjf a b c ∧ zjf a b c < 3 := by
  unfold zjf
  split
  · decide
  · split <;> decide
section ZK
variable {Y : zLy} {n s : Nat} {X : zX} {G : Nat × Nat} {t p q r u z : Int}
theorem k_limits (hY : wY Y n) (hI : iAll t Y.2.2.2.2 X) (hp : -2147483648 ≤ p ∧ p < 2147483648) (hq : -2147483648 ≤ q ∧ q < 2147483648) (hr : -2147483648 ≤ r ∧ r < 2147483648) (hz : z = 0 ∨ z = 1) : zcaN [(0, 1), (1, 2)] t Y n s X (fun W => ev_ G 157 0 [.ref (wA Y 13 0), .int (zJ z), .int (zJ p), .int (zJ q), .int (zJ r)] [] W) (dLimits X z p q r) := by
  have hF := wY_F hY
  have h13 := hF.2.1
  have hIw := hF.1
  obtain ⟨hn, hn4⟩ := wY_n hY
  obtain ⟨h1, h2, h3, h4, h5, h6, h7, h8, h9, h10, h11, h12⟩ := id hI
  have h8' := hF.2.2.2.2.2.1
  obtain ⟨a6, b6⟩ := hF.2.2.2.2.2.2.1 6 (by decide) (by decide)
  obtain ⟨a7, b7⟩ := hF.2.2.2.2.2.2.1 7 (by decide) (by decide)
  obtain ⟨a8, b8⟩ := hF.2.2.2.2.2.2.1 8 (by decide) (by decide)
  obtain ⟨o1, o2⟩ := id h11
  rcases hz with rfl | rfl
  · by_cases g1 : 0 ≤ p ∧ p < 6
    · have hs1 : ∀ b : Int, True := fun _ => trivial
      by_cases g2 : (0 ≤ q ∧ q ≤ 400) ∧ (q ≤ r ∧ r ≤ 400)
      · obtain ⟨g21, g22⟩ := id g2
        have hst : ev_ G 157 0 [.ref (wA Y 13 0), .int (zJ 0), .int (zJ p), .int (zJ q), .int (zJ r)] [] (wd Y n s X) = ev_ G 157 49 [.ref (wA Y 13 0), .int (zJ 0), .int (zJ p), .int (zJ q), .int (zJ r)] [.int (zJ 1)] (wd Y n s X) := by
          rw [q_X11_limits_0]
          simp (disch := first | assumption | omega) only [↓reduceIte, zB_T, zB_F, zB_if, ite_not, z_10, z_00, i_10, i_00, if_true, if_false, c_cIx0, c_cIx1, c_cAr0, c_cAr1, c_cSt0, c_cSt1, l_0, l_1, l_2, l_3, l_4, l_5, l_6, l_7, l_8, l_9, l_10, l_12, l_16, l_24, l_31, l_32, l_48, l_96, l_99, l_100, l_150, l_180, l_200, l_240, l_255, l_260, l_384, l_400, l_999, l_5000, l_9999, l_1000000, l_1000000000, t_I, t_Ie, t_R, t_Re, t_N, t_Nn, t_V, t_Ve, t_b, t_x, t_w, e_0, e_1, e_2, e_3]
          rw [q_X11_limits_11]
          simp (disch := first | assumption | omega) only [c_isIndex, c_isWithin, ↓reduceIte, zB_T, zB_F, zB_if, ite_not, z_10, z_00, i_10, i_00, if_true, if_false, c_cIx0, c_cIx1, c_cAr0, c_cAr1, c_cSt0, c_cSt1, l_0, l_1, l_2, l_3, l_4, l_5, l_6, l_7, l_8, l_9, l_10, l_12, l_16, l_24, l_31, l_32, l_48, l_96, l_99, l_100, l_150, l_180, l_200, l_240, l_255, l_260, l_384, l_400, l_999, l_5000, l_9999, l_1000000, l_1000000000, t_I, t_Ie, t_R, t_Re, t_N, t_Nn, t_V, t_Ve, t_b, t_x, t_w, e_0, e_1, e_2, e_3, zJ_lt, zJ_le, zJ_eq, g1, g21, g22, and_self]
        generalize hX1 : wu (wu X 507 p q) 508 p r = X1
        have s1 : zsame [507, 508] X X1 := by
          rw [← hX1]
          exact same_u (by decide) (same_u (by decide) same_r)
        generalize hX0 : wu X1 444 0 0 = X0
        generalize hX2 : wu (wu X0 1031 p q) 1032 p r = X2
        refine zcaN_0 (X1 := X1) (X2 := X2) hY ?_ (⟨fun _ => zd2_0 g1 g2 ⟨fun k => by rw [← hX2, ← hX0, ← hX1]; simp (disch := decide) only [wu_ne, wu_v], fun k => by rw [← hX2, ← hX0, ← hX1]; simp (disch := decide) only [wu_ne, wu_v], by rw [← hX2, ← hX0]; exact same_u (by decide) (same_u (by decide) (same_u (by decide) (same_m s1 (by decide))))⟩, fun g => absurd g (by decide)⟩) ?_ ?_ (fun f hf => funext fun j => by (try rw [← hX2]); (try rw [← hX0]); simp (disch := omega) only [wu_ne]) (fun f hf => by first | exact s0 f (by simp only [List.mem_cons, List.not_mem_nil, or_false, not_or]; omega) | (funext j; (try rw [← hX2]); (try rw [← hX0]); (try rw [← hX1]); (try rw [← hXB]); (try rw [← hXA]); simp (disch := omega) only [wu_ne]))
        · show ev_ G 157 0 _ [] _ = _
          have gg1 : ∀ X, zgR 7 1 (wd Y n s X) (wA Y 8 0) = some (wA Y 10 7) := fun X => g8_1 h8'
          have gg2 : ∀ X, zgR 7 2 (wd Y n s X) (wA Y 8 0) = some (wA Y 10 8) := fun X => g8_2 h8'
          rw [hst, q_X11_limits_49, c_cAr1, t_V, if_pos (show zJ 0 = 0 from rfl), g13_3 h13, t_b, gg1, t_b, k10 a7, c_put a7 b7 hIw (by decide) rfl hp.1 hp.2, t_V, if_pos ⟨g1.1, by rw [ln_7]; omega⟩, show (500 : Int) + 7 = 507 from rfl, g13_3 h13, t_b, gg2, t_b, k10 a8, c_put a8 b8 hIw (by decide) rfl hp.1 hp.2, t_V, if_pos ⟨g1.1, by rw [ln_8]; omega⟩, show (500 : Int) + 8 = 508 from rfl, hX1]
        · rw [← hX2, wu_ne (by decide), wu_ne (by decide), ← hX0, wu_eq]
        · have s0 : zsame [507, 508, 444, 1031, 1032] X X2 := by
            rw [← hX2, ← hX0]
            exact same_u (by decide) (same_u (by decide) (same_u (by decide) (same_m s1 (by decide))))
          have y507 : ∀ k, X2 507 k = if k = p then q else X 507 k := fun k => by
            rw [← hX2, ← hX0, ← hX1]
            simp (disch := decide) only [wu_ne, wu_v]
          have y508 : ∀ k, X2 508 k = if k = p then r else X 508 k := fun k => by
            rw [← hX2, ← hX0, ← hX1]
            simp (disch := decide) only [wu_ne, wu_v]
          have y1031 : ∀ k, X2 1031 k = if k = p then q else X 1031 k := fun k => by
            rw [← hX2, ← hX0, ← hX1]
            simp (disch := decide) only [wu_ne, wu_v]
          have y1032 : ∀ k, X2 1032 k = if k = p then r else X 1032 k := fun k => by
            rw [← hX2, ← hX0, ← hX1]
            simp (disch := decide) only [wu_ne, wu_v]
          refine ⟨iB_c h1 (same_g s0 (by decide)) rfl, iC_c h2 (same_g s0 (by decide)) rfl, iT_c h3 (same_g s0 (by decide)) rfl, iW_c h4 (same_g s0 (by decide)) (fun _ _ _ => rfl) hn, iF_c h5 (same_g s0 (by decide)), iO_c h6 (same_g s0 (by decide)), iD_c h7 (same_g s0 (by decide)) (by omega), iR_c h8 (same_g s0 (by decide)) rfl, iM_c h9 (same_g s0 (by decide)), iV_c h10 (same_g s0 (by decide)), ?_, iS_c h12 (same_g s0 (by decide)) rfl rfl hn4⟩
          unfold iH
          rw [s0 506 (by decide), s0 1030 (by decide)]
          refine ⟨o1, fun k k0 k1 => ?_⟩
          rw [y507, y508, y1031, y1032]
          by_cases hk : k = p
          · rw [if_pos hk, if_pos hk, if_pos hk, if_pos hk]
            omega
          · rw [if_neg hk, if_neg hk, if_neg hk, if_neg hk]
            exact o2 k k0 k1
      · refine zcaN_e 1 2 hI hY (by decide) (by decide) ?_ (by first | exact ⟨fun _ => by first | exact zd1_1 (by first | assumption | omega) (same_u (by decide) same_r) | exact zd2_1 (by first | assumption | omega) (same_u (by decide) same_r) | exact zd2_2 (by first | assumption | omega) (by first | assumption | omega) (same_u (by decide) same_r) | exact zd3_1 (by first | assumption | omega) (same_u (by decide) same_r) | exact zd3_2 (by first | assumption | omega) (by first | assumption | omega) (same_u (by decide) same_r) | exact zd3_3 (by first | assumption | omega) (by first | assumption | omega) (by first | assumption | omega) (same_u (by decide) same_r), fun g => absurd g (by decide)⟩ | exact ⟨fun g => absurd g (by decide), fun _ => by first | exact zd1_1 (by first | assumption | omega) (same_u (by decide) same_r) | exact zd2_1 (by first | assumption | omega) (same_u (by decide) same_r) | exact zd2_2 (by first | assumption | omega) (by first | assumption | omega) (same_u (by decide) same_r) | exact zd3_1 (by first | assumption | omega) (same_u (by decide) same_r) | exact zd3_2 (by first | assumption | omega) (by first | assumption | omega) (same_u (by decide) same_r) | exact zd3_3 (by first | assumption | omega) (by first | assumption | omega) (by first | assumption | omega) (same_u (by decide) same_r)⟩)
        have hst : ev_ G 157 0 [.ref (wA Y 13 0), .int (zJ 0), .int (zJ p), .int (zJ q), .int (zJ r)] [] (wd Y n s X) = ev_ G 157 49 [.ref (wA Y 13 0), .int (zJ 0), .int (zJ p), .int (zJ q), .int (zJ r)] [.int (zJ 0)] (wd Y n s X) := by
          rw [q_X11_limits_0]
          simp (disch := first | assumption | omega) only [↓reduceIte, zB_T, zB_F, zB_if, ite_not, z_10, z_00, i_10, i_00, if_true, if_false, c_cIx0, c_cIx1, c_cAr0, c_cAr1, c_cSt0, c_cSt1, l_0, l_1, l_2, l_3, l_4, l_5, l_6, l_7, l_8, l_9, l_10, l_12, l_16, l_24, l_31, l_32, l_48, l_96, l_99, l_100, l_150, l_180, l_200, l_240, l_255, l_260, l_384, l_400, l_999, l_5000, l_9999, l_1000000, l_1000000000, t_I, t_Ie, t_R, t_Re, t_N, t_Nn, t_V, t_Ve, t_b, t_x, t_w, e_0, e_1, e_2, e_3]
          rw [q_X11_limits_11]
          by_cases g21 : 0 ≤ q ∧ q ≤ 400
          · have g22 : ¬(q ≤ r ∧ r ≤ 400) := fun g => g2 ⟨g21, g⟩
            simp (disch := first | assumption | omega) only [c_isIndex, c_isWithin, ↓reduceIte, zB_T, zB_F, zB_if, ite_not, z_10, z_00, i_10, i_00, if_true, if_false, c_cIx0, c_cIx1, c_cAr0, c_cAr1, c_cSt0, c_cSt1, l_0, l_1, l_2, l_3, l_4, l_5, l_6, l_7, l_8, l_9, l_10, l_12, l_16, l_24, l_31, l_32, l_48, l_96, l_99, l_100, l_150, l_180, l_200, l_240, l_255, l_260, l_384, l_400, l_999, l_5000, l_9999, l_1000000, l_1000000000, t_I, t_Ie, t_R, t_Re, t_N, t_Nn, t_V, t_Ve, t_b, t_x, t_w, e_0, e_1, e_2, e_3, zJ_lt, zJ_le, zJ_eq, g1, g21, g22, and_self]
          · simp (disch := first | assumption | omega) only [c_isIndex, c_isWithin, ↓reduceIte, zB_T, zB_F, zB_if, ite_not, z_10, z_00, i_10, i_00, if_true, if_false, c_cIx0, c_cIx1, c_cAr0, c_cAr1, c_cSt0, c_cSt1, l_0, l_1, l_2, l_3, l_4, l_5, l_6, l_7, l_8, l_9, l_10, l_12, l_16, l_24, l_31, l_32, l_48, l_96, l_99, l_100, l_150, l_180, l_200, l_240, l_255, l_260, l_384, l_400, l_999, l_5000, l_9999, l_1000000, l_1000000000, t_I, t_Ie, t_R, t_Re, t_N, t_Nn, t_V, t_Ve, t_b, t_x, t_w, e_0, e_1, e_2, e_3, zJ_lt, zJ_le, zJ_eq, g1, g21, and_self]
        show ev_ G 157 0 _ [] _ = _
        rw [hst, q_X11_limits_49, c_cAr0, t_Ve, t_x, t_w]
    · refine zcaN_e 0 1 hI hY (by decide) (by decide) ?_ (by first | exact ⟨fun _ => by first | exact zd1_1 (by first | assumption | omega) (same_u (by decide) same_r) | exact zd2_1 (by first | assumption | omega) (same_u (by decide) same_r) | exact zd2_2 (by first | assumption | omega) (by first | assumption | omega) (same_u (by decide) same_r) | exact zd3_1 (by first | assumption | omega) (same_u (by decide) same_r) | exact zd3_2 (by first | assumption | omega) (by first | assumption | omega) (same_u (by decide) same_r) | exact zd3_3 (by first | assumption | omega) (by first | assumption | omega) (by first | assumption | omega) (same_u (by decide) same_r), fun g => absurd g (by decide)⟩ | exact ⟨fun g => absurd g (by decide), fun _ => by first | exact zd1_1 (by first | assumption | omega) (same_u (by decide) same_r) | exact zd2_1 (by first | assumption | omega) (same_u (by decide) same_r) | exact zd2_2 (by first | assumption | omega) (by first | assumption | omega) (same_u (by decide) same_r) | exact zd3_1 (by first | assumption | omega) (same_u (by decide) same_r) | exact zd3_2 (by first | assumption | omega) (by first | assumption | omega) (same_u (by decide) same_r) | exact zd3_3 (by first | assumption | omega) (by first | assumption | omega) (by first | assumption | omega) (same_u (by decide) same_r)⟩)
      show ev_ G 157 0 _ [] _ = _
      rw [q_X11_limits_0]
      simp (disch := first | assumption | omega) only [↓reduceIte, zB_T, zB_F, zB_if, ite_not, z_10, z_00, i_10, i_00, if_true, if_false, c_cIx0, c_cIx1, c_cAr0, c_cAr1, c_cSt0, c_cSt1, l_0, l_1, l_2, l_3, l_4, l_5, l_6, l_7, l_8, l_9, l_10, l_12, l_16, l_24, l_31, l_32, l_48, l_96, l_99, l_100, l_150, l_180, l_200, l_240, l_255, l_260, l_384, l_400, l_999, l_5000, l_9999, l_1000000, l_1000000000, t_I, t_Ie, t_R, t_Re, t_N, t_Nn, t_V, t_Ve, t_b, t_x, t_w, e_0, e_1, e_2, e_3]
      rw [q_X11_limits_11]
      simp (disch := first | assumption | omega) only [c_isIndex, ↓reduceIte, zB_T, zB_F, zB_if, ite_not, z_10, z_00, i_10, i_00, if_true, if_false, c_cIx0, c_cIx1, c_cAr0, c_cAr1, c_cSt0, c_cSt1, l_0, l_1, l_2, l_3, l_4, l_5, l_6, l_7, l_8, l_9, l_10, l_12, l_16, l_24, l_31, l_32, l_48, l_96, l_99, l_100, l_150, l_180, l_200, l_240, l_255, l_260, l_384, l_400, l_999, l_5000, l_9999, l_1000000, l_1000000000, t_I, t_Ie, t_R, t_Re, t_N, t_Nn, t_V, t_Ve, t_b, t_x, t_w, e_0, e_1, e_2, e_3, g1]
  · by_cases g1 : 0 ≤ p ∧ p < 4
    · by_cases g2 : 0 ≤ q ∧ q ≤ 400
      · have hst : ev_ G 157 0 [.ref (wA Y 13 0), .int (zJ 1), .int (zJ p), .int (zJ q), .int (zJ r)] [] (wd Y n s X) = ev_ G 157 49 [.ref (wA Y 13 0), .int (zJ 1), .int (zJ p), .int (zJ q), .int (zJ r)] [.int (zJ 1)] (wd Y n s X) := by
          rw [q_X11_limits_0]
          simp (disch := first | assumption | omega) only [↓reduceIte, zB_T, zB_F, zB_if, ite_not, z_10, z_00, i_10, i_00, if_true, if_false, c_cIx0, c_cIx1, c_cAr0, c_cAr1, c_cSt0, c_cSt1, l_0, l_1, l_2, l_3, l_4, l_5, l_6, l_7, l_8, l_9, l_10, l_12, l_16, l_24, l_31, l_32, l_48, l_96, l_99, l_100, l_150, l_180, l_200, l_240, l_255, l_260, l_384, l_400, l_999, l_5000, l_9999, l_1000000, l_1000000000, t_I, t_Ie, t_R, t_Re, t_N, t_Nn, t_V, t_Ve, t_b, t_x, t_w, e_0, e_1, e_2, e_3]
          rw [q_X11_limits_11]
          simp (disch := first | assumption | omega) only [c_isIndex, c_isWithin, ↓reduceIte, zB_T, zB_F, zB_if, ite_not, z_10, z_00, i_10, i_00, if_true, if_false, c_cIx0, c_cIx1, c_cAr0, c_cAr1, c_cSt0, c_cSt1, l_0, l_1, l_2, l_3, l_4, l_5, l_6, l_7, l_8, l_9, l_10, l_12, l_16, l_24, l_31, l_32, l_48, l_96, l_99, l_100, l_150, l_180, l_200, l_240, l_255, l_260, l_384, l_400, l_999, l_5000, l_9999, l_1000000, l_1000000000, t_I, t_Ie, t_R, t_Re, t_N, t_Nn, t_V, t_Ve, t_b, t_x, t_w, e_0, e_1, e_2, e_3, zJ_lt, zJ_le, zJ_eq, g1, g2, and_self]
        generalize hX1 : wu X 506 p q = X1
        have s1 : zsame [506] X X1 := by
          rw [← hX1]
          exact same_u (by decide) same_r
        generalize hX0 : wu X1 444 0 0 = X0
        generalize hX2 : wu X0 1030 p q = X2
        refine zcaN_0 (X1 := X1) (X2 := X2) hY ?_ (⟨fun g => absurd g (by decide), fun _ => zd2_0 g1 g2 ⟨fun k => by rw [← hX2, ← hX0, ← hX1]; simp (disch := decide) only [wu_ne, wu_v], by rw [← hX2, ← hX0]; exact same_u (by decide) (same_u (by decide) (same_m s1 (by decide)))⟩⟩) ?_ ?_ (fun f hf => funext fun j => by (try rw [← hX2]); (try rw [← hX0]); simp (disch := omega) only [wu_ne]) (fun f hf => by first | exact s0 f (by simp only [List.mem_cons, List.not_mem_nil, or_false, not_or]; omega) | (funext j; (try rw [← hX2]); (try rw [← hX0]); (try rw [← hX1]); (try rw [← hXB]); (try rw [← hXA]); simp (disch := omega) only [wu_ne]))
        · show ev_ G 157 0 _ [] _ = _
          have gg0 : ∀ X, zgR 7 0 (wd Y n s X) (wA Y 8 0) = some (wA Y 10 6) := fun X => g8_0 h8'
          rw [hst, q_X11_limits_49, c_cAr1, t_V, if_neg (show ¬zJ 1 = 0 by decide), g13_3 h13, t_b, gg0, t_b, k10 a6, c_put a6 b6 hIw (by decide) rfl hp.1 hp.2, t_V, if_pos ⟨g1.1, by rw [ln_6]; omega⟩, show (500 : Int) + 6 = 506 from rfl, hX1]
        · rw [← hX2, wu_ne (by decide), ← hX0, wu_eq]
        · have s0 : zsame [506, 444, 1030] X X2 := by
            rw [← hX2, ← hX0]
            exact same_u (by decide) (same_u (by decide) (same_m s1 (by decide)))
          have y506 : ∀ k, X2 506 k = if k = p then q else X 506 k := fun k => by
            rw [← hX2, ← hX0, ← hX1]
            simp (disch := decide) only [wu_ne, wu_v]
          have y1030 : ∀ k, X2 1030 k = if k = p then q else X 1030 k := fun k => by
            rw [← hX2, ← hX0, ← hX1]
            simp (disch := decide) only [wu_ne, wu_v]
          refine ⟨iB_c h1 (same_g s0 (by decide)) rfl, iC_c h2 (same_g s0 (by decide)) rfl, iT_c h3 (same_g s0 (by decide)) rfl, iW_c h4 (same_g s0 (by decide)) (fun _ _ _ => rfl) hn, iF_c h5 (same_g s0 (by decide)), iO_c h6 (same_g s0 (by decide)), iD_c h7 (same_g s0 (by decide)) (by omega), iR_c h8 (same_g s0 (by decide)) rfl, iM_c h9 (same_g s0 (by decide)), iV_c h10 (same_g s0 (by decide)), ?_, iS_c h12 (same_g s0 (by decide)) rfl rfl hn4⟩
          unfold iH
          rw [s0 507 (by decide), s0 508 (by decide), s0 1031 (by decide), s0 1032 (by decide)]
          refine ⟨fun k k0 k1 => ?_, o2⟩
          rw [y506, y1030]
          by_cases hk : k = p
          · rw [if_pos hk, if_pos hk]
            omega
          · rw [if_neg hk, if_neg hk]
            exact o1 k k0 k1
      · refine zcaN_e 1 2 hI hY (by decide) (by decide) ?_ (by first | exact ⟨fun _ => by first | exact zd1_1 (by first | assumption | omega) (same_u (by decide) same_r) | exact zd2_1 (by first | assumption | omega) (same_u (by decide) same_r) | exact zd2_2 (by first | assumption | omega) (by first | assumption | omega) (same_u (by decide) same_r) | exact zd3_1 (by first | assumption | omega) (same_u (by decide) same_r) | exact zd3_2 (by first | assumption | omega) (by first | assumption | omega) (same_u (by decide) same_r) | exact zd3_3 (by first | assumption | omega) (by first | assumption | omega) (by first | assumption | omega) (same_u (by decide) same_r), fun g => absurd g (by decide)⟩ | exact ⟨fun g => absurd g (by decide), fun _ => by first | exact zd1_1 (by first | assumption | omega) (same_u (by decide) same_r) | exact zd2_1 (by first | assumption | omega) (same_u (by decide) same_r) | exact zd2_2 (by first | assumption | omega) (by first | assumption | omega) (same_u (by decide) same_r) | exact zd3_1 (by first | assumption | omega) (same_u (by decide) same_r) | exact zd3_2 (by first | assumption | omega) (by first | assumption | omega) (same_u (by decide) same_r) | exact zd3_3 (by first | assumption | omega) (by first | assumption | omega) (by first | assumption | omega) (same_u (by decide) same_r)⟩)
        have hst : ev_ G 157 0 [.ref (wA Y 13 0), .int (zJ 1), .int (zJ p), .int (zJ q), .int (zJ r)] [] (wd Y n s X) = ev_ G 157 49 [.ref (wA Y 13 0), .int (zJ 1), .int (zJ p), .int (zJ q), .int (zJ r)] [.int (zJ 0)] (wd Y n s X) := by
          rw [q_X11_limits_0]
          simp (disch := first | assumption | omega) only [↓reduceIte, zB_T, zB_F, zB_if, ite_not, z_10, z_00, i_10, i_00, if_true, if_false, c_cIx0, c_cIx1, c_cAr0, c_cAr1, c_cSt0, c_cSt1, l_0, l_1, l_2, l_3, l_4, l_5, l_6, l_7, l_8, l_9, l_10, l_12, l_16, l_24, l_31, l_32, l_48, l_96, l_99, l_100, l_150, l_180, l_200, l_240, l_255, l_260, l_384, l_400, l_999, l_5000, l_9999, l_1000000, l_1000000000, t_I, t_Ie, t_R, t_Re, t_N, t_Nn, t_V, t_Ve, t_b, t_x, t_w, e_0, e_1, e_2, e_3]
          rw [q_X11_limits_11]
          simp (disch := first | assumption | omega) only [c_isIndex, c_isWithin, ↓reduceIte, zB_T, zB_F, zB_if, ite_not, z_10, z_00, i_10, i_00, if_true, if_false, c_cIx0, c_cIx1, c_cAr0, c_cAr1, c_cSt0, c_cSt1, l_0, l_1, l_2, l_3, l_4, l_5, l_6, l_7, l_8, l_9, l_10, l_12, l_16, l_24, l_31, l_32, l_48, l_96, l_99, l_100, l_150, l_180, l_200, l_240, l_255, l_260, l_384, l_400, l_999, l_5000, l_9999, l_1000000, l_1000000000, t_I, t_Ie, t_R, t_Re, t_N, t_Nn, t_V, t_Ve, t_b, t_x, t_w, e_0, e_1, e_2, e_3, zJ_lt, zJ_le, zJ_eq, g1, g2, and_self]
        show ev_ G 157 0 _ [] _ = _
        rw [hst, q_X11_limits_49, c_cAr0, t_Ve, t_x, t_w]
    · refine zcaN_e 0 1 hI hY (by decide) (by decide) ?_ (by first | exact ⟨fun _ => by first | exact zd1_1 (by first | assumption | omega) (same_u (by decide) same_r) | exact zd2_1 (by first | assumption | omega) (same_u (by decide) same_r) | exact zd2_2 (by first | assumption | omega) (by first | assumption | omega) (same_u (by decide) same_r) | exact zd3_1 (by first | assumption | omega) (same_u (by decide) same_r) | exact zd3_2 (by first | assumption | omega) (by first | assumption | omega) (same_u (by decide) same_r) | exact zd3_3 (by first | assumption | omega) (by first | assumption | omega) (by first | assumption | omega) (same_u (by decide) same_r), fun g => absurd g (by decide)⟩ | exact ⟨fun g => absurd g (by decide), fun _ => by first | exact zd1_1 (by first | assumption | omega) (same_u (by decide) same_r) | exact zd2_1 (by first | assumption | omega) (same_u (by decide) same_r) | exact zd2_2 (by first | assumption | omega) (by first | assumption | omega) (same_u (by decide) same_r) | exact zd3_1 (by first | assumption | omega) (same_u (by decide) same_r) | exact zd3_2 (by first | assumption | omega) (by first | assumption | omega) (same_u (by decide) same_r) | exact zd3_3 (by first | assumption | omega) (by first | assumption | omega) (by first | assumption | omega) (same_u (by decide) same_r)⟩)
      show ev_ G 157 0 _ [] _ = _
      rw [q_X11_limits_0]
      simp (disch := first | assumption | omega) only [↓reduceIte, zB_T, zB_F, zB_if, ite_not, z_10, z_00, i_10, i_00, if_true, if_false, c_cIx0, c_cIx1, c_cAr0, c_cAr1, c_cSt0, c_cSt1, l_0, l_1, l_2, l_3, l_4, l_5, l_6, l_7, l_8, l_9, l_10, l_12, l_16, l_24, l_31, l_32, l_48, l_96, l_99, l_100, l_150, l_180, l_200, l_240, l_255, l_260, l_384, l_400, l_999, l_5000, l_9999, l_1000000, l_1000000000, t_I, t_Ie, t_R, t_Re, t_N, t_Nn, t_V, t_Ve, t_b, t_x, t_w, e_0, e_1, e_2, e_3]
      rw [q_X11_limits_11]
      simp (disch := first | assumption | omega) only [c_isIndex, ↓reduceIte, zB_T, zB_F, zB_if, ite_not, z_10, z_00, i_10, i_00, if_true, if_false, c_cIx0, c_cIx1, c_cAr0, c_cAr1, c_cSt0, c_cSt1, l_0, l_1, l_2, l_3, l_4, l_5, l_6, l_7, l_8, l_9, l_10, l_12, l_16, l_24, l_31, l_32, l_48, l_96, l_99, l_100, l_150, l_180, l_200, l_240, l_255, l_260, l_384, l_400, l_999, l_5000, l_9999, l_1000000, l_1000000000, t_I, t_Ie, t_R, t_Re, t_N, t_Nn, t_V, t_Ve, t_b, t_x, t_w, e_0, e_1, e_2, e_3, g1]
end ZK
