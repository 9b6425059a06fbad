/-! THE TWO SIDES, 79: calls on both sides: test, repair -/
theorem ztsm_f {b f : Int} (hf : f ≠ 1042) : ∀ (m : Nat) (sl : Int) (X : zX) (j : Int), ztsm b m sl X f j = X f j := by
  intro m
  induction m with
  | zero => intro sl X j; rfl
  | succ m ih => intro sl X j; exact (ih _ _ _).trans (wu_ne hf)
theorem ztsm_v {b : Int} : ∀ (m : Nat) (sl : Int) (X : zX) (j : Int), ztsm b m sl X 1042 j = if 8 * b + sl ≤ j ∧ j < 8 * b + sl + m then (if X 1042 j ≠ 0 ∨ (X 1033 (j - 8 * b) ≠ 0 ∧ X 1041 j ≠ 0) then 1 else 0) else X 1042 j := by
  intro m
  induction m with
  | zero =>
    intro sl X j
    rw [if_neg (by omega)]
    rfl
  | succ m ih =>
    intro sl X j
    refine (ih _ _ _).trans ?_
    rw [wu_ne (by decide : (1033 : Int) ≠ 1042), wu_ne (by decide : (1041 : Int) ≠ 1042), wu_v]
    by_cases h2 : j = 8 * b + sl
    · rw [if_neg (show ¬(8 * b + (sl + 1) ≤ j ∧ j < 8 * b + (sl + 1) + m) by omega), if_pos h2, if_pos (show 8 * b + sl ≤ j ∧ j < 8 * b + sl + ((m + 1 : Nat) : Int) by omega), h2, show 8 * b + sl - 8 * b = sl by omega]
    · rw [if_neg h2]
      by_cases h1 : 8 * b + (sl + 1) ≤ j ∧ j < 8 * b + (sl + 1) + m
      · rw [if_pos h1, if_pos (show 8 * b + sl ≤ j ∧ j < 8 * b + sl + ((m + 1 : Nat) : Int) by omega)]
      · rw [if_neg h1, if_neg (show ¬(8 * b + sl ≤ j ∧ j < 8 * b + sl + ((m + 1 : Nat) : Int)) by omega)]
section ZK
variable {Y : zLy} {n s : Nat} {X : zX} {G : Nat × Nat} {t p q r u : Int}
theorem k_test (hY : wY Y n) (hI : iAll t Y.2.2.2.2 X) (hp : -2147483648 ≤ p ∧ p < 2147483648) : zcal [(0, 1), (2, 2)] t Y n s X (fun W => ev_ G 181 0 [.ref (wA Y 13 0), .int (zJ p), zU] [] W) (dTest X p) := by
  have hF := wY_F hY
  have h13 := hF.2.1
  have hIw := hF.1
  obtain ⟨hn, hn4⟩ := wY_n hY
  obtain ⟨h1, h2, h3, h4, h5, h6, h7, h8, h9, h10, h11, h12⟩ := id hI
  have hQ4 := hY.2.2.2.2.2.1
  have hm := iS_m h12
  obtain ⟨c1, c2, c3, c4, c5, c6⟩ := id h12
  obtain ⟨v1, v2⟩ := id h10
  by_cases g1 : 0 ≤ p ∧ p < Y.2.2.2.2 0 4
  · have hB := wF_B hF g1.1 g1.2
    have hV2 : wV Y 2 p := hB.1
    have hat := c_boardAt (G := G) (n := n) (s := s) (X := X) hF g1.1 g1.2
    obtain ⟨e1, e2, e3⟩ := c6 p g1.1 g1.2
    have b2 := c2 p g1.1 (by omega)
    by_cases g3 : X 1035 p ≠ 0 ∧ X 1037 p = 0
    · obtain ⟨g31, g32⟩ := id g3
      have hst : ev_ G 181 0 [.ref (wA Y 13 0), .int (zJ p), zU] [] (wd Y n s X) = ev_ G 181 25 [.ref (wA Y 13 0), .int (zJ p), .ref (wA Y 2 p)] [.int (zJ 1)] (wd Y n s X) := by
        rw [q_X11_test_0, k13 h13, hat, t_R]
        simp (disch := first | assumption | omega) only [g2_0, g2_2, e1, g31, g32, ↓reduceIte, zB_T, zB_F, zB_if, ite_not, z_10, z_00, i_10, i_00, if_true, if_false, c_cIx0, c_cIx1, c_cAr0, c_cAr1, c_cSt0, c_cSt1, l_0, l_1, l_2, l_3, l_4, l_5, l_6, l_7, l_8, l_9, l_10, l_12, l_16, l_24, l_31, l_32, l_48, l_96, l_99, l_100, l_150, l_180, l_200, l_240, l_255, l_260, l_384, l_400, l_999, l_5000, l_9999, l_1000000, l_1000000000, t_I, t_Ie, t_R, t_Re, t_N, t_Nn, t_V, t_Ve, t_b, t_x, t_w, e_0, e_1, e_2, e_3, zJ_lt, zJ_le, zJ_eq]
      have e1' : ∀ f, f ≠ 41 → wu X 41 p 1 f = X f := fun f hf => funext fun j => wu_ne hf
      have hff := c_testR (G := G) (n := n) (s := s) (b := p) (c := X 266 0) hIw hB 8 0 zU (wu X 41 p 1) (by decide) (by decide) (fun k k0 k1 => by
        rw [e1' 223 (by decide), (e3 (8 * p + k) (by omega) (by omega)).1.2.2.1]
        have := c4 (8 * p + k) (by omega) (by omega)
        omega)
      generalize hX1 : zff (wu X 41 p 1) p (X 266 0) 0 = X1 at hff
      have x1f : ∀ f, f ≠ 224 → f ≠ 41 → X1 f = X f := by
        intro f k1 k2
        funext j
        rw [← hX1]
        show (if f = 224 ∧ _ then 1 else wu X 41 p 1 f j) = _
        rw [if_neg (fun g => k1 g.1), wu_ne k2]
      have s1 : zsame [224, 41] X X1 := fun f hf => by
        simp only [List.mem_cons, List.not_mem_nil, or_false, not_or] at hf
        exact x1f f hf.1 hf.2
      have x224 : ∀ j, X1 224 j = if 8 * p ≤ j ∧ j < 8 * p + 8 ∧ zbt (X 266 0) (j - 8 * p) = true ∧ X 223 j ≠ 0 then 1 else X 224 j := by
        intro j
        rw [← hX1]
        show (if 224 = 224 ∧ 8 * p + 0 ≤ j ∧ j < 8 * p + 8 ∧ zbt (X 266 0) (j - 8 * p) = true ∧ wu X 41 p 1 223 j ≠ 0 then 1 else wu X 41 p 1 224 j) = _
        rw [e1' 223 (by decide), e1' 224 (by decide), Int.add_zero]
        by_cases hc : 8 * p ≤ j ∧ j < 8 * p + 8 ∧ zbt (X 266 0) (j - 8 * p) = true ∧ X 223 j ≠ 0
        · rw [if_pos hc, if_pos ⟨rfl, hc⟩]
        · rw [if_neg hc, if_neg (fun g => hc g.2)]
      have x41 : ∀ j, X1 41 j = if j = p then 1 else X 41 j := by
        intro j
        rw [← hX1]
        show (if 41 = 224 ∧ _ then 1 else wu X 41 p 1 41 j) = _
        rw [if_neg (fun g => absurd g.1 (by decide)), wu_v]
      generalize hX0 : wu X1 444 0 0 = X0
      generalize hX2 : ztsm p 8 0 (wu X0 1036 p 1) = X2
      have x2f : ∀ f, f ≠ 1042 → f ≠ 1036 → f ≠ 444 → X2 f = X1 f := by
        intro f k1 k2 k3
        funext j
        rw [← hX2, ztsm_f k1, wu_ne k2, ← hX0, wu_ne k3]
      have s0 : zsame [224, 41, 1042, 1036, 444] X X2 := fun f hf => by
        simp only [List.mem_cons, List.not_mem_nil, or_false, not_or] at hf
        rw [x2f f hf.2.2.1 hf.2.2.2.1 hf.2.2.2.2, x1f f hf.1 hf.2.1]
      have w0 : ∀ f, f ≠ 1036 → f ≠ 444 → f ≠ 224 → f ≠ 41 → wu X0 1036 p 1 f = X f := by
        intro f k1 k2 k3 k4
        funext j
        rw [wu_ne k1, ← hX0, wu_ne k2, x1f f k3 k4]
      have x1042 : ∀ j, 8 * p ≤ j → j < 8 * p + 8 → X2 1042 j = if X 1042 j ≠ 0 ∨ (X 1033 (j - 8 * p) ≠ 0 ∧ X 1041 j ≠ 0) then 1 else 0 := by
        intro j j0 j1
        rw [← hX2, ztsm_v, if_pos (by omega), w0 1042 (by decide) (by decide) (by decide) (by decide), w0 1033 (by decide) (by decide) (by decide) (by decide), w0 1041 (by decide) (by decide) (by decide) (by decide)]
      have x1042o : ∀ j, ¬(8 * p ≤ j ∧ j < 8 * p + 8) → X2 1042 j = X 1042 j := by
        intro j hj
        rw [← hX2, ztsm_v, if_neg (by omega), w0 1042 (by decide) (by decide) (by decide) (by decide)]
      have x1036 : ∀ j, X2 1036 j = if j = p then 1 else X 1036 j := by
        intro j
        rw [← hX2, ztsm_f (by decide), wu_v, ← hX0, wu_ne (by decide), x1f 1036 (by decide) (by decide)]
      have y224 : ∀ j, X2 224 j = X1 224 j := fun j => by rw [x2f 224 (by decide) (by decide) (by decide)]
      have hkk : ∀ j, 8 * p ≤ j → j < 8 * p + 8 → X1 224 j = X2 1042 j := by
        intro j j0 j1
        have d := (e3 j j0 j1).1
        have d4 := c4 j (by omega) (by omega)
        have dv := v2 (j - 8 * p) (by omega) (by omega)
        rw [x224, x1042 j j0 j1, d.2.2.1, d.2.2.2.1]
        by_cases k1 : X 1041 j = 0
        · have k2 : X 1042 j = 0 := by
            by_cases g : X 1042 j = 0
            · exact g
            · exact absurd k1 (d4.2.2.2.2 g).1
          rw [if_neg (fun g => g.2.2.2 k1), if_neg (fun g => g.elim (fun g => g k2) (fun g => g.2 k1)), k2]
        · by_cases k3 : X 1033 (j - 8 * p) = 1
          · rw [if_pos ⟨j0, j1, dv.2.mpr k3, k1⟩, if_pos (.inr ⟨by omega, k1⟩)]
          · have k4 : ¬zbt (X 266 0) (j - 8 * p) = true := fun g => k3 (dv.2.mp g)
            rw [if_neg (fun g => k4 g.2.2.1)]
            by_cases k5 : X 1042 j = 0
            · rw [if_neg (fun g => g.elim (fun g => g k5) (fun g => by omega)), k5]
            · rw [if_pos (.inl k5)]
              omega
      have hr2 : ∀ j, 8 * p ≤ j → j < 8 * p + 8 → 0 ≤ X2 1042 j ∧ X2 1042 j ≤ 1 := by
        intro j j0 j1
        rw [x1042 j j0 j1]
        split <;> decide
      have hfd := c_found (G := G) (n := n) (s := s) (X := X1) (f := 1) hB (fun k k0 k1 => by
        rw [x1f 223 (by decide) (by decide), hkk _ (by omega) (by omega), (e3 (8 * p + k) (by omega) (by omega)).1.2.2.1]
        have := c4 (8 * p + k) (by omega) (by omega)
        have := hr2 (8 * p + k) (by omega) (by omega)
        omega) (by decide)
      have hzz : zfnd X1 p 1 = zfm X2 p 1 := by
        unfold zfnd zfm
        rw [zsm_sh (f := fun m => zB (X1 223 m ≠ 0 ∧ X1 224 m = 1)), Int.add_zero]
        refine zsm_congr _ _ (fun j j0 j1 => ?_)
        show zB (X1 223 j ≠ 0 ∧ X1 224 j = 1) = zB (X2 1041 j ≠ 0 ∧ X2 1042 j = 1)
        unfold zB
        rw [hkk j j0 (by omega), x1f 223 (by decide) (by decide), s0 1041 (by decide), (e3 j j0 (by omega)).1.2.2.1]
      rw [hzz] at hfd
      refine zcal_0 (X1 := X1) (X2 := X2) (zfm X2 p 1) hY ?_ (zd2_0 (by omega) g3 ⟨rfl, x1036, fun j j0 j1 => x1042 j j0 j1, x1042o, s0⟩) ?_ ?_ (fun f hf => funext fun j => by (try rw [← hX2]); (try rw [← hX0]); simp (disch := omega) only [wu_ne, ztsm_f]) (fun f hf => by first | exact s0 f (by simp only [List.mem_cons, List.not_mem_nil, or_false, not_or]; omega) | (funext j; (try rw [← hX2]); (try rw [← hX0]); (try rw [← hX1]); (try rw [← hXB]); (try rw [← hXA]); simp (disch := omega) only [wu_ne, ztsm_f]))
      · show ev_ G 181 0 _ [] _ = _
        rw [hst, q_X11_test_25, c_cSt1, t_V, g13_6 h13, t_b, k2 hV2, q_X0_findFaults_0, t_1, l_1, p2_1 hV2 hIw, t_b, l_0, hff, t_V, k2 hV2, hfd, t_I]
      · rw [← hX2, ztsm_f (by decide), wu_ne (by decide), ← hX0, wu_eq]
      · refine ⟨iB_c h1 (same_g s0 (by decide)) rfl, iC_c h2 (same_g s0 (by decide)) rfl, iT_c h3 (same_g s0 (by decide)) rfl, iW_c h4 (same_g s0 (by decide)) (fun _ _ _ => rfl) hn, iF_c h5 (same_g s0 (by decide)), iO_c h6 (same_g s0 (by decide)), iD_c h7 (same_g s0 (by decide)) (by omega), iR_c h8 (same_g s0 (by decide)) rfl, iM_c h9 (same_g s0 (by decide)), iV_c h10 (same_g s0 (by decide)), iH_c h11 (same_g s0 (by decide)), ?_⟩
        refine iS_u h12 g1 hn4 (by rw [s0 434 (by decide)]) (fun b hb f hf => ?_) (fun b b0 b1 _ => s0 (509 + b) (by simp only [List.mem_cons, List.not_mem_nil, or_false]; omega)) (fun k hk f hf => ?_) (s0 1026 (by decide)) ?_ (fun k k0 k1 => ?_) ?_ (fun z z0 z1 => ?_) (fun k k0 k1 => ?_)
        · simp only [List.mem_cons, List.not_mem_nil, or_false] at hf
          rcases hf with e | e | e | e | e | e <;> subst e
          · rw [s0 1035 (by decide)]
          · rw [x1036, if_neg hb]
          · rw [s0 1037 (by decide)]
          · rw [s0 40 (by decide)]
          · rw [x2f 41 (by decide) (by decide) (by decide), x41, if_neg hb]
          · rw [s0 42 (by decide)]
        · simp only [fK, List.mem_cons, List.not_mem_nil, or_false] at hf
          rcases hf with e | e | e | e | e | e | e | e | e | e | e | e | e | e <;> subst e
          · rw [s0 220 (by decide)]
          · rw [s0 221 (by decide)]
          · rw [s0 222 (by decide)]
          · rw [s0 223 (by decide)]
          · rw [y224, x224, if_neg (fun g => hk ⟨g.1, g.2.1⟩)]
          · rw [s0 225 (by decide)]
          · rw [s0 226 (by decide)]
          · rw [s0 227 (by decide)]
          · rw [s0 1038 (by decide)]
          · rw [s0 1039 (by decide)]
          · rw [s0 1040 (by decide)]
          · rw [s0 1041 (by decide)]
          · rw [x1042o k hk]
          · rw [s0 1043 (by decide)]
        · rw [s0 1035 (by decide), s0 1037 (by decide), x1036, if_pos rfl]
          exact ⟨b2.1, by decide, b2.2.2⟩
        · rw [s0 1038 (by decide), s0 1041 (by decide), s0 1043 (by decide)]
          have d4 := c4 k (by omega) (by omega)
          refine ⟨d4.1, d4.2.1, hr2 k k0 k1, d4.2.2.2.1, fun g => ?_⟩
          rw [x1042 k k0 k1] at g
          by_cases k2 : X 1042 k ≠ 0 ∨ (X 1033 (k - 8 * p) ≠ 0 ∧ X 1041 k ≠ 0)
          · rcases k2 with k2 | k2
            · exact d4.2.2.2.2 k2
            · refine ⟨k2.2, ?_⟩
              by_cases k3 : X 1038 k = -1
              · exact absurd ((e3 k k0 k1).2.2.2.2.2.1 k3) k2.2
              · omega
          · rw [if_neg k2] at g
            exact absurd rfl g
        · rw [s0 1035 (by decide), s0 1037 (by decide), s0 40 (by decide), s0 42 (by decide), x1036, if_pos rfl, x2f 41 (by decide) (by decide) (by decide), x41, if_pos rfl]
          exact ⟨e1.1, rfl, e1.2.2⟩
        · rw [s0 (509 + p) (by simp only [List.mem_cons, List.not_mem_nil, or_false]; omega)]
          exact e2 z z0 z1
        · obtain ⟨i1, i2, i3, i4, i5, i6, i7⟩ := e3 k k0 k1
          have hz : zpeak X2 p = zpeak X p := zpeak_c (s0 (509 + p) (by simp only [List.mem_cons, List.not_mem_nil, or_false]; omega)) (fun j _ _ => by rw [s0 220 (by decide)])
          unfold iS1
          rw [hz, s0 220 (by decide), s0 221 (by decide), s0 222 (by decide), s0 223 (by decide), s0 225 (by decide), s0 226 (by decide), s0 227 (by decide), s0 1038 (by decide), s0 1039 (by decide), s0 1040 (by decide), s0 1041 (by decide), s0 1043 (by decide), s0 1026 (by decide), s0 1035 (by decide), y224, hkk k k0 k1]
          exact ⟨⟨i1.1, i1.2.1, i1.2.2.1, rfl, i1.2.2.2.2⟩, i2, i3, i4, i5, i6, i7⟩
    · refine zcal_e 2 2 hI hY (by decide) (by decide) ?_ (by first | exact zd1_1 (by first | assumption | omega) (same_u (by decide) same_r) | exact zd2_1 (by first | assumption | omega) (same_u (by decide) same_r) | exact zd2_2 (by first | assumption | omega) (by first | assumption | omega) (same_u (by decide) same_r) | exact zd3_1 (by first | assumption | omega) (same_u (by decide) same_r) | exact zd3_2 (by first | assumption | omega) (by first | assumption | omega) (same_u (by decide) same_r) | exact zd3_3 (by first | assumption | omega) (by first | assumption | omega) (by first | assumption | omega) (same_u (by decide) same_r))
      have hst : ev_ G 181 0 [.ref (wA Y 13 0), .int (zJ p), zU] [] (wd Y n s X) = ev_ G 181 25 [.ref (wA Y 13 0), .int (zJ p), .ref (wA Y 2 p)] [.int (zJ 0)] (wd Y n s X) := by
        rw [q_X11_test_0, k13 h13, hat, t_R]
        by_cases g31 : X 1035 p = 0
        · simp (disch := first | assumption | omega) only [g2_0, g2_2, e1, g31, ↓reduceIte, zB_T, zB_F, zB_if, ite_not, z_10, z_00, i_10, i_00, if_true, if_false, c_cIx0, c_cIx1, c_cAr0, c_cAr1, c_cSt0, c_cSt1, l_0, l_1, l_2, l_3, l_4, l_5, l_6, l_7, l_8, l_9, l_10, l_12, l_16, l_24, l_31, l_32, l_48, l_96, l_99, l_100, l_150, l_180, l_200, l_240, l_255, l_260, l_384, l_400, l_999, l_5000, l_9999, l_1000000, l_1000000000, t_I, t_Ie, t_R, t_Re, t_N, t_Nn, t_V, t_Ve, t_b, t_x, t_w, e_0, e_1, e_2, e_3, zJ_lt, zJ_le, zJ_eq]
        · have g32 : ¬X 1037 p = 0 := fun g => g3 ⟨g31, g⟩
          simp (disch := first | assumption | omega) only [g2_0, g2_2, e1, g31, g32, ↓reduceIte, zB_T, zB_F, zB_if, ite_not, z_10, z_00, i_10, i_00, if_true, if_false, c_cIx0, c_cIx1, c_cAr0, c_cAr1, c_cSt0, c_cSt1, l_0, l_1, l_2, l_3, l_4, l_5, l_6, l_7, l_8, l_9, l_10, l_12, l_16, l_24, l_31, l_32, l_48, l_96, l_99, l_100, l_150, l_180, l_200, l_240, l_255, l_260, l_384, l_400, l_999, l_5000, l_9999, l_1000000, l_1000000000, t_I, t_Ie, t_R, t_Re, t_N, t_Nn, t_V, t_Ve, t_b, t_x, t_w, e_0, e_1, e_2, e_3, zJ_lt, zJ_le, zJ_eq]
      show ev_ G 181 0 _ [] _ = _
      rw [hst, q_X11_test_25, c_cSt0, t_Ve, t_x, t_w]
  · refine zcal_e 0 1 hI hY (by decide) (by decide) ?_ (by first | exact zd1_1 (by first | assumption | omega) (same_u (by decide) same_r) | exact zd2_1 (by first | assumption | omega) (same_u (by decide) same_r) | exact zd2_2 (by first | assumption | omega) (by first | assumption | omega) (same_u (by decide) same_r) | exact zd3_1 (by first | assumption | omega) (same_u (by decide) same_r) | exact zd3_2 (by first | assumption | omega) (by first | assumption | omega) (same_u (by decide) same_r) | exact zd3_3 (by first | assumption | omega) (by first | assumption | omega) (by first | assumption | omega) (same_u (by decide) same_r))
    show ev_ G 181 0 _ [] _ = _
    rw [q_X11_test_0, k13 h13, c_boardAt_no hF hp.1 hp.2 g1, t_Re, t_x]
end ZK
