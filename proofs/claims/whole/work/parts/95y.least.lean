/-! THE TWO SIDES, 93: calls on both sides: least and leastAnew -/
section ZK
variable {Y : zLy} {n s : Nat} {X : zX} {G : Nat × Nat} {t p q r : Int} {X' : zX} {Q : zQs}
theorem m_leastB (hI : iAll t Y.2.2.2.2 X) (hY : wY Y n) (s0 : zsame [503, 504, 444] X X') (h1 : 1 ≤ p) (h2 : p ≤ 5) : wWm X' ∧ (0 ≤ X' 417 0 ∧ X' 417 0 ≤ 5) ∧ (∀ k, 0 ≤ k → k < 5 → 0 ≤ X' 1020 k ∧ X' 1020 k < 100) ∧ ∀ X2 : zX, (∀ f j, f ≠ 1020 → X2 f j = X' f j) → 0 ≤ zsm (zfw X2) 0 p.toNat ∧ zsm (zfw X2) 0 p.toNat ≤ 2000000000 := by
  obtain ⟨hn, hn4⟩ := wY_n hY
  obtain ⟨h1', h2', h3, h4, h5, h6, h7, h8, h9, h10, h11, h12⟩ := id hI
  have z6 := h6
  unfold iO at z6
  obtain ⟨d1, d2, d3, d4, d5, d6⟩ := z6
  have hn0 : 0 ≤ Y.2.2.2.2 0 2 ∧ Y.2.2.2.2 0 2 ≤ 24 := hY.2.2.2.1
  refine ⟨iW_m (iW_c h4 (same_g s0 (by decide)) (fun _ _ _ => rfl) hn) hn0 hY.2.1.2, by rw [s0 417 (by decide)]; omega, by rw [s0 1020 (by decide)]; exact d4, fun X2 hX => ?_⟩
  have s2 : zsame [503, 504, 444, 1020] X X2 := fun f hf => by
    have f1 : f ≠ 1020 := fun g => hf (by rw [g]; decide)
    rw [show X2 f = X' f from funext fun j => hX f j f1]
    refine s0 f (fun g => hf ?_)
    simp only [List.mem_cons, List.not_mem_nil, or_false] at g ⊢
    omega
  have := zsm_b (f := zfw X2) (c := 83076840) p.toNat 0 (fun j a b => zfw_b s2 h1' h4 h6 hn0)
  omega
theorem k_least (hY : wY Y n) (hI : iAll t Y.2.2.2.2 X) (hp : -2147483648 ≤ p ∧ p < 2147483648) : zcal [(1, 1)] t Y n s X (fun W => ev_ G 103 0 [.ref (wA Y 13 0), .int (zJ p)] [] W) (fun a W => ev_ G 107 0 [.ref a, .int (zJ p)] [] W) := by
  have hF := wY_F hY
  have h13 := hF.2.1
  have hIw := hF.1
  obtain ⟨hn, hn4⟩ := wY_n hY
  obtain ⟨h1, h2, h3, h4, h5, h6, h7, h8, h9, h10, h11, h12⟩ := id hI
  have h7' := hF.2.2.2.2.1
  have hn0 : 0 ≤ Y.2.2.2.2 0 2 ∧ Y.2.2.2.2 0 2 ≤ 24 := hY.2.2.2.1
  have hO := h6
  have z6 := h6
  unfold iO at z6
  obtain ⟨d1, d2, d3, d4, d5, d6⟩ := z6
  by_cases g1 : 1 ≤ p ∧ p ≤ 5
  · have hc := c_choice (G := G) (n := n) (s := s) (X := X) (fam := p) hF (fun w a b => by
      rw [(h4.2.2.2 w a b).1.1]
      exact h4.2.1 w a (by omega)) d2 (by omega) (fun r => zws_b h1 h4 hO hn0 r)
    have hR := zlr_e (p := p) h1 h4 hO hn0 g1
    generalize zlr (zws X (Y.2.2.2.2 0 2) 0 503) 7 (zall (X 144 0)) p = R at *
    have hb1 := fun r => zws_b h1 h4 hO hn0 r
    have hX1s : ∀ f j, f ≠ 503 → zws X (Y.2.2.2.2 0 2) 0 f j = X f j := fun f j h => if_neg (fun q => h q.1)
    generalize hwf : zws X (Y.2.2.2.2 0 2) 0 503 = wf at *
    generalize hX1 : zws X (Y.2.2.2.2 0 2) 0 = X1 at *
    generalize hX0 : wu X1 444 0 0 = X0
    have s0 : zsame [503, 504, 444] X X0 := fun f hf => by
      have f1 : f ≠ 503 := fun g => hf (by rw [g]; decide)
      have f2 : f ≠ 444 := fun g => hf (by rw [g]; decide)
      funext j
      rw [← hX0, wu_ne f2, hX1s f j f1]
    obtain ⟨b1, b2, b3, b4⟩ := m_leastB (p := p) hI hY s0 g1.1 g1.2
    have hO' := zlo_is (p := p) s0 h1 h4 hO hn0 g1
    rw [hX1, hwf] at hO'
    have e17 : X0 417 0 = X 144 0 := by rw [s0 417 (by decide), d1]
    have e := zIs_u hR hO'
    generalize hX2 : (zlo p (X 144 0).toNat (p ^ (X 144 0).toNat).toNat 0 1000000000 X0).2 = X2
    have hf2 : ∀ f j, f ≠ 1020 → X2 f j = X0 f j := fun f j h => by rw [← hX2, zlo_f _ _ _ _ _ _ h]
    have hr2 : ∀ k, 0 ≤ k → k < 5 → 0 ≤ X2 1020 k ∧ X2 1020 k < 100 := by
      rw [← hX2]
      exact zlo_r (by omega) _ _ _ _ b3
    refine zcal_0 (X1 := X1) (X2 := X2) R hY ?_ (fun Z m r hM => ?_) (by rw [hf2 _ _ (by decide), ← hX0, wu_eq]) ?_
    · simp (disch := first | assumption | omega) only [q_X11_least_0, c_isWithin, ↓reduceIte, zB_T, zB_F, zB_if, ite_not, z_10, z_00, i_10, i_00, if_true, if_false, c_cIx0, c_cIx1, c_cAr0, c_cAr1, c_cSt0, c_cSt1, l_0, l_1, l_2, l_3, l_4, l_5, l_6, l_7, l_8, l_9, l_10, l_12, l_16, l_24, l_31, l_32, l_48, l_96, l_99, l_100, l_150, l_180, l_200, l_240, l_255, l_260, l_384, l_400, l_999, l_5000, l_9999, l_1000000, l_1000000000, t_I, t_Ie, t_R, t_Re, t_N, t_Nn, t_V, t_Ve, t_b, t_x, t_w, e_0, e_1, e_2, e_3, zJ_lt, zJ_le, zJ_eq, g1, and_self, g13_0, g13_1, k7 h7', hc]
    · have := (m_least (G := G) (n := m) (s := r) (X := X1) (X0 := X0) (p := p) hM hX0 hp b1 b2 b3 (fun X' a b _ _ => b4 X' a)).2 g1
      rw [e17, hX2, ← e] at this
      exact this
    · have s2 : zsame [503, 504, 444, 1020] X X2 := fun f hf => by
        have f1 : f ≠ 1020 := fun g => hf (by rw [g]; decide)
        rw [show X2 f = X0 f from funext fun j => hf2 f j f1]
        refine s0 f (fun g => hf ?_)
        simp only [List.mem_cons, List.not_mem_nil, or_false] at g ⊢
        omega
      have s0 := s2
      refine ⟨iB_c h1 (same_g s0 (by decide)) rfl, iC_c h2 (same_g s0 (by decide)) rfl, iT_c h3 (same_g s0 (by decide)) rfl, iW_c h4 (same_g s0 (by decide)) (fun _ _ _ => rfl) hn, iF_c h5 (same_g s0 (by decide)), ?_, iD_c h7 (same_g s0 (by decide)) (by omega), iR_c h8 (same_g s0 (by decide)) rfl, iM_c h9 (same_g s0 (by decide)), iV_c h10 (same_g s0 (by decide)), iH_c h11 (same_g s0 (by decide)), iS_c h12 (same_g s0 (by decide)) rfl rfl hn4⟩
      unfold iO
      rw [s2 417 (by decide), s2 144 (by decide), s2 1018 (by decide), s2 501 (by decide), s2 1019 (by decide), s2 502 (by decide)]
      refine ⟨d1, d2, d3, hr2, fun r => ?_, fun r => ?_⟩
      · rw [hf2 _ _ (by decide), ← hX0, wu_ne (by decide), show X1 503 r = wf r from congrFun hwf r]
        exact hb1 r
      · rw [hf2 _ _ (by decide), ← hX0, wu_ne (by decide), hX1s _ _ (by decide)]
        exact d6 r
  · refine zcal_e 1 1 hI hY (by decide) (by decide) ?_ (fun Z m r hM => ?_)
    · simp (disch := first | assumption | omega) only [q_X11_least_0, c_isWithin, ↓reduceIte, zB_T, zB_F, zB_if, ite_not, z_10, z_00, i_10, i_00, if_true, if_false, c_cIx0, c_cIx1, c_cAr0, c_cAr1, c_cSt0, c_cSt1, l_0, l_1, l_2, l_3, l_4, l_5, l_6, l_7, l_8, l_9, l_10, l_12, l_16, l_24, l_31, l_32, l_48, l_96, l_99, l_100, l_150, l_180, l_200, l_240, l_255, l_260, l_384, l_400, l_999, l_5000, l_9999, l_1000000, l_1000000000, t_I, t_Ie, t_R, t_Re, t_N, t_Nn, t_V, t_Ve, t_b, t_x, t_w, e_0, e_1, e_2, e_3, g1]
    · have s0 : zsame [503, 504, 444] X (wu X 444 0 0) := same_u (by decide) same_r
      obtain ⟨b1, b2, b3, b4⟩ := m_leastB (p := 1) hI hY s0 (by decide) (by decide)
      refine (m_least (G := G) (n := m) (s := r) (X := X) (X0 := wu X 444 0 0) (p := p) hM rfl hp b1 b2 b3 (fun X' a b c d => absurd ⟨c, d⟩ g1)).1 g1
theorem k_leastAnew (hY : wY Y n) (hI : iAll t Y.2.2.2.2 X) (hp : -2147483648 ≤ p ∧ p < 2147483648) : zcal [(1, 1)] t Y n s X (fun W => ev_ G 111 0 [.ref (wA Y 13 0), .int (zJ p)] [] W) (fun a W => ev_ G 113 0 [.ref a, .int (zJ p)] [] W) := by
  have hF := wY_F hY
  have h13 := hF.2.1
  have hIw := hF.1
  obtain ⟨hn, hn4⟩ := wY_n hY
  obtain ⟨h1, h2, h3, h4, h5, h6, h7, h8, h9, h10, h11, h12⟩ := id hI
  have h7' := hF.2.2.2.2.1
  have hn0 : 0 ≤ Y.2.2.2.2 0 2 ∧ Y.2.2.2.2 0 2 ≤ 24 := hY.2.2.2.1
  have hO := h6
  have z6 := h6
  unfold iO at z6
  obtain ⟨d1, d2, d3, d4, d5, d6⟩ := z6
  by_cases g1 : 1 ≤ p ∧ p ≤ 5
  · have hc := c_table (G := G) (n := n) (s := s) (X := X) (fam := p) hF (fun w a b => by
      rw [(h4.2.2.2 w a b).1.1]
      exact h4.2.1 w a (by omega)) d2 (by omega) (fun r => zws_b h1 h4 hO hn0 r) d6
    obtain ⟨hR, hX1s, hX13, hX14⟩ := zaf_e (p := p) h1 h4 hO hn0
    have hb1 := fun r => zws_b h1 h4 hO hn0 r
    generalize zafs (zall (X 144 0) + 1).toNat p.toNat (zt0 (zws X (Y.2.2.2.2 0 2) 0)) = X1 at *
    generalize X1 504 (zall (X 144 0)) = R at *
    generalize hX0 : wu X1 444 0 0 = X0
    have s0 : zsame [503, 504, 444] X X0 := fun f hf => by
      have f1 : f ≠ 503 := fun g => hf (by rw [g]; decide)
      have f3 : f ≠ 504 := fun g => hf (by rw [g]; decide)
      have f2 : f ≠ 444 := fun g => hf (by rw [g]; decide)
      funext j
      rw [← hX0, wu_ne f2, hX1s f j f3 f1]
    obtain ⟨b1, b2, b3, b4⟩ := m_leastB (p := p) hI hY s0 g1.1 g1.2
    have hO' := zlo_is (p := p) s0 h1 h4 hO hn0 g1
    have e17 : X0 417 0 = X 144 0 := by rw [s0 417 (by decide), d1]
    have e := zIs_u hR hO'
    generalize hX2 : (zlo p (X 144 0).toNat (p ^ (X 144 0).toNat).toNat 0 1000000000 X0).2 = X2
    have hf2 : ∀ f j, f ≠ 1020 → X2 f j = X0 f j := fun f j h => by rw [← hX2, zlo_f _ _ _ _ _ _ h]
    have hr2 : ∀ k, 0 ≤ k → k < 5 → 0 ≤ X2 1020 k ∧ X2 1020 k < 100 := by
      rw [← hX2]
      exact zlo_r (by omega) _ _ _ _ b3
    refine zcal_0 (X1 := X1) (X2 := X2) R hY ?_ (fun Z m r hM => ?_) (by rw [hf2 _ _ (by decide), ← hX0, wu_eq]) ?_
    · simp (disch := first | assumption | omega) only [q_X11_leastAnew_0, c_isWithin, ↓reduceIte, zB_T, zB_F, zB_if, ite_not, z_10, z_00, i_10, i_00, if_true, if_false, c_cIx0, c_cIx1, c_cAr0, c_cAr1, c_cSt0, c_cSt1, l_0, l_1, l_2, l_3, l_4, l_5, l_6, l_7, l_8, l_9, l_10, l_12, l_16, l_24, l_31, l_32, l_48, l_96, l_99, l_100, l_150, l_180, l_200, l_240, l_255, l_260, l_384, l_400, l_999, l_5000, l_9999, l_1000000, l_1000000000, t_I, t_Ie, t_R, t_Re, t_N, t_Nn, t_V, t_Ve, t_b, t_x, t_w, e_0, e_1, e_2, e_3, zJ_lt, zJ_le, zJ_eq, g1, and_self, g13_0, g13_1, k7 h7', hc]
    · refine m_leastAnew hM ?_
      have := (m_least (G := G) (n := m) (s := r) (X := X1) (X0 := X0) (p := p) hM hX0 hp b1 b2 b3 (fun X' a b _ _ => b4 X' a)).2 g1
      rw [e17, hX2, ← e] at this
      exact this
    · have s2 : zsame [503, 504, 444, 1020] X X2 := fun f hf => by
        have f1 : f ≠ 1020 := fun g => hf (by rw [g]; decide)
        rw [show X2 f = X0 f from funext fun j => hf2 f j f1]
        refine s0 f (fun g => hf ?_)
        simp only [List.mem_cons, List.not_mem_nil, or_false] at g ⊢
        omega
      have s0 := s2
      refine ⟨iB_c h1 (same_g s0 (by decide)) rfl, iC_c h2 (same_g s0 (by decide)) rfl, iT_c h3 (same_g s0 (by decide)) rfl, iW_c h4 (same_g s0 (by decide)) (fun _ _ _ => rfl) hn, iF_c h5 (same_g s0 (by decide)), ?_, iD_c h7 (same_g s0 (by decide)) (by omega), iR_c h8 (same_g s0 (by decide)) rfl, iM_c h9 (same_g s0 (by decide)), iV_c h10 (same_g s0 (by decide)), iH_c h11 (same_g s0 (by decide)), iS_c h12 (same_g s0 (by decide)) rfl rfl hn4⟩
      unfold iO
      rw [s2 417 (by decide), s2 144 (by decide), s2 1018 (by decide), s2 501 (by decide), s2 1019 (by decide), s2 502 (by decide)]
      refine ⟨d1, d2, d3, hr2, fun r => ?_, fun r => ?_⟩
      · rw [hf2 _ _ (by decide), ← hX0, wu_ne (by decide), hX13]
        exact hb1 r
      · rw [hf2 _ _ (by decide), ← hX0, wu_ne (by decide)]
        exact hX14 r
  · refine zcal_e 1 1 hI hY (by decide) (by decide) ?_ (fun Z m r hM => ?_)
    · simp (disch := first | assumption | omega) only [q_X11_leastAnew_0, c_isWithin, ↓reduceIte, zB_T, zB_F, zB_if, ite_not, z_10, z_00, i_10, i_00, if_true, if_false, c_cIx0, c_cIx1, c_cAr0, c_cAr1, c_cSt0, c_cSt1, l_0, l_1, l_2, l_3, l_4, l_5, l_6, l_7, l_8, l_9, l_10, l_12, l_16, l_24, l_31, l_32, l_48, l_96, l_99, l_100, l_150, l_180, l_200, l_240, l_255, l_260, l_384, l_400, l_999, l_5000, l_9999, l_1000000, l_1000000000, t_I, t_Ie, t_R, t_Re, t_N, t_Nn, t_V, t_Ve, t_b, t_x, t_w, e_0, e_1, e_2, e_3, g1]
    · have s0 : zsame [503, 504, 444] X (wu X 444 0 0) := same_u (by decide) same_r
      have h14 := hM.2.1
      obtain ⟨b1, b2, b3, b4⟩ := m_leastB (p := 1) hI hY s0 (by decide) (by decide)
      have := (m_least (G := G) (n := m) (s := r) (X := X) (X0 := wu X 444 0 0) (p := p) hM rfl hp b1 b2 b3 (fun X' a b c d => absurd ⟨c, d⟩ g1)).1 g1
      exact m_leastAnew hM this
end ZK
