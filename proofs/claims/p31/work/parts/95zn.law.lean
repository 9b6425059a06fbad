/-! THE LAW, 17: what it asks at first -/
section ZL
variable {Y : zLy} {n s : Nat} {X : zX} {G : Nat × Nat} {X' : zX} {t p q r k w v : Int} {ec : List (Nat × Int)} {D : Int → Int → zX → Prop} {run : zR}
def zqL (G : Nat × Nat) (t : Int) (Y : zLy) (n s : Nat) (X : zX) (run : zR) (v : Int) : Prop := ∃ (Y' : zLy) (n' s' : Nat) (X' : zX), run = some (.inl (some (.int (zJ v))), wd Y' n' s' X') ∧ zLA G (t + 1) Y' n' X' ∧ wle Y n Y' n' ∧ n' ≤ n + 30 ∧ s ≤ s' ∧ s' ≤ s + 500 ∧ zsame [444, 503, 504] X X'
theorem iAll_x {Q : zQs} (s0 : zsame [503, 504] X X') (hn : Q 0 2 ≤ 24) (hn4 : Q 0 4 ≤ 12) (h : iAll t Q X) (h5' : ∀ r, 0 ≤ X' 503 r ∧ X' 503 r ≤ 100000000) (h6' : ∀ r, 0 ≤ X' 504 r ∧ X' 504 r ≤ 1000000000) : iAll (t + 1) Q X' := by
  obtain ⟨h1, h2, h3, h4, h5, h6, h7, h8, h9, h10, h11, h12⟩ := h
  refine ⟨iB_c h1 (same_g s0 (by decide)) rfl, iC_c h2 (same_g s0 (by decide)) rfl, iT_c h3 (same_g s0 (by decide)) rfl, iW_c h4 (same_g s0 (by decide)) (fun _ _ _ => rfl) hn, iF_c h5 (same_g s0 (by decide)), ?_, iD_c h7 (same_g s0 (by decide)) (by omega), iR_c h8 (same_g s0 (by decide)) rfl, iM_c h9 (same_g s0 (by decide)), iV_c h10 (same_g s0 (by decide)), iH_c h11 (same_g s0 (by decide)), iS_c h12 (same_g s0 (by decide)) rfl rfl hn4⟩
  unfold iO at *
  rw [s0 417 (by decide), s0 144 (by decide), s0 1018 (by decide), s0 501 (by decide), s0 1019 (by decide), s0 502 (by decide), s0 1020 (by decide)]
  exact ⟨h6.1, h6.2.1, h6.2.2.1, h6.2.2.2.1, h5', h6'⟩
theorem zqL_d (hZ : zLA G t Y n X) (hd : zdoes ec t Y n s X run D) (hK : ∀ (code ans v' : Int) (X2 : zX), D code ans X2 → (code = 0 → v' = ans) → (∀ q ∈ ec, code = q.2 → v' = zrv q.1) → v' = v ∧ zsame [444] X X2) : zqL G t Y n s X run v := by
  obtain ⟨hY, hG, hI, hp⟩ := hZ
  obtain ⟨Y', n', s', X2, code, ans, v', h1, h2, h3, h4, h5, h6, h7, h8, h9, h10, h11⟩ := hd
  obtain ⟨e, e1⟩ := hK code ans v' X2 h2 h3 h4
  subst e
  exact ⟨Y', n', s', X2, h1, ⟨h5, h6.2.1.trans hG, h10, pK_s e1 (by decide) hp⟩, h6, h7, h8, h9, same_m e1 (by decide)⟩
theorem zqL_n (hZ : zLA G t Y n X) (e : run = some (.inl (some (.int (zJ v))), wd Y (n + 1) (s + 6) X)) : zqL G t Y n s X run v := by
  obtain ⟨hY, hG, hI, hp⟩ := hZ
  obtain ⟨hn, hn4⟩ := wY_n hY
  have hO := hI.2.2.2.2.2.1
  unfold iO at hO
  exact ⟨Y, n + 1, s + 6, X, e, ⟨⟨wK_n hY.1 (Nat.le_succ _), hY.2⟩, hG, iAll_x same_r hn hn4 hI hO.2.2.2.2.1 hO.2.2.2.2.2, hp⟩, ⟨Nat.le_succ _, rfl, fun _ _ _ _ h => ⟨h, rfl⟩, fun _ _ h => ⟨rfl, h⟩⟩, by omega, by omega, by omega, same_r⟩
theorem zqL_x (hZ : zLA G t Y n X) (s0 : zsame [503, 504] X X') (h5' : ∀ r, 0 ≤ X' 503 r ∧ X' 503 r ≤ 100000000) (h6' : ∀ r, 0 ≤ X' 504 r ∧ X' 504 r ≤ 1000000000) (e : run = some (.inl (some (.int (zJ v))), wd Y n s X')) : zqL G t Y n s X run v := by
  obtain ⟨hY, hG, hI, hp⟩ := hZ
  obtain ⟨hn, hn4⟩ := wY_n hY
  exact ⟨Y, n, s, X', e, ⟨hY, hG, iAll_x s0 hn hn4 hI h5' h6', pK_s s0 (by decide) hp⟩, wle_r, by omega, by omega, by omega, same_m s0 (by decide)⟩
theorem qL_1 (hZ : zLA G t Y n X) : zqL G t Y n s X (ev_ G 207 0 [.ref (wA Y 13 0), .int 0, .int 8, .int 0, .int 1, .int 1, .int 0, zU] [] (wd Y n s X)) (-3000000) := by
  refine zqL_d hZ (d_bundle (p := 8) (q := 0) (r := 1) (u := 1) (e1 := 0) hZ.1 hZ.2.1 hZ.2.2.1 (by decide) (by decide) (by decide) (by decide)) (fun code ans v X2 hD h0 hE => ?_)
  unfold dBundle at hD
  exact (zd3_v hD h0 hE).1 (by omega)
theorem qL_2 (hZ : zLA G t Y n X) : zqL G t Y n s X (ev_ G 207 0 [.ref (wA Y 13 0), .int 6, .int 256, .int 1, .int 0, .int 0, .int 0, zU] [] (wd Y n s X)) (-2000000) := by
  refine zqL_n hZ ?_
  have h13 := (wY_F hZ.1).2.1
  have hI := (wY_F hZ.1).1
  have g11 : ¬((0 : Int) ≤ 256 ∧ (256 : Int) ≤ 255) := by omega
  have hc : ev_ G 95 0 [.ref (wA Y 13 0), .int (zJ 256), .int (zJ 1)] [] (wd Y n s X) = some (.inr 1, wd Y (n + 1) (s + 6) X) := by
    simp (disch := first | assumption | omega) only [q_X11_order_0, q_X11_order_26, c_isWithin, ↓reduceIte, zB_T, zB_F, zB_if, ite_not, z_10, z_00, i_10, i_00, if_true, if_false, c_cIx0, c_cIx1, c_cAr0, c_cAr1, c_cSt0, c_cSt1, l_0, l_1, l_2, l_3, l_4, l_5, l_6, l_7, l_8, l_9, l_10, l_12, l_16, l_24, l_31, l_32, l_48, l_96, l_99, l_100, l_150, l_180, l_200, l_240, l_255, l_260, l_384, l_400, l_999, l_5000, l_9999, l_1000000, l_1000000000, t_I, t_Ie, t_R, t_Re, t_N, t_Nn, t_V, t_Ve, t_b, t_x, t_w, e_0, e_1, e_2, e_3, zJ_lt, zJ_le, zJ_eq, g11]
  have hc' : ev_ G 95 0 [.ref (wA Y 13 0), .int 256, .int 1] [] (wd Y n s X) = some (.inr 1, wd Y (n + 1) (s + 6) X) := hc
  rw [q_L_does_0, if_neg (by decide), if_neg (by decide), if_neg (by decide), if_neg (by decide), if_neg (by decide), if_neg (by decide), if_pos (by decide), k13 h13, hc', t_Ie]
  rfl
theorem qL_3 (hZ : zLA G t Y n X) : zqL G t Y n s X (ev_ G 207 0 [.ref (wA Y 13 0), .int 20, .int 1000, .int 0, .int 0, .int 0, .int 0, zU] [] (wd Y n s X)) (-2000000) := by
  refine zqL_d hZ (d_pass (p := 1000) (e1 := 0) (e2 := 0) (e3 := 0) (e4 := 0) hZ.1 hZ.2.1 hZ.2.2.1 (by decide)) (fun code ans v X2 hD h0 hE => ?_)
  unfold dPass at hD
  exact (zd2_v hD h0 hE).1 (by omega)
theorem qL_4 (hZ : zLA G t Y n X) (h : X 434 0 = 0) : zqL G t Y n s X (ev_ G 207 0 [.ref (wA Y 13 0), .int 14, .int 0, .int 0, .int 0, .int 0, .int 0, zU] [] (wd Y n s X)) (-3000000) := by
  refine zqL_d hZ (d_solder (p := 0) (e1 := 0) (e2 := 0) (e3 := 0) (e4 := 0) hZ.1 hZ.2.1 hZ.2.2.1 (by decide)) (fun code ans v X2 hD h0 hE => ?_)
  unfold dSolder at hD
  exact (zd2_v hD h0 hE).1 (by omega)
theorem qL_5 (hZ : zLA G t Y n X) : zqL G t Y n s X (ev_ G 207 0 [.ref (wA Y 13 0), .int 16, .int (-1), .int 0, .int 0, .int 0, .int 0, zU] [] (wd Y n s X)) (-3000000) := by
  refine zqL_d hZ (d_cover (p := -1) (q := 0) (e1 := 0) (e2 := 0) (e3 := 0) hZ.1 hZ.2.1 hZ.2.2.1 (by decide) (by decide)) (fun code ans v X2 hD h0 hE => ?_)
  unfold dCover at hD
  exact (zd1_v hD h0 hE).1 (by omega)
theorem qL_6 (hZ : zLA G t Y n X) (h : X 425 0 = 0) : zqL G t Y n s X (ev_ G 207 0 [.ref (wA Y 13 0), .int 22, .int 0, .int 0, .int 0, .int 0, .int 0, zU] [] (wd Y n s X)) (-3000000) := by
  refine zqL_n hZ ?_
  have hF := wY_F hZ.1
  have h13 := hF.2.1
  have hI := hF.1
  have hQ3 : Y.2.2.2.2 0 3 = 0 := by rw [← hZ.2.2.1.2.2.2.2.2.2.2.1.1, h]
  have hl3 := hF.2.2.2.2.2.2.2.1 3 (by decide) (by decide)
  have g : ¬((0 : Int) ≤ 0 ∧ (0 : Int) < Y.2.2.2.2 0 3) := by omega
  have hc : ev_ G 202 0 [.ref (wA Y 13 0), .int (zJ 0), zU, zU, zU] [] (wd Y n s X) = some (.inr 0, wd Y (n + 1) (s + 6) X) := by
    rw [q_X11_recall_0, g13_4 h13, t_b, k1 hl3.1, c_size hl3, t_I, c_isIndex (by decide) (by decide) (by omega) (by omega), t_I, zB_0 g, c_cIx0, t_Ve, t_x]
    rfl
  have hc' : ev_ G 202 0 [.ref (wA Y 13 0), .int 0, zU, zU, zU] [] (wd Y n s X) = some (.inr 0, wd Y (n + 1) (s + 6) X) := hc
  rw [q_L_does_0, if_neg (by decide), if_neg (by decide), if_neg (by decide), if_neg (by decide), if_neg (by decide), if_neg (by decide), if_neg (by decide), if_neg (by decide), if_neg (by decide), if_neg (by decide), if_neg (by decide), if_neg (by decide), if_neg (by decide), if_neg (by decide), if_neg (by decide), if_neg (by decide), if_neg (by decide), if_neg (by decide), if_neg (by decide), if_neg (by decide), if_neg (by decide), if_neg (by decide), k13 h13, hc', t_Ie]
  rfl
theorem qL_7 (hZ : zLA G t Y n X) (h : X 410 0 = 0) : zqL G t Y n s X (ev_ G 207 0 [.ref (wA Y 13 0), .int 5, .int 0, .int (-1), .int 0, .int 0, .int 0, zU] [] (wd Y n s X)) (-3000000) := by
  refine zqL_n hZ ?_
  have hQ2 : Y.2.2.2.2 0 2 = 0 := by rw [← hZ.2.2.1.2.2.2.1.1, h]
  exact d_ofWire_no (p := 0) (q := -1) (e1 := 0) (e2 := 0) (e3 := 0) hZ.1 (by decide) (by omega)
theorem zws_z {nw r : Int} (h : X 144 0 = 0) (h5 : 0 ≤ X 503 r ∧ X 503 r ≤ 100000000) : 0 ≤ zws X nw 0 503 r ∧ zws X nw 0 503 r ≤ 100000000 := by
  unfold zws
  split
  · have : zw1 X nw r (X 144 0) = 0 := by
      unfold zw1
      rw [h]
      exact Int.mul_zero _
    rw [this]
    decide
  · exact h5
theorem zws_s {nw i : Int} : zsame [503, 504] X (zws X nw i) := fun f hf => by
  simp only [List.mem_cons, List.not_mem_nil, or_false, not_or] at hf
  funext j
  exact if_neg (fun g => hf.1 g.1)
theorem zall_0 : zall 0 = 0 := by decide
theorem qL_8 (hZ : zLA G t Y n X) (h : X 144 0 = 0) : zqL G t Y n s X (zck 12 (wd Y n s X) (wA Y 13 0) (ev_ G 103 0 [.ref (wA Y 13 0), .int 3] [] (wd Y n s X))) 0 := by
  have hF := wY_F hZ.1
  have h13 := hF.2.1
  have h7' := hF.2.2.2.2.1
  have hIw := hF.1
  obtain ⟨hn, hn4⟩ := wY_n hZ.1
  have hO := hZ.2.2.1.2.2.2.2.2.1
  unfold iO at hO
  have hw4 := hZ.2.2.1.2.2.2.1
  have hQ2 := hZ.1.2.2.2.1
  have hc := c_choice (G := G) (n := n) (s := s) (X := X) (fam := 3) hF (fun w a b => by
    rw [(hw4.2.2.2 w a b).1.1]
    exact hw4.2.1 w a (by omega)) hO.2.1 (by decide) (fun r => zws_z h (hO.2.2.2.2.1 r))
  have e0 : ∀ w : Int → Int, zlr w 7 (zall (X 144 0)) 3 = 0 := fun w => by
    rw [h, zall_0]
    rfl
  rw [e0] at hc
  refine zqL_x hZ (zws_s (nw := Y.2.2.2.2 0 2) (i := 0)) (fun r => zws_z h (hO.2.2.2.2.1 r)) (fun r => hO.2.2.2.2.2 r) ?_
  have g1 : (1 : Int) ≤ 3 ∧ (3 : Int) ≤ 5 := by decide
  have hc' : ev_ G 103 0 [.ref (wA Y 13 0), .int (zJ 3)] [] (wd Y n s X) = some (.inl (some (.int (zJ 0))), wd Y n s (zws X (Y.2.2.2.2 0 2) 0)) := by
    simp (disch := first | assumption | omega) only [q_X11_least_0, c_isWithin, ↓reduceIte, zB_T, zB_F, zB_if, ite_not, z_10, z_00, i_10, i_00, if_true, if_false, c_cIx0, c_cIx1, c_cAr0, c_cAr1, c_cSt0, c_cSt1, l_0, l_1, l_2, l_3, l_4, l_5, l_6, l_7, l_8, l_9, l_10, l_12, l_16, l_24, l_31, l_32, l_48, l_96, l_99, l_100, l_150, l_180, l_200, l_240, l_255, l_260, l_384, l_400, l_999, l_5000, l_9999, l_1000000, l_1000000000, t_I, t_Ie, t_R, t_Re, t_N, t_Nn, t_V, t_Ve, t_b, t_x, t_w, e_0, e_1, e_2, e_3, zJ_lt, zJ_le, zJ_eq, g1, and_self, g13_0, g13_1, k7 h7', hc]
  rw [k13 h13]
  exact hc'
theorem qL_9 (hZ : zLA G t Y n X) (h : X 144 0 = 0) : zqL G t Y n s X (zck 12 (wd Y n s X) (wA Y 13 0) (ev_ G 111 0 [.ref (wA Y 13 0), .int 1] [] (wd Y n s X))) 0 := by
  have hF := wY_F hZ.1
  have h13 := hF.2.1
  have h7' := hF.2.2.2.2.1
  have hIw := hF.1
  obtain ⟨hn, hn4⟩ := wY_n hZ.1
  have hO := hZ.2.2.1.2.2.2.2.2.1
  unfold iO at hO
  have hw4 := hZ.2.2.1.2.2.2.1
  have hQ2 := hZ.1.2.2.2.1
  have hc := c_table (G := G) (n := n) (s := s) (X := X) (fam := 1) hF (fun w a b => by
    rw [(hw4.2.2.2 w a b).1.1]
    exact hw4.2.1 w a (by omega)) hO.2.1 (by decide) (fun r => zws_z h (hO.2.2.2.2.1 r)) hO.2.2.2.2.2
  have hX1 : zafs (zall (X 144 0) + 1).toNat (1 : Int).toNat (zt0 (zws X (Y.2.2.2.2 0 2) 0)) = zt0 (zws X (Y.2.2.2.2 0 2) 0) := by
    rw [h, zall_0]
    exact wu_self
  rw [hX1, h, zall_0] at hc
  have e0 : ∀ Z : zX, zt0 Z 504 0 = 0 := fun Z => wu_eq
  rw [e0] at hc
  refine zqL_x (X' := zt0 (zws X (Y.2.2.2.2 0 2) 0)) hZ (fun f hf => ?_) (fun r => ?_) (fun r => ?_) ?_
  · rw [← zws_s (X := X) (nw := Y.2.2.2.2 0 2) (i := 0) f hf]
    simp only [List.mem_cons, List.not_mem_nil, or_false, not_or] at hf
    funext j
    unfold zt0
    rw [wu_ne hf.2]
    exact if_neg (fun g => hf.2 g.1)
  · have := zws_z (nw := Y.2.2.2.2 0 2) h (hO.2.2.2.2.1 r)
    unfold zt0
    rw [wu_ne (by decide), if_neg (fun g => absurd g.1 (by decide))]
    exact this
  · unfold zt0
    rw [wu_v]
    have h6 := hO.2.2.2.2.2 r
    have e : zws X (Y.2.2.2.2 0 2) 0 504 r = X 504 r := if_neg (fun g => absurd g.1 (by decide))
    rw [e]
    split
    · decide
    · split
      · decide
      · exact h6
  · have g1 : (1 : Int) ≤ 1 ∧ (1 : Int) ≤ 5 := by decide
    have hc' : ev_ G 111 0 [.ref (wA Y 13 0), .int (zJ 1)] [] (wd Y n s X) = some (.inl (some (.int (zJ 0))), wd Y n s (zt0 (zws X (Y.2.2.2.2 0 2) 0))) := by
      simp (disch := first | assumption | omega) only [q_X11_leastAnew_0, c_isWithin, ↓reduceIte, zB_T, zB_F, zB_if, ite_not, z_10, z_00, i_10, i_00, if_true, if_false, c_cIx0, c_cIx1, c_cAr0, c_cAr1, c_cSt0, c_cSt1, l_0, l_1, l_2, l_3, l_4, l_5, l_6, l_7, l_8, l_9, l_10, l_12, l_16, l_24, l_31, l_32, l_48, l_96, l_99, l_100, l_150, l_180, l_200, l_240, l_255, l_260, l_384, l_400, l_999, l_5000, l_9999, l_1000000, l_1000000000, t_I, t_Ie, t_R, t_Re, t_N, t_Nn, t_V, t_Ve, t_b, t_x, t_w, e_0, e_1, e_2, e_3, zJ_lt, zJ_le, zJ_eq, g1, and_self, g13_0, g13_1, k7 h7', hc]
    rw [k13 h13]
    exact hc'
end ZL
