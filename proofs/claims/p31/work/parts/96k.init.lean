/-! THE LAW, 19: the beginning, on -/
def zPq (k : Int) (X : zX) : zX := fun f j => if f = 1110 ∧ k ≤ j ∧ j < 32 then -1 else X f j
def zHq (k : Int) (X : zX) : zX := fun f j => if f = 1108 ∧ k ≤ j - 4 ∧ j - 4 < 6 then 180 else if f = 1108 ∧ k ≤ j - 10 ∧ j - 10 < 6 then 260 else X f j
def zX6 : zX := wu (wu (wu (wu (wu (zHq 0 (zPq 0 (zov zXz))) 1108 0 150) 1108 1 200) 1108 2 240) 1108 3 100) 1108 16 255
def zXl : zX := fun f j => if f < 1100 then zXi f j else zX6 f j
section ZL
variable {Y Y' : zLy} {n n' s s' ps m : Nat} {X X' : zX} {G : Nat × Nat} {t k : Int} {fa : Nat → Int32}
theorem l_92 (hL : wL Y) : ∀ (m : Nat) (k : Int) (X : zX), 0 ≤ k → k + m = 32 → ev_ G 205 92 [.ref ps, .ref (wA Y 13 0), .ref (wA Y 15 600), .ref (wA Y 15 601), .ref (wA Y 15 602), .ref (wA Y 15 603), .ref (wA Y 15 604), .ref (wA Y 15 605), .ref (wA Y 15 606), .ref (wA Y 15 607), .ref (wA Y 15 608), .ref (wA Y 15 609), .ref (wA Y 15 610), .ref (wA Y 15 611), .ref (wA Y 15 612), .ref (wA Y 15 613), .int (zJ k), zU, zU, zU, zU] [] (wd Y n s X) = ev_ G 205 114 [.ref ps, .ref (wA Y 13 0), .ref (wA Y 15 600), .ref (wA Y 15 601), .ref (wA Y 15 602), .ref (wA Y 15 603), .ref (wA Y 15 604), .ref (wA Y 15 605), .ref (wA Y 15 606), .ref (wA Y 15 607), .ref (wA Y 15 608), .ref (wA Y 15 609), .ref (wA Y 15 610), .ref (wA Y 15 611), .ref (wA Y 15 612), .ref (wA Y 15 613), .int (zJ 0), zU, zU, zU, zU] [] (wd Y n s (zPq k X)) := by
  intro m
  induction m with
  | zero =>
    intro k X h0 he
    have hk : k = 32 := by omega
    subst hk
    have : zPq 32 X = X := by
      funext f j
      exact if_neg (fun g => by omega)
    rw [this, q_L_law_92]
    simp (disch := first | assumption | omega) only [↓reduceIte, l_0, l_1, l_2, l_3, l_4, l_5, l_6, l_7, l_8, l_9, l_10, l_12, l_16, l_24, l_31, l_32, l_48, l_96, l_99, l_100, l_150, l_180, l_200, l_240, l_255, l_260, l_384, l_400, l_999, l_5000, l_9999, l_1000000, l_1000000000, l_11, l_13, l_14, l_15, l_17, l_18, l_19, l_20, l_21, l_22, l_23, l_25, l_26, l_28, l_30, l_34, l_38, l_42, l_44, l_54, l_60, l_64, l_81, l_90, l_101, l_103, l_110, l_120, l_128, l_140, l_256, l_401, l_403, l_450, l_512, l_853, l_983, l_1000, l_1001, l_2048, l_3000000, l_2000000, l_4096, l_5001, l_5002, l_10000, l_10001, l_32767, l_32768, l_60000, l_2147483647, zJ_lt, zJ_le, zJ_eq, zJ_add, zJ_sub, zJ_mul, zJ_neg, zJ_dv, t_I, t_Ie, t_R, t_Re, t_N, t_Nn, t_V, t_Ve, t_b, t_x, t_w, e_0, e_1, e_2, e_3, ↓t_0, ↓t_1, t_00, t_11, if_true, if_false, ite_not, not_false_eq_true, not_true_eq_false, Int.reduceEq, Int.reduceLT, Int.reduceLE, Int.reduceNeg, Nat.reduceEqDiff, Bool.false_eq_true]
  | succ m ih =>
    intro k X h0 he
    have e1 : ¬32 ≤ k := by omega
    have e : zPq (k + 1) (wu X 1110 k (-1)) = zPq k X := by
      funext f j
      unfold zPq wu
      repeat' split
      all_goals first | rfl | omega
    have hst : ev_ G 205 92 [.ref ps, .ref (wA Y 13 0), .ref (wA Y 15 600), .ref (wA Y 15 601), .ref (wA Y 15 602), .ref (wA Y 15 603), .ref (wA Y 15 604), .ref (wA Y 15 605), .ref (wA Y 15 606), .ref (wA Y 15 607), .ref (wA Y 15 608), .ref (wA Y 15 609), .ref (wA Y 15 610), .ref (wA Y 15 611), .ref (wA Y 15 612), .ref (wA Y 15 613), .int (zJ k), zU, zU, zU, zU] [] (wd Y n s X) = ev_ G 205 92 [.ref ps, .ref (wA Y 13 0), .ref (wA Y 15 600), .ref (wA Y 15 601), .ref (wA Y 15 602), .ref (wA Y 15 603), .ref (wA Y 15 604), .ref (wA Y 15 605), .ref (wA Y 15 606), .ref (wA Y 15 607), .ref (wA Y 15 608), .ref (wA Y 15 609), .ref (wA Y 15 610), .ref (wA Y 15 611), .ref (wA Y 15 612), .ref (wA Y 15 613), .int (zJ (k + 1)), zU, zU, zU, zU] [] (wd Y n s (wu X 1110 k (-1))) := by
      rw [q_L_law_92]
      simp (disch := first | assumption | omega) only [↓reduceIte, l_0, l_1, l_2, l_3, l_4, l_5, l_6, l_7, l_8, l_9, l_10, l_12, l_16, l_24, l_31, l_32, l_48, l_96, l_99, l_100, l_150, l_180, l_200, l_240, l_255, l_260, l_384, l_400, l_999, l_5000, l_9999, l_1000000, l_1000000000, l_11, l_13, l_14, l_15, l_17, l_18, l_19, l_20, l_21, l_22, l_23, l_25, l_26, l_28, l_30, l_34, l_38, l_42, l_44, l_54, l_60, l_64, l_81, l_90, l_101, l_103, l_110, l_120, l_128, l_140, l_256, l_401, l_403, l_450, l_512, l_853, l_983, l_1000, l_1001, l_2048, l_3000000, l_2000000, l_4096, l_5001, l_5002, l_10000, l_10001, l_32767, l_32768, l_60000, l_2147483647, zJ_lt, zJ_le, zJ_eq, zJ_add, zJ_sub, zJ_mul, zJ_neg, zJ_dv, t_I, t_Ie, t_R, t_Re, t_N, t_Nn, t_V, t_Ve, t_b, t_x, t_w, e_0, e_1, e_2, e_3, ↓t_0, ↓t_1, t_00, t_11, if_true, if_false, ite_not, not_false_eq_true, not_true_eq_false, Int.reduceEq, Int.reduceLT, Int.reduceLE, Int.reduceNeg, Nat.reduceEqDiff, Bool.false_eq_true, e1, sp_ hL]
    rw [hst, ih (k + 1) _ (by omega) (by omega), e]
theorem l_114 (hL : wL Y) : ∀ (m : Nat) (k : Int) (X : zX), 0 ≤ k → k + m = 6 → ev_ G 205 114 [.ref ps, .ref (wA Y 13 0), .ref (wA Y 15 600), .ref (wA Y 15 601), .ref (wA Y 15 602), .ref (wA Y 15 603), .ref (wA Y 15 604), .ref (wA Y 15 605), .ref (wA Y 15 606), .ref (wA Y 15 607), .ref (wA Y 15 608), .ref (wA Y 15 609), .ref (wA Y 15 610), .ref (wA Y 15 611), .ref (wA Y 15 612), .ref (wA Y 15 613), .int (zJ k), zU, zU, zU, zU] [] (wd Y n s X) = ev_ G 205 114 [.ref ps, .ref (wA Y 13 0), .ref (wA Y 15 600), .ref (wA Y 15 601), .ref (wA Y 15 602), .ref (wA Y 15 603), .ref (wA Y 15 604), .ref (wA Y 15 605), .ref (wA Y 15 606), .ref (wA Y 15 607), .ref (wA Y 15 608), .ref (wA Y 15 609), .ref (wA Y 15 610), .ref (wA Y 15 611), .ref (wA Y 15 612), .ref (wA Y 15 613), .int (zJ 6), zU, zU, zU, zU] [] (wd Y n s (zHq k X)) := by
  intro m
  induction m with
  | zero =>
    intro k X h0 he
    have hk : k = 6 := by omega
    subst hk
    have : zHq 6 X = X := by
      funext f j
      show (if _ then _ else if _ then _ else _) = _
      rw [if_neg (fun g => by omega), if_neg (fun g => by omega)]
    rw [this]
  | succ m ih =>
    intro k X h0 he
    have e1 : ¬6 ≤ k := by omega
    have e : zHq (k + 1) (wu (wu X 1108 (4 + k) 180) 1108 (10 + k) 260) = zHq k X := by
      funext f j
      unfold zHq wu
      repeat' split
      all_goals first | rfl | omega
    have h6 : ¬(6 : Int32) ≤ zJ k := by rw [l_6, zJ_le (by decide) (by decide) (by omega) (by omega)]; exact e1
    have hst : ev_ G 205 114 [.ref ps, .ref (wA Y 13 0), .ref (wA Y 15 600), .ref (wA Y 15 601), .ref (wA Y 15 602), .ref (wA Y 15 603), .ref (wA Y 15 604), .ref (wA Y 15 605), .ref (wA Y 15 606), .ref (wA Y 15 607), .ref (wA Y 15 608), .ref (wA Y 15 609), .ref (wA Y 15 610), .ref (wA Y 15 611), .ref (wA Y 15 612), .ref (wA Y 15 613), .int (zJ k), zU, zU, zU, zU] [] (wd Y n s X) = ev_ G 205 114 [.ref ps, .ref (wA Y 13 0), .ref (wA Y 15 600), .ref (wA Y 15 601), .ref (wA Y 15 602), .ref (wA Y 15 603), .ref (wA Y 15 604), .ref (wA Y 15 605), .ref (wA Y 15 606), .ref (wA Y 15 607), .ref (wA Y 15 608), .ref (wA Y 15 609), .ref (wA Y 15 610), .ref (wA Y 15 611), .ref (wA Y 15 612), .ref (wA Y 15 613), .int (zJ (k + 1)), zU, zU, zU, zU] [] (wd Y n s (wu (wu X 1108 (4 + k) 180) 1108 (10 + k) 260)) := by
      have g1 : zsto 0 (wd Y n s X) (wA Y 15 608) (zJ (4 + k)) 180 = some (wd Y n s (wu X 1108 (4 + k) 180)) := sh_ (v := 180) hL (by omega) (by omega)
      have g2 : zsto 0 (wd Y n s (wu X 1108 (4 + k) 180)) (wA Y 15 608) (zJ (10 + k)) 260 = some (wd Y n s (wu (wu X 1108 (4 + k) 180) 1108 (10 + k) 260)) := sh_ (v := 260) hL (by omega) (by omega)
      rw [q_L_law_114, if_neg h6, l_4, zJ_add, g1, t_b, l_10, zJ_add, g2, t_b, l_1, zJ_add]
    rw [hst, ih (k + 1) _ (by omega) (by omega), e]
theorem zX6_o {f j : Int} (h : f ≠ 1108 ∧ f ≠ 1110) : zX6 f j = zov zXz f j := by
  unfold zX6
  rw [wu_ne h.1, wu_ne h.1, wu_ne h.1, wu_ne h.1, wu_ne h.1]
  unfold zHq
  rw [if_neg (fun g => h.1 g.1), if_neg (fun g => h.1 g.1)]
  unfold zPq
  rw [if_neg (fun g => h.2 g.1)]
theorem zXl_g : zgh zX6 zXl := fun f hf => by
  funext j
  unfold zXl
  split
  · rw [zXi_w (by omega), zX6_o (by omega)]
  · rfl
theorem zXl_l {f : Int} (h : f < 1100) : zXl f = zXi f := by
  funext j
  exact if_pos h
theorem zXl_h {f : Int} (h : ¬f < 1100) : zXl f = zX6 f := by
  funext j
  exact if_neg h
theorem zXl_0 {f j : Int} (h : 1100 ≤ f) (h' : f ≠ 1108 ∧ f ≠ 1110) : zXl f j = 0 := by
  rw [zXl_h (by omega), zX6_o h', zov_l (by omega)]
theorem zXl_Z {f j : Int} (h : f < 1100) (h' : f ≠ 266 ∧ f ≠ 506 ∧ f ≠ 507 ∧ f ≠ 508 ∧ f ≠ 1009 ∧ f ≠ 1030 ∧ f ≠ 1031 ∧ f ≠ 1032 ∧ f ≠ 1033 ∧ f ≠ 1038 ∧ f ≠ 1039 ∧ f ≠ 1040) : zXl f j = 0 := by
  rw [zXl_l h]
  exact zXi_o h'
theorem zXl_p {j : Int} (h : 0 ≤ j ∧ j < 32) : zXl 1110 j = -1 := by
  rw [zXl_h (by decide)]
  unfold zX6
  rw [wu_ne (by decide), wu_ne (by decide), wu_ne (by decide), wu_ne (by decide), wu_ne (by decide)]
  unfold zHq
  rw [if_neg (by omega), if_neg (by omega)]
  unfold zPq
  rw [if_pos ⟨rfl, h⟩]
theorem zX6_h : ∀ j : Fin 19, zX6 1108 (j.val : Int) = if j.val = 0 then 150 else if j.val = 1 then 200 else if j.val = 2 then 240 else if j.val = 3 then 100 else if j.val < 10 then 180 else if j.val < 16 then 260 else if j.val = 16 then 255 else 0 := by decide +kernel
theorem zXl_c {j : Int} (h : 0 ≤ j ∧ j < 19) : zXl 1108 j = if j = 0 then 150 else if j = 1 then 200 else if j = 2 then 240 else if j = 3 then 100 else if j < 10 then 180 else if j < 16 then 260 else if j = 16 then 255 else 0 := by
  rw [zXl_h (by decide)]
  have := zX6_h ⟨j.toNat, by omega⟩
  simp only at this
  rw [show ((j.toNat : Nat) : Int) = j by omega] at this
  rw [this]
  repeat' split
  all_goals first | rfl | omega
theorem zXl_K : pK zXl := by
  have z := fun {f j : Int} (h : 1100 ≤ f) (h' : f ≠ 1108 ∧ f ≠ 1110) => @zXl_0 f j h h'
  have y := fun {f j : Int} (h : f < 1100) (h' : f ≠ 266 ∧ f ≠ 506 ∧ f ≠ 507 ∧ f ≠ 508 ∧ f ≠ 1009 ∧ f ≠ 1030 ∧ f ≠ 1031 ∧ f ≠ 1032 ∧ f ≠ 1033 ∧ f ≠ 1038 ∧ f ≠ 1039 ∧ f ≠ 1040) => @zXl_Z f j h h'
  refine ⟨?_, ?_, ?_, ?_, ?_, ?_, ?_, ?_⟩
  · unfold pG
    simp only [z (f := 1113) (by decide) (by decide), y (f := 400) (by decide) (by decide), y (f := 405) (by decide) (by decide), y (f := 410) (by decide) (by decide), y (f := 425) (by decide) (by decide), y (f := 434) (by decide) (by decide), y (f := 421) (by decide) (by decide), y (f := 422) (by decide) (by decide)]
    decide
  · intro k k0 k1
    rw [y (by decide) (by decide)] at k1
    omega
  · intro k k0 k1
    rw [y (by decide) (by decide)] at k1
    omega
  · refine ⟨fun k k0 k1 => ?_, fun k k0 k1 => z (by decide) (by decide)⟩
    rw [y (by decide) (by decide)] at k1
    omega
  · intro k k0 k1
    rw [y (by decide) (by decide)] at k1
    omega
  · have hov := zXi_oven
    refine ⟨fun k k0 k1 => ?_, fun k k0 k1 => ⟨?_, ?_⟩, ?_, ?_⟩
    · rw [zXl_c (by omega), zXl_l (by decide)]
      have : k = 0 ∨ k = 1 ∨ k = 2 ∨ k = 3 := by omega
      rcases this with rfl | rfl | rfl | rfl <;> decide
    · rw [zXl_c (by omega), zXl_l (by decide), (hov.2 k k0 k1).1.1, if_neg (by omega), if_neg (by omega), if_neg (by omega), if_neg (by omega), if_pos (by omega)]
    · rw [zXl_c (by omega), zXl_l (by decide), (hov.2 k k0 k1).2.1, if_neg (by omega), if_neg (by omega), if_neg (by omega), if_neg (by omega), if_neg (by omega), if_pos (by omega)]
    · rw [zXl_c (by decide), zXl_l (by decide), zXi_w (by decide)]
      decide
    · rw [zXl_c (by decide), y (by decide) (by decide)]
      decide
  · refine ⟨fun k k0 k1 => ?_, fun b b0 b1 => ?_⟩
    · rw [z (f := 1109) (by decide) (by decide), zXl_l (f := 1038) (by decide), zXi_103x (.inl rfl) (by omega), y (f := 1041) (by decide) (by decide), y (f := 1042) (by decide) (by decide), y (f := 1043) (by decide) (by decide), zXl_l (f := 1040) (by decide), zXi_103x (.inr (.inr rfl)) (by omega), zXl_p (by omega), zXl_l (f := 1039) (by decide), zXi_103x (.inr (.inl rfl)) (by omega)]
      decide
    · rw [z (f := 1111) (by decide) (by decide), y (f := 1035) (by decide) (by decide), y (f := 1036) (by decide) (by decide), y (f := 1037) (by decide) (by decide)]
      exact ⟨by decide, fun _ => rfl, fun _ => rfl, fun g => absurd rfl g⟩
  · intro k k0 k1
    rw [z (by decide) (by decide), y (by decide) (by decide)]
theorem zXl_L (hY : wY Y n) (hG : Y.1 = G.1) (hQ : Y.2.2.2.2 = fun _ _ => 0) : zLA G 0 Y n zXl := by
  refine ⟨hY, hG, ?_, zXl_K⟩
  rw [hQ]
  exact iAll_l (fun f hf => zXl_l hf) (by decide) (by decide) zXi_I
set_option maxRecDepth 100000 in
theorem l_first (hY : wY Y n) (hG : Y.1 = G.1) (hQ : Y.2.2.2.2 = fun _ _ => 0) : ∃ (Y' : zLy) (n' s' : Nat) (X' : zX), ev_ G 205 92 [.ref ps, .ref (wA Y 13 0), .ref (wA Y 15 600), .ref (wA Y 15 601), .ref (wA Y 15 602), .ref (wA Y 15 603), .ref (wA Y 15 604), .ref (wA Y 15 605), .ref (wA Y 15 606), .ref (wA Y 15 607), .ref (wA Y 15 608), .ref (wA Y 15 609), .ref (wA Y 15 610), .ref (wA Y 15 611), .ref (wA Y 15 612), .ref (wA Y 15 613), .int 0, zU, zU, zU, zU] [] (wd Y n s (zov zXz)) = ev_ G 205 324 [.ref ps, .ref (wA Y' 13 0), .ref (wA Y' 15 600), .ref (wA Y' 15 601), .ref (wA Y' 15 602), .ref (wA Y' 15 603), .ref (wA Y' 15 604), .ref (wA Y' 15 605), .ref (wA Y' 15 606), .ref (wA Y' 15 607), .ref (wA Y' 15 608), .ref (wA Y' 15 609), .ref (wA Y' 15 610), .ref (wA Y' 15 611), .ref (wA Y' 15 612), .ref (wA Y' 15 613), .int 1, .int 0, zU, zU, zU] [] (wd Y' n' s' X') ∧ zLA G 9 Y' n' X' ∧ wle Y n Y' n' ∧ n' ≤ n + 270 ∧ s ≤ s' ∧ s' ≤ s + 4500 := by
  have hL := wY_A hY
  have h13 := (wY_F hY).2.1
  have e1 := l_92 (G := G) (n := n) (s := s) (ps := ps) hL 32 0 (zov zXz) (by decide) (by decide)
  have e2 := l_114 (G := G) (n := n) (s := s) (ps := ps) hL 6 0 (zPq 0 (zov zXz)) (by decide) (by decide)
  have hZ := zXl_L hY hG hQ
  have y0 : zXl 434 0 = 0 := zXl_Z (by decide) (by decide)
  have y1 : zXl 425 0 = 0 := zXl_Z (by decide) (by decide)
  have y2 : zXl 410 0 = 0 := zXl_Z (by decide) (by decide)
  have y3 : zXl 144 0 = 0 := zXl_Z (by decide) (by decide)
  obtain ⟨Y1, n1, s1, X1, q1, z1, l1, b1, c1, d1, x1⟩ := qL_1 (s := s) hZ
  have a1 : wA Y 13 0 = wA Y1 13 0 := ((l1.2.2.1 13 0 (by decide) (by decide) h13).2).symm
  obtain ⟨Y2, n2, s2, X2, q2, z2, l2, b2, c2, d2, x2⟩ := qL_2 (s := s1) z1
  rw [← a1] at q2
  replace l2 := wle_t l1 l2
  replace x2 := same_t x1 x2
  have a2 : wA Y 13 0 = wA Y2 13 0 := ((l2.2.2.1 13 0 (by decide) (by decide) h13).2).symm
  obtain ⟨Y3, n3, s3, X3, q3, z3, l3, b3, c3, d3, x3⟩ := qL_3 (s := s2) z2
  rw [← a2] at q3
  replace l3 := wle_t l2 l3
  replace x3 := same_t x2 x3
  have a3 : wA Y 13 0 = wA Y3 13 0 := ((l3.2.2.1 13 0 (by decide) (by decide) h13).2).symm
  obtain ⟨Y4, n4, s4, X4, q4, z4, l4, b4, c4, d4, x4⟩ := qL_4 (s := s3) z3 (by rw [x3 434 (by decide), y0])
  rw [← a3] at q4
  replace l4 := wle_t l3 l4
  replace x4 := same_t x3 x4
  have a4 : wA Y 13 0 = wA Y4 13 0 := ((l4.2.2.1 13 0 (by decide) (by decide) h13).2).symm
  obtain ⟨Y5, n5, s5, X5, q5, z5, l5, b5, c5, d5, x5⟩ := qL_5 (s := s4) z4
  rw [← a4] at q5
  replace l5 := wle_t l4 l5
  replace x5 := same_t x4 x5
  have a5 : wA Y 13 0 = wA Y5 13 0 := ((l5.2.2.1 13 0 (by decide) (by decide) h13).2).symm
  obtain ⟨Y6, n6, s6, X6, q6, z6, l6, b6, c6, d6, x6⟩ := qL_6 (s := s5) z5 (by rw [x5 425 (by decide), y1])
  rw [← a5] at q6
  replace l6 := wle_t l5 l6
  replace x6 := same_t x5 x6
  have a6 : wA Y 13 0 = wA Y6 13 0 := ((l6.2.2.1 13 0 (by decide) (by decide) h13).2).symm
  obtain ⟨Y7, n7, s7, X7, q7, z7, l7, b7, c7, d7, x7⟩ := qL_7 (s := s6) z6 (by rw [x6 410 (by decide), y2])
  rw [← a6] at q7
  replace l7 := wle_t l6 l7
  replace x7 := same_t x6 x7
  have a7 : wA Y 13 0 = wA Y7 13 0 := ((l7.2.2.1 13 0 (by decide) (by decide) h13).2).symm
  obtain ⟨Y8, n8, s8, X8, q8, z8, l8, b8, c8, d8, x8⟩ := qL_8 (s := s7) z7 (by rw [x7 144 (by decide), y3])
  rw [← a7] at q8
  replace l8 := wle_t l7 l8
  replace x8 := same_t x7 x8
  have a8 : wA Y 13 0 = wA Y8 13 0 := ((l8.2.2.1 13 0 (by decide) (by decide) h13).2).symm
  obtain ⟨Y9, n9, s9, X9, q9, z9, l9, b9, c9, d9, x9⟩ := qL_9 (s := s8) z8 (by rw [x8 144 (by decide), y3])
  rw [← a8] at q9
  replace l9 := wle_t l8 l9
  replace x9 := same_t x8 x9
  have a9 : wA Y 13 0 = wA Y9 13 0 := ((l9.2.2.1 13 0 (by decide) (by decide) h13).2).symm
  have g0 : zsto 0 (wd Y n s (zHq 0 (zPq 0 (zov zXz)))) (wA Y 15 608) 0 150 = some (wd Y n s (wu (zHq 0 (zPq 0 (zov zXz))) 1108 0 150)) := sh_ (i := 0) (v := 150) hL (by decide) (by decide)
  have g1 : zsto 0 (wd Y n s (wu (zHq 0 (zPq 0 (zov zXz))) 1108 0 150)) (wA Y 15 608) 1 200 = some (wd Y n s (wu (wu (zHq 0 (zPq 0 (zov zXz))) 1108 0 150) 1108 1 200)) := sh_ (i := 1) (v := 200) hL (by decide) (by decide)
  have g2 : zsto 0 (wd Y n s (wu (wu (zHq 0 (zPq 0 (zov zXz))) 1108 0 150) 1108 1 200)) (wA Y 15 608) 2 240 = some (wd Y n s (wu (wu (wu (zHq 0 (zPq 0 (zov zXz))) 1108 0 150) 1108 1 200) 1108 2 240)) := sh_ (i := 2) (v := 240) hL (by decide) (by decide)
  have g3 : zsto 0 (wd Y n s (wu (wu (wu (zHq 0 (zPq 0 (zov zXz))) 1108 0 150) 1108 1 200) 1108 2 240)) (wA Y 15 608) 3 100 = some (wd Y n s (wu (wu (wu (wu (zHq 0 (zPq 0 (zov zXz))) 1108 0 150) 1108 1 200) 1108 2 240) 1108 3 100)) := sh_ (i := 3) (v := 100) hL (by decide) (by decide)
  have g4 : zsto 0 (wd Y n s (wu (wu (wu (wu (zHq 0 (zPq 0 (zov zXz))) 1108 0 150) 1108 1 200) 1108 2 240) 1108 3 100)) (wA Y 15 608) 16 255 = some (wd Y n s zX6) := sh_ (i := 16) (v := 255) hL (by decide) (by decide)
  have hr0 : zJ (-3000000) = -3000000 := rfl
  have hr1 : zJ (-2000000) = -2000000 := rfl
  refine ⟨Y9, n9, s9, X9, ?_, z9, l9, by omega, by omega, by omega⟩
  rw [show (0 : Int32) = zJ 0 from rfl, e1, e2, q_L_law_114, if_pos (show (6 : Int32) ≤ zJ 6 by decide), g0, t_b, g1, t_b, g2, t_b, g3, t_b, g4, t_b, wd_gh hY zXl_g, q1, t_I, if_pos hr0, q2, t_I, if_pos hr1, q3, t_I, if_pos hr1, q4, t_I, if_pos hr0, q5, t_I, if_pos hr0, q6, t_I, if_pos hr0, q7, t_I, if_pos hr0, q8, t_I, if_pos (show zJ 0 = 0 by decide), q9, t_I, if_pos (show zJ 0 = 0 by decide), a9, wA_l l9 hL (j := 600) (by decide) (by decide), wA_l l9 hL (j := 601) (by decide) (by decide), wA_l l9 hL (j := 602) (by decide) (by decide), wA_l l9 hL (j := 603) (by decide) (by decide), wA_l l9 hL (j := 604) (by decide) (by decide), wA_l l9 hL (j := 605) (by decide) (by decide), wA_l l9 hL (j := 606) (by decide) (by decide), wA_l l9 hL (j := 607) (by decide) (by decide), wA_l l9 hL (j := 608) (by decide) (by decide), wA_l l9 hL (j := 609) (by decide) (by decide), wA_l l9 hL (j := 610) (by decide) (by decide), wA_l l9 hL (j := 611) (by decide) (by decide), wA_l l9 hL (j := 612) (by decide) (by decide), wA_l l9 hL (j := 613) (by decide) (by decide)]
  rfl
set_option maxRecDepth 100000 in
/-- the whole law -/
theorem law_whole {M : Nat → Option zE} (hm : m ≤ 1000) (hG : G.1 < n) (hM : M G.1 = some (zEq 5 0 (fun _ => none))) (hp : ps < n) (hpG : ps ≠ G.1) (he : M ps = some (zEi 4 m fa)) : ∃ W : zW, ev_ G 205 0 [.ref ps, zU, zU, zU, zU, zU, zU, zU, zU, zU, zU, zU, zU, zU, zU, zU, zU, zU, zU, zU, zU] [] (n, s, M) = some (.inl (some (.int 1)), W) ∧ W.1 ≤ n + 5000 ∧ W.2.1 ≤ s + 80000 := by
  obtain ⟨Y, n', s', e1, hY, hYG, hQ, hsp, b1, b2, b3⟩ := l_make (s := s) hG hM hp hpG he
  obtain ⟨Y', n2, s2, X', e2, hZ, hl, c1, c2, c3⟩ := l_first (s := s') (ps := ps) hY hYG hQ
  obtain ⟨W, w1, w2, w3⟩ := L_loop hm 64 0 9 Y' n2 s2 X' zU zU zU hZ (zSp_l hsp hl) (by decide) (by decide) (by decide)
  exact ⟨W, e1.trans (e2.trans w1), by omega, by omega⟩
end ZL
