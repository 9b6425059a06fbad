/-! THE TWO SIDES, 75: calls on both sides: the boards' -/
section ZI
variable {X X' : zX} {Q Q' : zQs}
def fK : List Int := [220, 221, 222, 223, 224, 225, 226, 227, 1038, 1039, 1040, 1041, 1042, 1043]
theorem iS1_c {b k : Int} (h : iS1 Q X b k) (q3 : Q 0 3 ≤ Q' 0 3) (g : ∀ f ∈ fK, X' f k = X f k) (h26 : X 1038 k = -1 ∨ X' 1026 (X 1038 k) = X 1026 (X 1038 k)) (h35 : X' 1035 b = X 1035 b) (hp : X 1035 b = 0 ∨ zpeak X' b = zpeak X b) : iS1 Q' X' b k := by
  obtain ⟨a1, a2, a3, a4, a5, a6, a7⟩ := h
  unfold iS1
  rw [g 220 (by decide), g 221 (by decide), g 222 (by decide), g 223 (by decide), g 224 (by decide), g 225 (by decide), g 226 (by decide), g 227 (by decide), g 1038 (by decide), g 1039 (by decide), g 1040 (by decide), g 1041 (by decide), g 1042 (by decide), g 1043 (by decide), h35]
  refine ⟨a1, by omega, ?_, a4, ?_, a6, a7⟩
  · rw [a3]
    by_cases hk : X 1038 k = -1
    · rw [if_pos hk, if_pos hk]
    · rw [if_neg hk, if_neg hk, h26.resolve_left hk]
  · rw [a5]
    by_cases hk : X 1035 b = 0 ∨ X 1038 k = -1
    · rw [if_pos hk, if_pos hk]
    · rw [if_neg hk, if_neg hk, hp.resolve_left (fun e => hk (.inl e))]
theorem zpeak_c {b : Int} (h1 : X' (509 + b) = X (509 + b)) (h2 : ∀ j, 8 * b ≤ j → j < 8 * b + 8 → (X' 220 j = -1 ↔ X 220 j = -1)) : zpeak X' b = zpeak X b := by
  unfold zpeak zmass
  rw [h1]
  have : zsm (fun m => zB (X' 220 (8 * b + m) ≠ -1)) 0 8 = zsm (fun m => zB (X 220 (8 * b + m) ≠ -1)) 0 8 := zsm_congr _ _ (fun j a c => by
    have := h2 (8 * b + j) (by omega) (by omega)
    show zB (X' 220 (8 * b + j) ≠ -1) = zB (X 220 (8 * b + j) ≠ -1)
    by_cases e : X 220 (8 * b + j) = -1
    · rw [zB_0 (fun q => q (this.mpr e)), zB_0 (fun q => q e)]
    · rw [zB_1 (show X' 220 (8 * b + j) ≠ -1 from fun q => e (this.mp q)), zB_1 (show X 220 (8 * b + j) ≠ -1 from e)])
  rw [this]
theorem zslots_f {b : Int} {f : Int} (hf : f ∉ ([220, 221, 222, 223, 224, 225, 226, 227, 20] : List Int)) : ∀ (k : Nat) (i : Int) (X : zX) (j : Int), zslots b k i X f j = X f j := by
  intro k
  induction k with
  | zero => intro i X j; rfl
  | succ k ih =>
    intro i X j
    refine (ih _ _ _).trans ?_
    simp only [List.mem_cons, List.not_mem_nil, or_false, not_or] at hf
    obtain ⟨f1, f2, f3, f4, f5, f6, f7, f8, f9⟩ := hf
    unfold zslot
    rw [wu_ne f9, wu_ne f8, wu_ne f7, wu_ne f6, wu_ne f5, wu_ne f4, wu_ne f3, wu_ne f2, wu_ne f1]
theorem zslots_v {b f v : Int} (hf : ∀ (X : zX) (i j w : Int), wu (zslot b i X) 20 (29 + b) w f j = if j = 8 * b + i then v else X f j) : ∀ (k : Nat) (i : Int) (X : zX) (j : Int), zslots b k i X f j = if 8 * b + i ≤ j ∧ j < 8 * b + i + k then v else X f j := by
  intro k
  induction k with
  | zero =>
    intro i X j
    rw [if_neg (by omega)]
    rfl
  | succ k ih =>
    intro i X j
    refine (ih _ _ _).trans ?_
    rw [hf]
    by_cases h1 : 8 * b + (i + 1) ≤ j ∧ j < 8 * b + (i + 1) + k
    · rw [if_pos h1, if_pos (by omega)]
    · rw [if_neg h1]
      by_cases h2 : j = 8 * b + i
      · rw [if_pos h2, if_pos (by omega)]
      · rw [if_neg h2, if_neg (by omega)]
end ZI
section ZK
variable {Y : zLy} {n s : Nat} {X : zX} {G : Nat × Nat} {t p q r u : Int}
theorem e_509 {b : Int} (h : 0 ≤ b) (h' : b < 12) : ([20, 220, 221, 222, 223, 224, 225, 226, 227, 40, 41, 42, 509, 510, 511, 512, 513, 514, 515, 516, 517, 518, 519, 520, 444, 434, 506] : List Int).elem (509 + b) = true := by
  obtain ⟨k, rfl⟩ := zJ_fin h 12 (by omega)
  have : ∀ k : Fin 12, ([20, 220, 221, 222, 223, 224, 225, 226, 227, 40, 41, 42, 509, 510, 511, 512, 513, 514, 515, 516, 517, 518, 519, 520, 444, 434, 506] : List Int).elem (509 + ((k.val : Nat) : Int)) = true := by decide
  exact this k
theorem k_board (hY : wY Y n) (hG : Y.1 = G.1) (hI : iAll t Y.2.2.2.2 X) : zcal [(2, 1)] t Y n s X (fun W => ev_ G 143 0 [.ref (wA Y 13 0)] [] W) (dBoard X) := by
  have hF := wY_F hY
  have h13 := hF.2.1
  have hIw := hF.1
  obtain ⟨hn, hn4⟩ := wY_n hY
  obtain ⟨h1, h2, h3, h4, h5, h6, h7, h8, h9, h10, h11, h12⟩ := id hI
  have hl4 := hF.2.2.2.2.2.2.2.1 4 (by decide) (by decide)
  have hQ4 := hY.2.2.2.2.2.1
  have z1 := h12.1
  by_cases g3 : Y.2.2.2.2 0 4 < 12
  · have g4 : ¬12 ≤ Y.2.2.2.2 0 4 := by omega
    generalize hb : Y.2.2.2.2 0 4 = b at g3 g4 hQ4 z1
    generalize hX1 : zslots b 8 0 (zz (wu X 20 (29 + b) 0) (9 + b)) = X1
    generalize hX3 : wu (wu (wu (wu X1 40 b 0) 41 b 0) 42 b 0) 20 4 (wu (wu (wu X1 40 b 0) 41 b 0) 42 b 0 20 4 + 1) = X3
    obtain ⟨Y', n', s', e1, e2, e3, e4, e5, e6, e7, e8, e9⟩ := c_boardR (G := G) (n := n) (s := s) (X := X) hY hG hb g3 rfl rfl hX1 rfl
    rw [hX3] at e1
    have xf : ∀ f j, f ∉ ([220, 221, 222, 223, 224, 225, 226, 227, 20, 40, 41, 42] : List Int) → f ≠ 509 + b → X3 f j = X f j := by
      intro f j hf h9
      simp only [List.mem_cons, List.not_mem_nil, or_false, not_or] at hf
      obtain ⟨f1, f2, f3, f4, f5, f6, f7, f8, f9, f10, f11, f12⟩ := hf
      rw [← hX3, wu_ne f9, wu_ne f12, wu_ne f11, wu_ne f10, ← hX1, zslots_f (by
        simp only [List.mem_cons, List.not_mem_nil, or_false, not_or]
        exact ⟨f1, f2, f3, f4, f5, f6, f7, f8, f9⟩)]
      show (if f = 500 + (9 + b) then 0 else wu X 20 (29 + b) 0 f j) = _
      rw [if_neg (by omega), wu_ne f9]
    have a434 : X3 434 0 = b := by rw [xf 434 0 (by decide) (by omega), z1]
    generalize hX2 : wu (wu X3 444 0 0) 434 0 (b + 1) = X2
    have x2f : ∀ f j, f ≠ 444 → f ≠ 434 → X2 f j = X3 f j := by
      intro f j k1 k2
      rw [← hX2, wu_ne k2, wu_ne k1]
    refine ⟨Y', n', s', X3, X2, 0, b, .inl ⟨rfl, ?_⟩, (zd1_0 (by omega) ⟨z1.symm, by rw [← hX2, wu_eq, z1], fun f hf => funext fun j => by simp only [List.mem_cons, List.not_mem_nil, or_false, not_or] at hf; rw [x2f f j (by omega) (by omega), xf f j (by simp only [List.mem_cons, List.not_mem_nil, or_false, not_or]; omega) (by omega)]⟩), ?_, by omega, e2, e3, by omega, e5, by omega, ?_, (fun f hf => funext fun j => x2f f j (by omega) (by omega)), (fun f hf => funext fun j => by rw [x2f f j (by omega) (by omega), xf f j (by simp only [List.mem_cons, List.not_mem_nil, or_false, not_or]; omega) (by omega)])⟩
    · have hst : ev_ G 143 0 [.ref (wA Y 13 0)] [] (wd Y n s X) = ev_ G 143 17 [.ref (wA Y 13 0)] [.int (zJ 1)] (wd Y n s X) := by
        simp (disch := first | assumption | omega) only [q_X11_board_0, ↓reduceIte, zB_T, zB_F, zB_if, ite_not, z_10, z_00, i_10, i_00, if_true, if_false, c_cIx0, c_cIx1, c_cAr0, c_cAr1, c_cSt0, c_cSt1, l_0, l_1, l_2, l_3, l_4, l_5, l_6, l_7, l_8, l_9, l_10, l_12, l_16, l_24, l_31, l_32, l_48, l_96, l_99, l_100, l_150, l_180, l_200, l_240, l_255, l_260, l_384, l_400, l_999, l_5000, l_9999, l_1000000, l_1000000000, t_I, t_Ie, t_R, t_Re, t_N, t_Nn, t_V, t_Ve, t_b, t_x, t_w, e_0, e_1, e_2, e_3, zJ_lt, zJ_le, zJ_eq, g13_5, k1 hl4.1, c_size hl4, hb, g4]
      show ev_ G 143 0 _ [] _ = _
      rw [hst]
      exact e1
    · rw [← hX2, wu_ne (by decide), wu_eq]
    · have s0 : zsame [20, 220, 221, 222, 223, 224, 225, 226, 227, 40, 41, 42, 509, 510, 511, 512, 513, 514, 515, 516, 517, 518, 519, 520, 444, 434, 506] X X2 := by
        intro f hf
        funext j
        have h9 : f ≠ 509 + b := fun e => hf (e ▸ List.elem_iff.mp (e_509 hQ4.1 g3))
        simp only [List.mem_cons, List.not_mem_nil, or_false, not_or] at hf
        obtain ⟨f1, f2, f3, f4, f5, f6, f7, f8, f9, f10, f11, f12, _, _, _, _, _, _, _, _, _, _, _, _, f13, f14, _⟩ := hf
        rw [x2f f j f13 f14, xf f j (by
          simp only [List.mem_cons, List.not_mem_nil, or_false, not_or]
          exact ⟨f2, f3, f4, f5, f6, f7, f8, f9, f1, f10, f11, f12⟩) h9]
      have k0 : ∀ i, i ≠ 29 + b → i ≠ 4 → Y'.2.2.2.2 0 i = Y.2.2.2.2 0 i := fun i hi hi' => e9 0 i (.inl ⟨hi, hi'⟩)
      have hslot : ∀ f v j, (∀ (X : zX) (i j w : Int), wu (zslot b i X) 20 (29 + b) w f j = if j = 8 * b + i then v else X f j) → f ≠ 444 → f ≠ 434 → f ≠ 20 → f ≠ 40 → f ≠ 41 → f ≠ 42 → f ≠ 509 + b → X2 f j = if 8 * b ≤ j ∧ j < 8 * b + 8 then v else X f j := by
        intro f v j hv k1 k2 k3 k4 k5 k6 k7
        rw [x2f f j k1 k2, ← hX3, wu_ne k3, wu_ne k6, wu_ne k5, wu_ne k4, ← hX1, zslots_v hv]
        have : zz (wu X 20 (29 + b) 0) (9 + b) f j = X f j := by
          show (if f = 500 + (9 + b) then 0 else wu X 20 (29 + b) 0 f j) = _
          rw [if_neg (by omega), wu_ne k3]
        rw [this]
        by_cases hj : 8 * b ≤ j ∧ j < 8 * b + 8
        · rw [if_pos hj, if_pos (by omega)]
        · rw [if_neg hj, if_neg (by omega)]
      have v220 : ∀ j, X2 220 j = if 8 * b ≤ j ∧ j < 8 * b + 8 then -1 else X 220 j := fun j => hslot 220 (-1) j (fun X i j w => by
        unfold zslot
        simp (disch := decide) only [wu_ne, wu_v]) (by decide) (by decide) (by decide) (by decide) (by decide) (by decide) (by omega)
      have v221 : ∀ j, X2 221 j = if 8 * b ≤ j ∧ j < 8 * b + 8 then -1 else X 221 j := fun j => hslot 221 (-1) j (fun X i j w => by
        unfold zslot
        simp (disch := decide) only [wu_ne, wu_v]) (by decide) (by decide) (by decide) (by decide) (by decide) (by decide) (by omega)
      have v222 : ∀ j, X2 222 j = if 8 * b ≤ j ∧ j < 8 * b + 8 then -1 else X 222 j := fun j => hslot 222 (-1) j (fun X i j w => by
        unfold zslot
        simp (disch := decide) only [wu_ne, wu_v]) (by decide) (by decide) (by decide) (by decide) (by decide) (by decide) (by omega)
      have v223 : ∀ j, X2 223 j = if 8 * b ≤ j ∧ j < 8 * b + 8 then 0 else X 223 j := fun j => hslot 223 0 j (fun X i j w => by
        unfold zslot
        simp (disch := decide) only [wu_ne, wu_v]) (by decide) (by decide) (by decide) (by decide) (by decide) (by decide) (by omega)
      have v224 : ∀ j, X2 224 j = if 8 * b ≤ j ∧ j < 8 * b + 8 then 0 else X 224 j := fun j => hslot 224 0 j (fun X i j w => by
        unfold zslot
        simp (disch := decide) only [wu_ne, wu_v]) (by decide) (by decide) (by decide) (by decide) (by decide) (by decide) (by omega)
      have v225 : ∀ j, X2 225 j = if 8 * b ≤ j ∧ j < 8 * b + 8 then 0 else X 225 j := fun j => hslot 225 0 j (fun X i j w => by
        unfold zslot
        simp (disch := decide) only [wu_ne, wu_v]) (by decide) (by decide) (by decide) (by decide) (by decide) (by decide) (by omega)
      have v226 : ∀ j, X2 226 j = if 8 * b ≤ j ∧ j < 8 * b + 8 then 0 else X 226 j := fun j => hslot 226 0 j (fun X i j w => by
        unfold zslot
        simp (disch := decide) only [wu_ne, wu_v]) (by decide) (by decide) (by decide) (by decide) (by decide) (by decide) (by omega)
      have v227 : ∀ j, X2 227 j = if 8 * b ≤ j ∧ j < 8 * b + 8 then 0 else X 227 j := fun j => hslot 227 0 j (fun X i j w => by
        unfold zslot
        simp (disch := decide) only [wu_ne, wu_v]) (by decide) (by decide) (by decide) (by decide) (by decide) (by decide) (by omega)
      have v40 : ∀ j, X2 40 j = if j = b then 0 else X 40 j := fun j => by
        rw [x2f 40 j (by decide) (by decide), ← hX3, wu_ne (by decide), wu_ne (by decide), wu_ne (by decide), wu_v, ← hX1, zslots_f (by decide)]
        by_cases hj : j = b
        · rw [if_pos hj, if_pos hj]
        · rw [if_neg hj, if_neg hj]
          show (if (40 : Int) = 500 + (9 + b) then 0 else wu X 20 (29 + b) 0 40 j) = _
          rw [if_neg (by omega), wu_ne (by decide)]
      have v41 : ∀ j, X2 41 j = if j = b then 0 else X 41 j := fun j => by
        rw [x2f 41 j (by decide) (by decide), ← hX3, wu_ne (by decide), wu_ne (by decide), wu_v, wu_ne (by decide), ← hX1, zslots_f (by decide)]
        by_cases hj : j = b
        · rw [if_pos hj, if_pos hj]
        · rw [if_neg hj, if_neg hj]
          show (if (41 : Int) = 500 + (9 + b) then 0 else wu X 20 (29 + b) 0 41 j) = _
          rw [if_neg (by omega), wu_ne (by decide)]
      have v42 : ∀ j, X2 42 j = if j = b then 0 else X 42 j := fun j => by
        rw [x2f 42 j (by decide) (by decide), ← hX3, wu_ne (by decide), wu_v, wu_ne (by decide), wu_ne (by decide), ← hX1, zslots_f (by decide)]
        by_cases hj : j = b
        · rw [if_pos hj, if_pos hj]
        · rw [if_neg hj, if_neg hj]
          show (if (42 : Int) = 500 + (9 + b) then 0 else wu X 20 (29 + b) 0 42 j) = _
          rw [if_neg (by omega), wu_ne (by decide)]
      have v509 : ∀ b' z, 0 ≤ b' → b' < 12 → X2 (509 + b') z = if b' = b then 0 else X (509 + b') z := fun b' z b0 b1 => by
        rw [x2f _ z (by omega) (by omega), ← hX3, wu_ne (by omega), wu_ne (by omega), wu_ne (by omega), wu_ne (by omega), ← hX1, zslots_f (by
          simp only [List.mem_cons, List.not_mem_nil, or_false, not_or]
          omega)]
        show (if 509 + b' = 500 + (9 + b) then 0 else wu X 20 (29 + b) 0 (509 + b') z) = _
        by_cases hj : b' = b
        · rw [if_pos hj, if_pos (by omega)]
        · rw [if_neg hj, if_neg (by omega), wu_ne (by omega)]
      have gm : ∀ f ∈ ([1035, 1036, 1037, 1038, 1039, 1040, 1041, 1042, 1043, 1026] : List Int), X2 f = X f := same_g s0 (by decide)
      obtain ⟨c1, c2, c3, c4, c5, c6⟩ := id h12
      rw [hb] at c3 c5 c6
      refine ⟨iB_c h1 (same_g s0 (by decide)) (k0 0 (by omega) (by decide)), iC_c h2 (same_g s0 (by decide)) (k0 1 (by omega) (by decide)), iT_c h3 (same_g s0 (by decide)) (k0 1 (by omega) (by decide)), iW_c h4 (same_g s0 (by decide)) (fun a i g => e9 a i (by omega)) hn, iF_c h5 (same_g s0 (by decide)), iO_c h6 (same_g s0 (by decide)), iD_c h7 (same_g s0 (by decide)) (by omega), iR_c h8 (same_g s0 (by decide)) (k0 3 (by omega) (by decide)), iM_c h9 (same_g s0 (by decide)), iV_c h10 (same_g s0 (by decide)), iH_c h11 (fun f hf => by
        have : f ≠ 506 ∨ f = 506 := by omega
        rcases this with e | e
        · exact s0 f (fun q => by
            simp only [fH, List.mem_cons, List.not_mem_nil, or_false] at hf
            simp only [List.mem_cons, List.not_mem_nil, or_false] at q
            omega)
        · subst e
          funext j
          rw [x2f 506 j (by decide) (by decide), xf 506 j (by decide) (by omega)]), ?_⟩
      unfold iS
      rw [e7, gm 1035 (by decide), gm 1036 (by decide), gm 1037 (by decide), gm 1038 (by decide), gm 1039 (by decide), gm 1040 (by decide), gm 1041 (by decide), gm 1042 (by decide), gm 1043 (by decide)]
      refine ⟨by rw [← hX2, wu_eq], c2, fun b' k1 k2 => c3 b' (by omega) k2, c4, fun k k1 k2 => c5 k (by omega) k2, fun b' k1 k2 => ?_⟩
      by_cases hb' : b' = b
      · subst hb'
        refine ⟨?_, fun z z0 z1 => ?_, fun k k3 k4 => ?_⟩
        · rw [v40, v41, v42, if_pos rfl, if_pos rfl, if_pos rfl]
          have := c3 b' (by omega) (by omega)
          omega
        · rw [v509 _ _ k1 (by omega), if_pos rfl]
          decide
        · have d := c5 k (by omega) (by omega)
          have d3 := c3 b' (by omega) (by omega)
          have hk : 8 * b' ≤ k ∧ k < 8 * b' + 8 := ⟨k3, k4⟩
          unfold iS1
          rw [v220, v221, v222, v223, v224, v225, v226, v227, if_pos hk, if_pos hk, if_pos hk, if_pos hk, if_pos hk, if_pos hk, if_pos hk, if_pos hk, gm 1038 (by decide), gm 1039 (by decide), gm 1040 (by decide), gm 1041 (by decide), gm 1042 (by decide), gm 1043 (by decide), gm 1035 (by decide), d.1, d.2.1, d.2.2.1, d.2.2.2.1, d.2.2.2.2.1, d.2.2.2.2.2, d3.1, k0 3 (by omega) (by decide)]
          have := hY.2.2.2.2.1
          exact ⟨⟨rfl, rfl, rfl, rfl, rfl⟩, by omega, rfl, by omega, rfl, fun _ => rfl, fun _ => rfl⟩
      · obtain ⟨d1, d2, d3⟩ := c6 b' k1 (by omega)
        have hfn : X2 (509 + b') = X (509 + b') := funext fun z => by rw [v509 b' z k1 (by omega), if_neg hb']
        refine ⟨?_, fun z z0 z1 => ?_, fun k k3 k4 => ?_⟩
        · rw [v40, v41, v42, if_neg hb', if_neg hb', if_neg hb']
          exact d1
        · rw [hfn]
          exact d2 z z0 z1
        · have hk : ¬(8 * b ≤ k ∧ k < 8 * b + 8) := by omega
          refine iS1_c (d3 k k3 k4) (by rw [k0 3 (by omega) (by decide)]; exact Int.le_refl _) (fun f hf => ?_) (.inr (by rw [gm 1026 (by decide)])) (by rw [gm 1035 (by decide)]) (.inr (zpeak_c hfn (fun j j0 j1 => by rw [v220, if_neg (by omega)])))
          simp only [fK, List.mem_cons, List.not_mem_nil, or_false] at hf
          rcases hf with e | e | e | e | e | e | e | e | e | e | e | e | e | e <;> subst e
          · rw [v220, if_neg hk]
          · rw [v221, if_neg hk]
          · rw [v222, if_neg hk]
          · rw [v223, if_neg hk]
          · rw [v224, if_neg hk]
          · rw [v225, if_neg hk]
          · rw [v226, if_neg hk]
          · rw [v227, if_neg hk]
          all_goals rw [gm _ (by decide)]
  · have g4 : 12 ≤ Y.2.2.2.2 0 4 := by omega
    refine zcal_e 2 1 hI hY (by decide) (by decide) ?_ (by first | exact zd1_1 (by first | assumption | omega) (same_u (by decide) same_r) | exact zd2_1 (by first | assumption | omega) (same_u (by decide) same_r) | exact zd2_2 (by first | assumption | omega) (by first | assumption | omega) (same_u (by decide) same_r) | exact zd3_1 (by first | assumption | omega) (same_u (by decide) same_r) | exact zd3_2 (by first | assumption | omega) (by first | assumption | omega) (same_u (by decide) same_r) | exact zd3_3 (by first | assumption | omega) (by first | assumption | omega) (by first | assumption | omega) (same_u (by decide) same_r))
    · have hst : ev_ G 143 0 [.ref (wA Y 13 0)] [] (wd Y n s X) = ev_ G 143 17 [.ref (wA Y 13 0)] [.int (zJ 0)] (wd Y n s X) := by
        simp (disch := first | assumption | omega) only [q_X11_board_0, ↓reduceIte, zB_T, zB_F, zB_if, ite_not, z_10, z_00, i_10, i_00, if_true, if_false, c_cIx0, c_cIx1, c_cAr0, c_cAr1, c_cSt0, c_cSt1, l_0, l_1, l_2, l_3, l_4, l_5, l_6, l_7, l_8, l_9, l_10, l_12, l_16, l_24, l_31, l_32, l_48, l_96, l_99, l_100, l_150, l_180, l_200, l_240, l_255, l_260, l_384, l_400, l_999, l_5000, l_9999, l_1000000, l_1000000000, t_I, t_Ie, t_R, t_Re, t_N, t_Nn, t_V, t_Ve, t_b, t_x, t_w, e_0, e_1, e_2, e_3, zJ_lt, zJ_le, zJ_eq, g13_5, k1 hl4.1, c_size hl4, g4]
      show ev_ G 143 0 _ [] _ = _
      rw [hst, q_X11_board_17, c_cSt0, t_Ve, t_x, t_w]
end ZK
