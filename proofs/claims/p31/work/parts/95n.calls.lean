/-! THE TWO SIDES, 83: calls on both sides: solder -/
section ZK
variable {Y : zLy} {n s : Nat} {X : zX} {G : Nat × Nat} {t p q r u z : Int}
theorem k_solder (hY : wY Y n) (hI : iAll t Y.2.2.2.2 X) (hp : -2147483648 ≤ p ∧ p < 2147483648) : zcal [(0, 1), (2, 2)] t Y n s X (fun W => ev_ G 167 0 [.ref (wA Y 13 0), .int (zJ p), zU] [] W) (dSolder X p) := by
  have hF := wY_F hY
  have h13 := hF.2.1
  have hIw := hF.1
  obtain ⟨hn, hn4⟩ := wY_n hY
  obtain ⟨h1, h2, h3, h4, h5, h6, h7, h8, h9, h10, h11, h12⟩ := id hI
  have h8' := hF.2.2.2.2.2.1
  have hQ4 := hY.2.2.2.2.2.1
  have hQ3 := hY.2.2.2.2.1
  have hm := iS_m h12
  have hmr := iR_m h8
  obtain ⟨c1, c2, c3, c4, c5, c6⟩ := id h12
  obtain ⟨o1, o2⟩ := id h11
  have hh30 : ∀ z, 0 ≤ z → z < 4 → 0 ≤ X 1030 z ∧ X 1030 z ≤ 1000 := fun z z0 z1 => by
    have := o1 z z0 z1
    omega
  have hmk := zmk_r X p
  have hzr : 0 ≤ zpk (X 1030) (zmk X p) 12 0 25 (-1) ∧ zpk (X 1030) (zmk X p) 12 0 25 (-1) ≤ 1000 := by
    rw [zpk_1 (by omega) hh30]
    exact zpk_r (by omega) hh30 12 0 25 0 (by decide) (by decide) (by decide) (by decide)
  by_cases g1 : 0 ≤ p ∧ p < Y.2.2.2.2 0 4
  · have hB := wF_B hF g1.1 g1.2
    have hV2 : wV Y 2 p := hB.1
    have hat := c_boardAt (G := G) (n := n) (s := s) (X := X) hF g1.1 g1.2
    obtain ⟨e1, e2, e3⟩ := c6 p g1.1 g1.2
    have b2 := c2 p g1.1 (by omega)
    by_cases g3 : X 1035 p = 0
    · have hpt : ∀ k, 8 * p ≤ k → k < 8 * p + 8 → (-1 ≤ X 220 k ∧ X 220 k < 6) ∧ (X 220 k = -1 ↔ X 1038 k = -1) := fun k k0 k1 => iS_p h8 h12 hQ4.2 hQ3.2 g1 ⟨k0, k1⟩
      -- the heated board
      generalize hXH : zheat X p = XH
      have xhf : ∀ f, f ≠ 40 → f ≠ 509 + p → XH f = X f := by
        intro f k1 k2
        funext j
        rw [← hXH]
        unfold zheat
        rw [wu_ne k1]
        show (if f = 509 + p ∧ _ then _ else X f j) = _
        rw [if_neg (fun g => k2 g.1)]
      have xh509 : ∀ z, 0 ≤ z → z < 4 → XH (509 + p) z = X 506 z := by
        intro z z0 z1
        rw [← hXH]
        unfold zheat
        rw [wu_ne (by omega)]
        exact if_pos ⟨rfl, z0, z1⟩
      have xh40 : ∀ j, XH 40 j = if j = p then 1 else X 40 j := by
        intro j
        rw [← hXH]
        unfold zheat
        rw [wu_v]
        by_cases hj : j = p
        · rw [if_pos hj, if_pos hj]
        · rw [if_neg hj, if_neg hj]
          exact if_neg (fun g => by omega)
      have hmass : zmass XH p = zmk X p := by
        unfold zmass zmk
        rw [xhf 220 (by decide) (by omega), zsm_sh (f := fun m => zB (X 220 m ≠ -1)), Int.add_zero]
        have : zsm (fun m => zB (X 220 m ≠ -1)) (8 * p) 8 = zsm (fun m => zB (X 1038 m ≠ -1)) (8 * p) 8 := zsm_congr _ _ (fun j j0 j1 => by
          have := (hpt j j0 (by omega)).2
          show zB (X 220 j ≠ -1) = zB (X 1038 j ≠ -1)
          by_cases e : X 1038 j = -1
          · rw [zB_0 (fun q => q (this.mpr e)), zB_0 (fun q => q e)]
          · rw [zB_1 (show X 220 j ≠ -1 from fun q => e (this.mp q)), zB_1 (show X 1038 j ≠ -1 from e)])
        rw [this]
      have hpk : zpeak XH p = zpk (X 1030) (zmk X p) 12 0 25 (-1) := by
        rw [zpk_1 (by omega) hh30]
        unfold zpeak
        rw [hmass]
        exact zpk_c (fun z z0 z1 => by rw [xh509 z z0 z1, (o1 z z0 z1).1]) 12 0 25 0 (by decide) (by decide)
      have hgo := c_goThrough (G := G) (n := n) (s := s) (X := X) hF g1.1 g1.2 hQ4.2 (fun k k0 k1 => (hpt (8 * p + k) (by omega) (by omega)).1) (fun z z0 z1 => by
        have := o2 z z0 z1
        omega) (fun z z0 z1 => by
        have := o1 z z0 z1
        omega) (by rw [hXH, hpk]; exact hzr)
      rw [hXH, hpk] at hgo
      generalize hzv : zpk (X 1030) (zmk X p) 12 0 25 (-1) = z at hgo hzr hpk
      generalize hX1 : zgo XH z p 0 = X1 at hgo
      have x1f : ∀ f, f ≠ 226 → f ≠ 227 → f ≠ 223 → X1 f = XH f := by
        intro f k1 k2 k3
        funext j
        rw [← hX1]
        show (if 8 * p + 0 ≤ j ∧ j < 8 * p + 8 ∧ XH 220 j ≠ -1 then zjn XH z j f j else XH f j) = _
        split
        · unfold zjn
          rw [wu_ne k3, wu_ne k2, wu_ne k1]
        · rfl
      have x1v : ∀ j, 8 * p ≤ j → j < 8 * p + 8 → X 1038 j ≠ -1 → X1 226 j = X 507 (X 220 j) ∧ X1 227 j = X 508 (X 220 j) ∧ X1 223 j = zjf (X 507 (X 220 j)) (X 508 (X 220 j)) z := by
        intro j j0 j1 j2
        have h220 : XH 220 j ≠ -1 := by
          rw [xhf 220 (by decide) (by omega)]
          exact fun g => j2 ((hpt j j0 j1).2.mp g)
        rw [← hX1]
        have e : ∀ f, zgo XH z p 0 f j = zjn XH z j f j := fun f => if_pos ⟨by omega, j1, h220⟩
        rw [e, e, e]
        unfold zjn
        rw [wu_ne (by decide : (226 : Int) ≠ 223), wu_ne (by decide : (226 : Int) ≠ 227), wu_eq, wu_ne (by decide : (227 : Int) ≠ 223), wu_eq, wu_eq, xhf 220 (by decide) (by omega), xhf 507 (by decide) (by omega), xhf 508 (by decide) (by omega)]
        exact ⟨rfl, rfl, rfl⟩
      have x1o : ∀ f j, (¬(8 * p ≤ j ∧ j < 8 * p + 8) ∨ X 1038 j = -1) → f ≠ 40 → f ≠ 509 + p → X1 f j = X f j := by
        intro f j hj k1 k2
        rw [← hX1]
        show (if 8 * p + 0 ≤ j ∧ j < 8 * p + 8 ∧ XH 220 j ≠ -1 then zjn XH z j f j else XH f j) = _
        rw [if_neg, xhf f k1 k2]
        rintro ⟨k3, k4, k5⟩
        rw [xhf 220 (by decide) (by omega)] at k5
        rcases hj with hj | hj
        · omega
        · exact k5 ((hpt j (by omega) k4).2.mpr hj)
      have s1 : ∀ f, f ∉ ([226, 227, 223, 40] : List Int) → f ≠ 509 + p → X1 f = X f := by
        intro f hf h9
        simp only [List.mem_cons, List.not_mem_nil, or_false, not_or] at hf
        rw [x1f f hf.1 hf.2.1 hf.2.2.1, xhf f hf.2.2.2 h9]
      generalize hX0 : wu X1 444 0 0 = X0
      generalize hX2 : zsom z 8 (8 * p) (wu X0 1035 p 1) = X2
      have x2f : ∀ f, f ≠ 1040 → f ≠ 1041 → f ≠ 1035 → f ≠ 444 → X2 f = X1 f := by
        intro f k1 k2 k3 k4
        funext j
        rw [← hX2, zsom_f k1 k2, wu_ne k3, ← hX0, wu_ne k4]
      have s0 : ∀ f, f ∉ ([226, 227, 223, 40, 1040, 1041, 1035, 444] : List Int) → f ≠ 509 + p → X2 f = X f := by
        intro f hf h9
        simp only [List.mem_cons, List.not_mem_nil, or_false, not_or] at hf
        obtain ⟨k1, k2, k3, k4, k5, k6, k7, k8⟩ := hf
        rw [x2f f k5 k6 k7 k8]
        exact s1 f (by simp only [List.mem_cons, List.not_mem_nil, or_false, not_or]; exact ⟨k1, k2, k3, k4⟩) h9
      have w0 : ∀ f, f ∉ ([226, 227, 223, 40, 1035, 444] : List Int) → f ≠ 509 + p → wu X0 1035 p 1 f = X f := by
        intro f hf h9
        simp only [List.mem_cons, List.not_mem_nil, or_false, not_or] at hf
        obtain ⟨k1, k2, k3, k4, k7, k8⟩ := hf
        funext j
        rw [wu_ne k7, ← hX0, wu_ne k8]
        exact congrFun (s1 f (by simp only [List.mem_cons, List.not_mem_nil, or_false, not_or]; exact ⟨k1, k2, k3, k4⟩) h9) j
      have hsv : ∀ j, (X2 1040 j = if (8 * p ≤ j ∧ j < 8 * p + 8) ∧ X 1038 j ≠ -1 then zjf (X 1031 (X 1026 (X 1038 j))) (X 1032 (X 1026 (X 1038 j))) z else X 1040 j) ∧ (X2 1041 j = if (8 * p ≤ j ∧ j < 8 * p + 8) ∧ X 1038 j ≠ -1 then zjf (X 1031 (X 1026 (X 1038 j))) (X 1032 (X 1026 (X 1038 j))) z else X 1041 j) := by
        intro j
        have := zsom_v (p := z) 8 (8 * p) (wu X0 1035 p 1) j
        rw [hX2, w0 1038 (by decide) (by omega), w0 1031 (by decide) (by omega), w0 1032 (by decide) (by omega), w0 1026 (by decide) (by omega), w0 1040 (by decide) (by omega), w0 1041 (by decide) (by omega)] at this
        exact this
      have y1035 : ∀ j, X2 1035 j = if j = p then 1 else X 1035 j := by
        intro j
        rw [← hX2, zsom_f (by decide) (by decide), wu_v, ← hX0, wu_ne (by decide), s1 1035 (by decide) (by omega)]
      have y40 : ∀ j, X2 40 j = if j = p then 1 else X 40 j := by
        intro j
        rw [x2f 40 (by decide) (by decide) (by decide) (by decide), x1f 40 (by decide) (by decide) (by decide), xh40]
      refine zcal_0 (X1 := X1) (X2 := X2) z hY ?_ (zd2_0 (by omega) g3 ⟨hzv, y1035, hsv, s0⟩) ?_ ?_ (fun f hf => x2f f (by omega) (by omega) (by omega) (by omega)) (fun f hf => s0 f (by simp only [List.mem_cons, List.not_mem_nil, or_false, not_or]; omega) (by omega))
      · show ev_ G 167 0 _ [] _ = _
        rw [q_X11_solder_0, k13 h13, hat, t_R, g2_0 hV2, t_b, e1.1, g3, if_pos (show zJ 0 = 0 from rfl), l_1, c_cSt1, t_V, g13_3 h13, t_b, k2 hV2, hgo, t_I]
      · rw [← hX2, zsom_f (by decide) (by decide), wu_ne (by decide), ← hX0, wu_eq]
      · have gF : ∀ F : List Int, (∀ f ∈ F, f ∉ ([226, 227, 223, 40, 1040, 1041, 1035, 444] : List Int) ∧ (f < 509 ∨ 521 ≤ f)) → ∀ f ∈ F, X2 f = X f := fun F hF' f hf => s0 f (hF' f hf).1 (by have := (hF' f hf).2; omega)
        have z5 : zpeak X2 p = z := by
          rw [← hpk]
          unfold zpeak zmass
          rw [s0 220 (by decide) (by omega), xhf 220 (by decide) (by omega), x2f (509 + p) (by omega) (by omega) (by omega) (by omega), x1f (509 + p) (by omega) (by omega) (by omega)]
        refine ⟨iB_c h1 (gF _ (by decide)) rfl, iC_c h2 (gF _ (by decide)) rfl, iT_c h3 (gF _ (by decide)) rfl, iW_c h4 (gF _ (by decide)) (fun _ _ _ => rfl) hn, iF_c h5 (gF _ (by decide)), iO_c h6 (gF _ (by decide)), iD_c h7 (gF _ (by decide)) (by omega), iR_c h8 (gF _ (by decide)) rfl, iM_c h9 (gF _ (by decide)), iV_c h10 (gF _ (by decide)), iH_c h11 (gF _ (by decide)), ?_⟩
        refine iS_u h12 g1 hn4 (by rw [s0 434 (by decide) (by omega)]) (fun b hb f hf => ?_) (fun b b0 b1 hb => s0 (509 + b) (by simp only [List.mem_cons, List.not_mem_nil, or_false]; omega) (by omega)) (fun k hk f hf => ?_) (s0 1026 (by decide) (by omega)) ?_ (fun k k0 k1 => ?_) ?_ (fun z' z0 z1 => ?_) (fun k k0 k1 => ?_)
        · simp only [List.mem_cons, List.not_mem_nil, or_false] at hf
          rcases hf with e | e | e | e | e | e <;> subst e
          · rw [y1035, if_neg hb]
          · rw [s0 1036 (by decide) (by omega)]
          · rw [s0 1037 (by decide) (by omega)]
          · rw [y40, if_neg hb]
          · rw [s0 41 (by decide) (by omega)]
          · rw [s0 42 (by decide) (by omega)]
        · have hkn : ¬((8 * p ≤ k ∧ k < 8 * p + 8) ∧ X 1038 k ≠ -1) := fun g => hk g.1
          simp only [fK, List.mem_cons, List.not_mem_nil, or_false] at hf
          rcases hf with e | e | e | e | e | e | e | e | e | e | e | e | e | e <;> subst e
          · rw [s0 220 (by decide) (by omega)]
          · rw [s0 221 (by decide) (by omega)]
          · rw [s0 222 (by decide) (by omega)]
          · rw [x2f 223 (by decide) (by decide) (by decide) (by decide), x1o 223 k (.inl hk) (by decide) (by omega)]
          · rw [s0 224 (by decide) (by omega)]
          · rw [s0 225 (by decide) (by omega)]
          · rw [x2f 226 (by decide) (by decide) (by decide) (by decide), x1o 226 k (.inl hk) (by decide) (by omega)]
          · rw [x2f 227 (by decide) (by decide) (by decide) (by decide), x1o 227 k (.inl hk) (by decide) (by omega)]
          · rw [s0 1038 (by decide) (by omega)]
          · rw [s0 1039 (by decide) (by omega)]
          · rw [(hsv k).1, if_neg hkn]
          · rw [(hsv k).2, if_neg hkn]
          · rw [s0 1042 (by decide) (by omega)]
          · rw [s0 1043 (by decide) (by omega)]
        · rw [s0 1036 (by decide) (by omega), s0 1037 (by decide) (by omega), y1035, if_pos rfl]
          exact ⟨by decide, b2.2⟩
        · rw [s0 1038 (by decide) (by omega), s0 1042 (by decide) (by omega), s0 1043 (by decide) (by omega), (hsv k).2]
          have d4 := c4 k (by omega) (by omega)
          have d7 := (e3 k k0 k1).2.2.2.2.2.2 g3
          have d42 : X 1042 k = 0 := by
            by_cases g : X 1042 k = 0
            · exact g
            · exact absurd d7 (d4.2.2.2.2 g).1
          refine ⟨d4.1, ?_, d4.2.2.1, d4.2.2.2.1, fun g => absurd d42 g⟩
          split
          · have := @zjf_r (X 1031 (X 1026 (X 1038 k))) (X 1032 (X 1026 (X 1038 k))) z
            omega
          · exact d4.2.1
        · rw [s0 1036 (by decide) (by omega), s0 1037 (by decide) (by omega), s0 41 (by decide) (by omega), s0 42 (by decide) (by omega), y40, y1035, if_pos rfl, if_pos rfl]
          exact ⟨rfl, e1.2⟩
        · rw [x2f (509 + p) (by omega) (by omega) (by omega) (by omega), x1f (509 + p) (by omega) (by omega) (by omega), xh509 z' z0 z1]
          exact (o1 z' z0 z1).2
        · obtain ⟨i1, i2, i3, i4, i5, i6, i7⟩ := e3 k k0 k1
          have d4 := c4 k (by omega) (by omega)
          unfold iS1
          rw [z5, s0 220 (by decide) (by omega), s0 221 (by decide) (by omega), s0 222 (by decide) (by omega), s0 224 (by decide) (by omega), s0 225 (by decide) (by omega), s0 1038 (by decide) (by omega), s0 1039 (by decide) (by omega), s0 1042 (by decide) (by omega), s0 1043 (by decide) (by omega), s0 1026 (by decide) (by omega), y1035, if_pos rfl, (hsv k).1, (hsv k).2, x2f 223 (by decide) (by decide) (by decide) (by decide), x2f 226 (by decide) (by decide) (by decide) (by decide), x2f 227 (by decide) (by decide) (by decide) (by decide)]
          by_cases hk : X 1038 k = -1
          · have hno : ¬((8 * p ≤ k ∧ k < 8 * p + 8) ∧ X 1038 k ≠ -1) := fun g => g.2 hk
            rw [if_neg hno, if_neg hno, x1o 223 k (.inr hk) (by decide) (by omega), x1o 226 k (.inr hk) (by decide) (by omega), x1o 227 k (.inr hk) (by decide) (by omega)]
            refine ⟨i1, i2, i3, i4, ?_, i6, fun g => absurd g (by decide)⟩
            rw [i5, if_pos (.inr hk), if_pos (.inr hk)]
          · have hyes : (8 * p ≤ k ∧ k < 8 * p + 8) ∧ X 1038 k ≠ -1 := ⟨⟨k0, k1⟩, hk⟩
            obtain ⟨j1, j2, j3⟩ := x1v k k0 k1 hk
            have h20 : X 220 k = X 1026 (X 1038 k) := by rw [i3, if_neg hk]
            have hpr := (hmr (X 1038 k) (by omega) (by omega)).1
            have hoo := o2 (X 1026 (X 1038 k)) hpr.1 hpr.2
            rw [if_pos hyes, if_pos hyes, j1, j2, j3, h20, hoo.1.1, hoo.2.1]
            refine ⟨⟨i1.1, i1.2.1, rfl, i1.2.2.2⟩, i2, by rw [if_neg hk], by omega, ?_, fun g => absurd g hk, fun g => absurd g (by decide)⟩
            rw [if_neg]
            rintro (g | g)
            · exact absurd g (by decide)
            · exact hk g
    · refine zcal_e 2 2 hI hY (by decide) (by decide) ?_ (by first | exact zd1_1 (by first | assumption | omega) (same_u (by decide) same_r) | exact zd2_1 (by first | assumption | omega) (same_u (by decide) same_r) | exact zd2_2 (by first | assumption | omega) (by first | assumption | omega) (same_u (by decide) same_r) | exact zd3_1 (by first | assumption | omega) (same_u (by decide) same_r) | exact zd3_2 (by first | assumption | omega) (by first | assumption | omega) (same_u (by decide) same_r) | exact zd3_3 (by first | assumption | omega) (by first | assumption | omega) (by first | assumption | omega) (same_u (by decide) same_r))
      show ev_ G 167 0 _ [] _ = _
      have hne : ¬zJ (X 1035 p) = 0 := by
        rw [l_0, zJ_eq (by omega) (by omega) (by omega) (by omega)]
        exact g3
      rw [q_X11_solder_0, k13 h13, hat, t_R, g2_0 hV2, t_b, e1.1, if_neg hne, l_0, c_cSt0, t_Ve, t_x, t_w]
  · refine zcal_e 0 1 hI hY (by decide) (by decide) ?_ (by first | exact zd1_1 (by first | assumption | omega) (same_u (by decide) same_r) | exact zd2_1 (by first | assumption | omega) (same_u (by decide) same_r) | exact zd2_2 (by first | assumption | omega) (by first | assumption | omega) (same_u (by decide) same_r) | exact zd3_1 (by first | assumption | omega) (same_u (by decide) same_r) | exact zd3_2 (by first | assumption | omega) (by first | assumption | omega) (same_u (by decide) same_r) | exact zd3_3 (by first | assumption | omega) (by first | assumption | omega) (by first | assumption | omega) (same_u (by decide) same_r))
    show ev_ G 167 0 _ [] _ = _
    rw [q_X11_solder_0, k13 h13, c_boardAt_no hF hp.1 hp.2 g1, t_Re, t_x]
end ZK
