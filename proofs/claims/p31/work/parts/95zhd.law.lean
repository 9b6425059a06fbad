/-! THE LAW, 11d: a wire, put in -/
section ZL
variable {Y : zLy} {n s : Nat} {X : zX} {G : Nat × Nat} {X' : zX} {t p q r j f o u z A F c g2 best : Int} {E : List Int} {b : Nat → Int} {L k a : Nat} {R : Int → Int}
theorem zty_T {a b : Int} : zTk X a b (X 410 0) ↔ (zty X a ∨ zty X b) := by
  unfold zTk zty
  constructor
  · rintro ⟨w, w0, w1, g | g⟩
    · exact .inl ⟨w, w0, w1, g⟩
    · exact .inr ⟨w, w0, w1, g⟩
  · rintro (⟨w, w0, w1, g⟩ | ⟨w, w0, w1, g⟩)
    · exact ⟨w, w0, w1, .inl g⟩
    · exact ⟨w, w0, w1, .inr g⟩
/-- the rows behind a wire that went in -/
theorem pK_w {X2 X8 X3 : zX} {Q : zQs} {V B mine theirs opt : Int} (hK : pK X) (hX3 : wu (wu (wu X8 1103 (X 410 0) V) 1104 (24 + X 410 0) B) 1113 2 (X 410 0 + 1) = X3) (h8 : zIw X2 X8 (X 410 0) b L 8) (hl : ∀ f, 1100 ≤ f → X2 f = X f) (hL7 : L ≤ 7) (hg : 0 ≤ X 410 0 ∧ X 410 0 < 24) (hB : B = zsm (fun m => X 1003 (b m.toNat)) 0 L) (hV : V = mine + 64 * theirs + 4096 * opt) (hbr : ∀ j : Nat, j < L → 0 ≤ b j ∧ b j < X 400 0) (h400 : X 400 0 ≤ 16) (h63 : ∀ i, 0 ≤ i → i < X 400 0 → X 63 i = X 1003 i ∧ 1 ≤ X 1003 i ∧ X 1003 i ≤ 999) (h11 : X 1011 (X 410 0) = 0) (h14b : ∀ k, 0 ≤ k → k < X 410 0 → 0 ≤ X 1014 k ∧ X 1014 k ≤ 7) (d1 : X2 410 0 = X 410 0 + 1) (d2 : ∀ k, X2 1012 k = if k = 2 * X 410 0 + 1 then theirs else if k = 2 * X 410 0 then mine else X 1012 k) (d3 : ∀ k, X2 1013 k = if k = X 410 0 then opt else X 1013 k) (d4 : ∀ k, X2 1014 k = if k = X 410 0 then (L : Int) else X 1014 k) (d5 : ∀ j : Nat, j < L → X2 1015 (16 * X 410 0 + j) = b j) (d6 : ∀ k, ¬(16 * X 410 0 ≤ k ∧ k < 16 * X 410 0 + L) → X2 1015 k = X 1015 k) (d7 : ∀ i, X2 1004 i = X 1004 i - zsm (fun m => zB (b m.toNat = i)) 0 L) (d8 : ∀ k, X2 245 k = if k = X 410 0 then zsm (fun m => X 63 (b m.toNat)) 0 L else X 245 k) (e7 : zsame [20, 64, 84, 241, 243, 244, 245, 246, 500, 1016, 444, 410, 1004, 1012, 1013, 1014, 1015] X X2) : pK X3 := by
  obtain ⟨pg, pb, pc, pw, pr, ph, ps, pf⟩ := hK
  obtain ⟨i1, i2, i3, i4⟩ := h8
  have hmin : min 8 L = L := by omega
  rw [hmin] at i3 i4
  have s3 : zsame [1101, 1103, 1104, 1113] X2 X3 := by
    rw [← hX3]
    exact same_u (by decide) (same_u (by decide) (same_u (by decide) (fun f hf => i1 f (fun g => hf (by simp [g])) (fun g => hf (by simp [g])))))
  have s2 := same_t (same_m (F := [1101, 1103, 1104, 1113, 20, 64, 84, 241, 243, 244, 245, 246, 500, 1016, 444, 410, 1004, 1012, 1013, 1014, 1015]) e7 (by decide)) (same_m s3 (by decide))
  have g13 : ∀ j, X3 1113 j = if j = 2 then X 410 0 + 1 else X 1113 j := fun j => by
    rw [← hX3, wu_v, wu_ne (by decide), wu_ne (by decide), i1 1113 (by decide) (by decide), hl 1113 (by decide)]
  have g01 : ∀ j, 0 ≤ j → j < 16 → X3 1101 j = X 1101 j - zsm (fun m => zB (b m.toNat = j)) 0 L := fun j j0 j1 => by
    rw [← hX3, wu_ne (by decide), wu_ne (by decide), wu_ne (by decide), i4 j j0 j1, hl 1101 (by decide)]
  have g03 : ∀ j, X3 1103 j = if j = X 410 0 then V else X 1103 j := fun j => by
    rw [← hX3, wu_ne (by decide), wu_ne (by decide), wu_v, i1 1103 (by decide) (by decide), hl 1103 (by decide)]
  have g04 : ∀ j, j ≠ X 410 0 → X3 1104 j = if j = 24 + X 410 0 then B else X 1104 j := fun j hj => by
    rw [← hX3, wu_ne (by decide), wu_v, wu_ne (by decide), i2 j hj, hl 1104 (by decide)]
  have g04n : X3 1104 (X 410 0) = X8 1104 (X 410 0) := by
    rw [← hX3, wu_ne (by decide), wu_ni (by omega), wu_ne (by decide)]
  have e2 : X3 410 0 = X 410 0 + 1 := by rw [s3 410 (by decide), d1]
  have z := fun f (hf : f ∉ _) => congrFun (s2 f hf) 0
  refine ⟨?_, ?_, pC_c pc (same_g s2 (by decide)), ?_, pR_c pr (same_g s2 (by decide)), pH_c ph (same_g s2 (by decide)), pS_c ps (same_g s2 (by decide)), pF_c pf (same_g s2 (by decide))⟩
  ·
    refine pG_v pg ?_ ?_ ?_ ?_ ?_ ?_ ?_ ?_
    · rw [g13, if_neg (by decide), z 400 (by decide), pg.1]
    · rw [g13, if_neg (by decide), z 405 (by decide), pg.2.1]
    · rw [g13, if_pos rfl, e2]
    · rw [g13, if_neg (by decide), z 425 (by decide), pg.2.2.2.1]
    · rw [g13, if_neg (by decide), z 434 (by decide), pg.2.2.2.2.1]
    · rw [g13, if_neg (by decide), z 421 (by decide), pg.2.2.2.2.2.1]
    · rw [g13, if_neg (by decide), z 422 (by decide), pg.2.2.2.2.2.2.1]
    · rw [z 434 (by decide)]
      exact pg.2.2.2.2.2.2.2
  · intro k k0 k1
    rw [s2 400 (by decide)] at k1
    rw [s2 1100 (by decide), s2 1001 (by decide), s2 1002 (by decide), s2 1003 (by decide), g01 k k0 (by omega), s3 1004 (by decide), d7]
    have := pb k k0 k1
    exact ⟨this.1, by rw [this.2]⟩
  · refine ⟨fun k k0 k1 => ?_, fun k k0 k1 => ?_⟩
    · rw [e2] at k1
      rw [g03, s3 1012 (by decide), d2, d2, s3 1013 (by decide), d3, s2 1011 (by decide), s3 245 (by decide), d8, s3 1014 (by decide), d4, g04 (24 + k) (by omega)]
      by_cases hk : k = X 410 0
      · simp only [if_pos hk]
        rw [if_neg (by omega), if_pos (by omega), if_pos (by omega), if_pos (by omega)]
        have hsum : zsm (fun m => X 63 (b m.toNat)) 0 L = zsm (fun m => X 1003 (b m.toNat)) 0 L := zsm_congr _ _ (fun m m0 m1 => (h63 (b m.toNat) (hbr m.toNat (by omega)).1 (hbr m.toNat (by omega)).2).1)
        have hbd := zsm_b (f := fun m => X 1003 (b m.toNat)) (c := 999) L 0 (fun m m0 m1 => by
          have := h63 (b m.toNat) (hbr m.toNat (by omega)).1 (hbr m.toNat (by omega)).2
          show 0 ≤ X 1003 (b m.toNat) ∧ X 1003 (b m.toNat) ≤ 999
          omega)
        rw [hk, h11, hsum]
        refine ⟨by omega, hB, by omega, fun i i0 i1' => ?_⟩
        rw [g04n, i3 i i0 i1', s3 1015 (by decide), show ((L : Int)).toNat = L from Int.toNat_natCast L]
        have := zsm_sh (f := fun m => zB (X2 1015 m = i)) (a := 16 * X 410 0) L 0
        rw [Int.add_zero] at this
        rw [← this]
        refine zsm_congr _ _ (fun m m0 m1 => ?_)
        show zB (b m.toNat = i) = zB (X2 1015 (16 * X 410 0 + m) = i)
        have e5 := d5 m.toNat (by omega)
        rw [show ((m.toNat : Nat) : Int) = m by omega] at e5
        rw [e5]
      · simp only [if_neg hk]
        rw [if_neg (by omega), if_neg (by omega), if_neg (by omega), if_neg (by omega), if_neg (by omega)]
        have a := pw.1 k k0 (by omega)
        have hr := h14b k k0 (by omega)
        refine ⟨a.1, a.2.1, a.2.2.1, fun i i0 i1' => ?_⟩
        rw [g04 k hk, if_neg (by omega), a.2.2.2 i i0 i1', s3 1015 (by decide)]
        refine zsm_congr _ _ (fun m m0 m1 => ?_)
        show zB (X 1015 m = i) = zB (X2 1015 m = i)
        rw [d6 m (by omega)]
    · rw [e2] at k0
      rw [g04 k (by omega), if_neg (by omega)]
      exact pw.2 k (by omega) k1
theorem H_wire (hZ : zLA G t Y n X) (h1 : 0 ≤ q ∧ q < 60000) (h2 : 0 ≤ r ∧ r < 60000) (h24 : X 410 0 < 24) : zgL G t Y n s (ev_ G 218 472 [.ref (wA Y 13 0), .ref (wA Y 15 600), .ref (wA Y 15 601), .ref (wA Y 15 602), .ref (wA Y 15 603), .ref (wA Y 15 604), .ref (wA Y 15 613), .int (zJ 3), .int (zJ q), .int (zJ r), zU, zU, zU, zU, zU, zU, zU, zU, zU, zU, zU, zU, zU, zU] [] (wd Y n s X)) := by
  rw [H_472 hZ h1 h2]
  have hZ' := hZ
  obtain ⟨hY, hG, hI, hK⟩ := hZ
  obtain ⟨pg, pb, pc, pw, pr, ph, ps, pf⟩ := id hK
  have hL := wY_A hY
  have hn1 : 0 ≤ X 405 0 ∧ X 405 0 ≤ 8 := by
    have := hI.2.1.1
    have := hY.2.2.1
    omega
  have hn2 : 0 ≤ X 410 0 ∧ X 410 0 ≤ 24 := by
    have := hI.2.2.2.1.1
    have := hY.2.2.2.1
    omega
  have hnb : 0 ≤ X 400 0 ∧ X 400 0 ≤ 16 := by
    have := hI.1.1
    have := hY.2.1
    omega
  have e0 : ¬X 405 0 + 1 = 0 := by omega
  have b1 : 0 ≤ q % (X 405 0 + 1) ∧ q % (X 405 0 + 1) < X 405 0 + 1 := ⟨Int.emod_nonneg _ e0, Int.emod_lt_of_pos _ (by omega)⟩
  have b2 : 0 ≤ r % (X 405 0 + 1) ∧ r % (X 405 0 + 1) < X 405 0 + 1 := ⟨Int.emod_nonneg _ e0, Int.emod_lt_of_pos _ (by omega)⟩
  generalize q % (X 405 0 + 1) = f at b1
  generalize r % (X 405 0 + 1) = o at b2
  obtain ⟨p, u, z, A, F, hp, hu, hz, hA, hF, s1⟩ := H_750 (s := s) (f := f) (o := o) hZ' h1 h2 (by omega) (by omega) h24
  obtain ⟨c, hc, s2⟩ := H_799 (s := s) (q := q) (r := r) (z := z) (A := A) (F := F) (f := f) (o := o) (p := p) (u := u) hZ' (by omega) (by omega) (X 410 0).toNat 0 1 (by decide) (by omega) (.inl ⟨rfl, fun ⟨w, w0, w1, _⟩ => by omega⟩)
  rw [zty_T] at hc
  obtain ⟨Y9, n9, s9, R, best, s3, hY9, hle9, hn9, hn9', hs9, hs9', hQ9, hA9, hrow9, hrole9, hbr, hbn, hbw⟩ := H_row (s := s) (q := q) (r := r) (z := z) (A := A) (F := F) (c := c) (f := f) (o := o) (p := p) (u := u) hZ' (by omega) (by omega) (by
    rcases hA with g | g
    · exact .inl g
    · exact .inr g.1) (by omega) (by omega)
  rw [s1, s2, s3, q_L_isHarness_943]
  have hG9 : Y9.1 = G.1 := hle9.2.1.trans hG
  have hI9 : iAll t Y9.2.2.2.2 X := by
    rw [hQ9]
    exact hI
  have hd := d_wire (G := G) (s := s9) (p := f) (q := p) (r := o) (u := u) (z := z) hY9 hG9 hI9 (by omega) (by omega) (by omega) (by omega) (by omega)
  rw [hA9] at hd
  refine zgL_k (Y9 := Y9) (n9 := n9) (s9 := s9) (X9 := X) hG9 hle9 (by omega) (by omega) (by rw [l_3]; exact hd) (fun Y2 n2 m2 X2 code ans v hD h0 hE hl hY2 hG2 hI2 hle2 => ?_)
  have hle := wle_t hle9 hle2
  have hA13 : wA Y 13 0 = wA Y2 13 0 := ((hle.2.2.1 13 0 (by decide) (by decide) (wY_F hY).2.1).2).symm
  rw [hA13, wA_l hle hL (j := 600) (by decide) (by decide), wA_l hle hL (j := 601) (by decide) (by decide), wA_l hle hL (j := 602) (by decide) (by decide), wA_l hle hL (j := 603) (by decide) (by decide), wA_l hle hL (j := 604) (by decide) (by decide), wA_l hle hL (j := 613) (by decide) (by decide)]
  have hL2 := wY_A hY2
  unfold dWire at hD
  have D := zd3_v hD h0 hE
  rcases hA with ⟨rfl, hcv⟩ | ⟨rfl, hcv⟩
  · rcases hF with ⟨rfl, hfo⟩ | ⟨rfl, hfo⟩
    · by_cases kC : ¬(zty X (8 * f + p) ∨ zty X (8 * o + u) ∨ 1000000000 ≤ zcsm X (X 400 0) (X 1006 o) (X 1006 f) ∨ X 410 0 = 24)
      · have hc1 : c = 1 := by
          rcases hc with g | g
          · exact g.1
          · exact absurd (g.2.elim (fun h => .inl h) (fun h => .inr (.inl h))) kC
        subst hc1
        obtain ⟨ev, ea, v', b, L, v0, hLm, hch, hbb, d1, d2, d3, d4, d5, d6, d7, d8, e7⟩ := D.2.2.2 hcv ⟨hfo.1, by omega⟩ kC
        obtain ⟨hL7, hb0, hb8, hRk, hne⟩ := (hbw rfl rfl rfl).2 v' b L (by omega) v0 hLm hch
        have m1 : X2 1113 2 = X 410 0 := by rw [hl 1113 (by decide), pg.2.2.1]
        have hstart : zIw X2 X2 (X 410 0) b L 0 := by
          refine ⟨fun _ _ _ => rfl, fun _ _ => rfl, fun i i0 i1 => ?_, fun i i0 i1 => ?_⟩
          · rw [hl 1104 (by decide), pw.2 (X 410 0) (Int.le_refl _) h24, zbv_g ⟨i0, i1⟩, zgb_0, Nat.zero_min]
            rfl
          · rw [Nat.zero_min]
            show _ = X2 1101 i - 0
            omega
        have h11 : X 1011 (X 410 0) = 0 := hI.2.2.2.1.2.2.1 (X 410 0) (by rw [hI.2.2.2.1.1]; exact Int.le_refl _) h24
        have hrow2 := hle2.2.2.2 n hn9 hrole9
        obtain ⟨X8, i8, s8⟩ := H_1005 (s := m2) (best := best) (q := q) (r := r) (z := z) (A := 1) (F := 1) (c := 1) (f := f) (o := o) (p := p) (u := u) hY2 hG2 hI2 hL7 (hrow2.1.trans hrow9) hrow2.2 hRk (fun j hj => by have := hbb j hj; omega) hne (g2 := X 410 0) (by omega) (by rw [← hI2.2.2.2.1.1, d1]; omega) m1 (by rw [e7 1011 (by decide)]; exact h11) (by rw [d4, if_pos rfl]) d5 (by omega) 8 0 X2 (by decide) hstart
        obtain ⟨i1, i2, i3, i4⟩ := id i8
        have m8 : X8 1113 2 = X 410 0 := by rw [i1 1113 (by decide) (by decide), m1]
        generalize hX3 : wu (wu (wu X8 1103 (X 410 0) (8 * f + p + 64 * (8 * o + u) + 4096 * z)) 1104 (24 + X 410 0) (best / 8)) 1113 2 (X 410 0 + 1) = X3
        have g3 : ∀ f, f < 1100 → X3 f = X2 f := fun f hf => by
          rw [← hX3, ← i1 f (by omega) (by omega)]
          funext j
          rw [wu_ne (by omega), wu_ne (by omega), wu_ne (by omega)]
        refine ⟨X3, ?_, iAll_l g3 hY2.2.2.2.1.2 hY2.2.2.2.2.2.1.2 hI2, ?_⟩
        · have s8' : ev_ G 218 1005 _ [] _ = _ := s8
          have hb0' : ¬best < 0 := by omega
          simp (disch := first | assumption | omega) only [↓reduceIte, l_0, l_1, l_2, l_3, l_4, l_5, l_6, l_7, l_8, l_9, l_10, l_12, l_16, l_24, l_31, l_32, l_48, l_96, l_99, l_100, l_150, l_180, l_200, l_240, l_255, l_260, l_384, l_400, l_999, l_5000, l_9999, l_1000000, l_1000000000, l_11, l_13, l_14, l_15, l_17, l_18, l_19, l_20, l_21, l_22, l_23, l_25, l_26, l_28, l_30, l_34, l_38, l_42, l_44, l_54, l_60, l_64, l_81, l_90, l_101, l_103, l_110, l_120, l_128, l_140, l_256, l_401, l_403, l_450, l_512, l_853, l_983, l_1000, l_1001, l_2048, l_3000000, l_2000000, l_4096, l_5001, l_5002, l_10000, l_10001, l_32767, l_32768, l_60000, l_2147483647, zJ_lt, zJ_le, zJ_eq, zJ_add, zJ_sub, zJ_mul, zJ_neg, zJ_dv, t_I, t_Ie, t_R, t_Re, t_N, t_Nn, t_V, t_Ve, t_b, t_x, t_w, e_0, e_1, e_2, e_3, ↓t_0, ↓t_1, t_00, t_11, if_true, if_false, ite_not, not_false_eq_true, not_true_eq_false, Int.reduceEq, Int.reduceLT, Int.reduceLE, Int.reduceNeg, Nat.reduceEqDiff, Bool.false_eq_true, ev, ea, hb0, lg_ hL2, m1]
          rw [show ((0 : Nat) : Int) = 0 from rfl] at s8
          rw [s8, q_L_isHarness_1110]
          have t1 : ∀ {α : Type} {x y : α}, (if zJ 1 &&& 1 = zJ 1 then x else y) = x := fun {α x y} => if_pos (by decide)
          simp (disch := first | assumption | omega) only [↓t1, ↓reduceIte, l_0, l_1, l_2, l_3, l_4, l_5, l_6, l_7, l_8, l_9, l_10, l_12, l_16, l_24, l_31, l_32, l_48, l_96, l_99, l_100, l_150, l_180, l_200, l_240, l_255, l_260, l_384, l_400, l_999, l_5000, l_9999, l_1000000, l_1000000000, l_11, l_13, l_14, l_15, l_17, l_18, l_19, l_20, l_21, l_22, l_23, l_25, l_26, l_28, l_30, l_34, l_38, l_42, l_44, l_54, l_60, l_64, l_81, l_90, l_101, l_103, l_110, l_120, l_128, l_140, l_256, l_401, l_403, l_450, l_512, l_853, l_983, l_1000, l_1001, l_2048, l_3000000, l_2000000, l_4096, l_5001, l_5002, l_10000, l_10001, l_32767, l_32768, l_60000, l_2147483647, zJ_lt, zJ_le, zJ_eq, zJ_add, zJ_sub, zJ_mul, zJ_neg, zJ_dv, t_I, t_Ie, t_R, t_Re, t_N, t_Nn, t_V, t_Ve, t_b, t_x, t_w, e_0, e_1, e_2, e_3, ↓t_0, ↓t_1, t_00, t_11, if_true, if_false, ite_not, not_false_eq_true, not_true_eq_false, Int.reduceEq, Int.reduceLT, Int.reduceLE, Int.reduceNeg, Nat.reduceEqDiff, Bool.false_eq_true, hb0', lg_ hL2, m8, sw_ hL2, wu_ne, sy_ hL2, sg_ hL2]
          rw [hX3]
        · refine pK_w (Q := Y.2.2.2.2) (mine := 8 * f + p) (theirs := 8 * o + u) (opt := z) hK hX3 i8 hl hL7 (by omega) hb8 rfl hbb hnb.2 (fun i i0 i1 => ?_) h11 (fun k k0 k1 => ?_) d1 d2 d3 d4 d5 d6 d7 d8 e7
          · have e := hI.1.2 i i0 (by rw [← hI.1.1]; exact i1)
            rw [e.1.2.2.2.1]
            exact ⟨rfl, e.2.2.2.2.2.2⟩
          · have e := (hI.2.2.2.1.2.2.2 k k0 (by rw [← hI.2.2.2.1.1]; exact k1)).2.2.2.1
            omega
      · have hb1 : best = -1 := by
          rcases hc with ⟨rfl, g⟩ | ⟨rfl, g⟩
          · refine (hbw rfl rfl rfl).1 ?_
            by_cases g' : 1000000000 ≤ zcsm X (X 400 0) (X 1006 o) (X 1006 f)
            · exact g'
            · exact absurd (fun h => by
                rcases h with h | h | h | h
                · exact g (.inl h)
                · exact g (.inr h)
                · exact g' h
                · omega) kC
          · exact hbn (.inr (.inr rfl))
        subst hb1
        obtain ⟨ev, e1⟩ := D.2.2.1 hcv ⟨hfo.1, by omega⟩ kC
        refine ⟨X2, ?_, hI2, pK_s e1 (by decide) hK⟩
        simp (disch := first | assumption | omega) only [↓reduceIte, l_0, l_1, l_2, l_3, l_4, l_5, l_6, l_7, l_8, l_9, l_10, l_12, l_16, l_24, l_31, l_32, l_48, l_96, l_99, l_100, l_150, l_180, l_200, l_240, l_255, l_260, l_384, l_400, l_999, l_5000, l_9999, l_1000000, l_1000000000, l_11, l_13, l_14, l_15, l_17, l_18, l_19, l_20, l_21, l_22, l_23, l_25, l_26, l_28, l_30, l_34, l_38, l_42, l_44, l_54, l_60, l_64, l_81, l_90, l_101, l_103, l_110, l_120, l_128, l_140, l_256, l_401, l_403, l_450, l_512, l_853, l_983, l_1000, l_1001, l_2048, l_3000000, l_2000000, l_4096, l_5001, l_5002, l_10000, l_10001, l_32767, l_32768, l_60000, l_2147483647, zJ_lt, zJ_le, zJ_eq, zJ_add, zJ_sub, zJ_mul, zJ_neg, zJ_dv, t_I, t_Ie, t_R, t_Re, t_N, t_Nn, t_V, t_Ve, t_b, t_x, t_w, e_0, e_1, e_2, e_3, ↓t_0, ↓t_1, t_00, t_11, if_true, if_false, ite_not, not_false_eq_true, not_true_eq_false, Int.reduceEq, Int.reduceLT, Int.reduceLE, Int.reduceNeg, Nat.reduceEqDiff, Bool.false_eq_true, ev, zrv_2]
        exact H_end
    · have hb1 := hbn (.inr (.inl rfl))
      subst hb1
      obtain ⟨ev, e1⟩ := D.2.1 hcv (fun g => hfo ⟨g.1, g.2.2⟩)
      refine ⟨X2, ?_, hI2, pK_s e1 (by decide) hK⟩
      simp (disch := first | assumption | omega) only [↓reduceIte, l_0, l_1, l_2, l_3, l_4, l_5, l_6, l_7, l_8, l_9, l_10, l_12, l_16, l_24, l_31, l_32, l_48, l_96, l_99, l_100, l_150, l_180, l_200, l_240, l_255, l_260, l_384, l_400, l_999, l_5000, l_9999, l_1000000, l_1000000000, l_11, l_13, l_14, l_15, l_17, l_18, l_19, l_20, l_21, l_22, l_23, l_25, l_26, l_28, l_30, l_34, l_38, l_42, l_44, l_54, l_60, l_64, l_81, l_90, l_101, l_103, l_110, l_120, l_128, l_140, l_256, l_401, l_403, l_450, l_512, l_853, l_983, l_1000, l_1001, l_2048, l_3000000, l_2000000, l_4096, l_5001, l_5002, l_10000, l_10001, l_32767, l_32768, l_60000, l_2147483647, zJ_lt, zJ_le, zJ_eq, zJ_add, zJ_sub, zJ_mul, zJ_neg, zJ_dv, t_I, t_Ie, t_R, t_Re, t_N, t_Nn, t_V, t_Ve, t_b, t_x, t_w, e_0, e_1, e_2, e_3, ↓t_0, ↓t_1, t_00, t_11, if_true, if_false, ite_not, not_false_eq_true, not_true_eq_false, Int.reduceEq, Int.reduceLT, Int.reduceLE, Int.reduceNeg, Nat.reduceEqDiff, Bool.false_eq_true, ev, zrv_1]
      exact H_end
  · have hb1 := hbn (.inl rfl)
    subst hb1
    obtain ⟨ev, e1⟩ := D.1 hcv
    refine ⟨X2, ?_, hI2, pK_s e1 (by decide) hK⟩
    simp (disch := first | assumption | omega) only [↓reduceIte, l_0, l_1, l_2, l_3, l_4, l_5, l_6, l_7, l_8, l_9, l_10, l_12, l_16, l_24, l_31, l_32, l_48, l_96, l_99, l_100, l_150, l_180, l_200, l_240, l_255, l_260, l_384, l_400, l_999, l_5000, l_9999, l_1000000, l_1000000000, l_11, l_13, l_14, l_15, l_17, l_18, l_19, l_20, l_21, l_22, l_23, l_25, l_26, l_28, l_30, l_34, l_38, l_42, l_44, l_54, l_60, l_64, l_81, l_90, l_101, l_103, l_110, l_120, l_128, l_140, l_256, l_401, l_403, l_450, l_512, l_853, l_983, l_1000, l_1001, l_2048, l_3000000, l_2000000, l_4096, l_5001, l_5002, l_10000, l_10001, l_32767, l_32768, l_60000, l_2147483647, zJ_lt, zJ_le, zJ_eq, zJ_add, zJ_sub, zJ_mul, zJ_neg, zJ_dv, t_I, t_Ie, t_R, t_Re, t_N, t_Nn, t_V, t_Ve, t_b, t_x, t_w, e_0, e_1, e_2, e_3, ↓t_0, ↓t_1, t_00, t_11, if_true, if_false, ite_not, not_false_eq_true, not_true_eq_false, Int.reduceEq, Int.reduceLT, Int.reduceLE, Int.reduceNeg, Nat.reduceEqDiff, Bool.false_eq_true, ev, zrv_0]
    exact H_end
theorem H_all (hZ : zLA G t Y n X) {k : Int} (hk : 0 ≤ k ∧ k ≤ 4) (h1 : 0 ≤ q ∧ q < 60000) (h2 : 0 ≤ r ∧ r < 60000) : zgL G t Y n s (ev_ G 218 0 [.ref (wA Y 13 0), .ref (wA Y 15 600), .ref (wA Y 15 601), .ref (wA Y 15 602), .ref (wA Y 15 603), .ref (wA Y 15 604), .ref (wA Y 15 613), .int (zJ k), .int (zJ q), .int (zJ r), zU, zU, zU, zU, zU, zU, zU, zU, zU, zU, zU, zU, zU, zU] [] (wd Y n s X)) := by
  have hL := wY_A hZ.1
  have pg := hZ.2.2.2.1
  have hn1 : 0 ≤ X 405 0 ∧ X 405 0 ≤ 8 := by
    have := hZ.2.2.1.2.1.1
    have := hZ.1.2.2.1
    omega
  have hn2 : 0 ≤ X 410 0 ∧ X 410 0 ≤ 24 := by
    have := hZ.2.2.1.2.2.2.1.1
    have := hZ.1.2.2.2.1
    omega
  have hnb : 0 ≤ X 400 0 ∧ X 400 0 ≤ 16 := by
    have := hZ.2.2.1.1.1
    have := hZ.1.2.1
    omega
  by_cases kb : k = 0 ∧ X 400 0 < 16
  · rw [kb.1]
    exact H_bundle hZ h1 h2 kb.2
  · have s1 : ev_ G 218 0 [.ref (wA Y 13 0), .ref (wA Y 15 600), .ref (wA Y 15 601), .ref (wA Y 15 602), .ref (wA Y 15 603), .ref (wA Y 15 604), .ref (wA Y 15 613), .int (zJ k), .int (zJ q), .int (zJ r), zU, zU, zU, zU, zU, zU, zU, zU, zU, zU, zU, zU, zU, zU] [] (wd Y n s X) = ev_ G 218 263 [.ref (wA Y 13 0), .ref (wA Y 15 600), .ref (wA Y 15 601), .ref (wA Y 15 602), .ref (wA Y 15 603), .ref (wA Y 15 604), .ref (wA Y 15 613), .int (zJ k), .int (zJ q), .int (zJ r), zU, zU, zU, zU, zU, zU, zU, zU, zU, zU, zU, zU, zU, zU] [] (wd Y n s X) := by
      rw [q_L_isHarness_0]
      by_cases k1 : k = 0
      · have k2 : 16 ≤ X 400 0 := by omega
        simp (disch := first | assumption | omega) only [↓reduceIte, l_0, l_1, l_2, l_3, l_4, l_5, l_6, l_7, l_8, l_9, l_10, l_12, l_16, l_24, l_31, l_32, l_48, l_96, l_99, l_100, l_150, l_180, l_200, l_240, l_255, l_260, l_384, l_400, l_999, l_5000, l_9999, l_1000000, l_1000000000, l_11, l_13, l_14, l_15, l_17, l_18, l_19, l_20, l_21, l_22, l_23, l_25, l_26, l_28, l_30, l_34, l_38, l_42, l_44, l_54, l_60, l_64, l_81, l_90, l_101, l_103, l_110, l_120, l_128, l_140, l_256, l_401, l_403, l_450, l_512, l_853, l_983, l_1000, l_1001, l_2048, l_3000000, l_2000000, l_4096, l_5001, l_5002, l_10000, l_10001, l_32767, l_32768, l_60000, l_2147483647, zJ_lt, zJ_le, zJ_eq, zJ_add, zJ_sub, zJ_mul, zJ_neg, zJ_dv, t_I, t_Ie, t_R, t_Re, t_N, t_Nn, t_V, t_Ve, t_b, t_x, t_w, e_0, e_1, e_2, e_3, ↓t_0, ↓t_1, t_00, t_11, if_true, if_false, ite_not, not_false_eq_true, not_true_eq_false, Int.reduceEq, Int.reduceLT, Int.reduceLE, Int.reduceNeg, Nat.reduceEqDiff, Bool.false_eq_true, lg_ hL, pg.1, k1, k2]
      · simp (disch := first | assumption | omega) only [↓reduceIte, l_0, l_1, l_2, l_3, l_4, l_5, l_6, l_7, l_8, l_9, l_10, l_12, l_16, l_24, l_31, l_32, l_48, l_96, l_99, l_100, l_150, l_180, l_200, l_240, l_255, l_260, l_384, l_400, l_999, l_5000, l_9999, l_1000000, l_1000000000, l_11, l_13, l_14, l_15, l_17, l_18, l_19, l_20, l_21, l_22, l_23, l_25, l_26, l_28, l_30, l_34, l_38, l_42, l_44, l_54, l_60, l_64, l_81, l_90, l_101, l_103, l_110, l_120, l_128, l_140, l_256, l_401, l_403, l_450, l_512, l_853, l_983, l_1000, l_1001, l_2048, l_3000000, l_2000000, l_4096, l_5001, l_5002, l_10000, l_10001, l_32767, l_32768, l_60000, l_2147483647, zJ_lt, zJ_le, zJ_eq, zJ_add, zJ_sub, zJ_mul, zJ_neg, zJ_dv, t_I, t_Ie, t_R, t_Re, t_N, t_Nn, t_V, t_Ve, t_b, t_x, t_w, e_0, e_1, e_2, e_3, ↓t_0, ↓t_1, t_00, t_11, if_true, if_false, ite_not, not_false_eq_true, not_true_eq_false, Int.reduceEq, Int.reduceLT, Int.reduceLE, Int.reduceNeg, Nat.reduceEqDiff, Bool.false_eq_true, k1]
    rw [s1]
    by_cases kc : k ≤ 1 ∧ X 405 0 < 8
    · exact H_connector hZ ⟨hk.1, kc.1⟩ h1 h2 kc.2
    · have s2 : ev_ G 218 263 [.ref (wA Y 13 0), .ref (wA Y 15 600), .ref (wA Y 15 601), .ref (wA Y 15 602), .ref (wA Y 15 603), .ref (wA Y 15 604), .ref (wA Y 15 613), .int (zJ k), .int (zJ q), .int (zJ r), zU, zU, zU, zU, zU, zU, zU, zU, zU, zU, zU, zU, zU, zU] [] (wd Y n s X) = ev_ G 218 472 [.ref (wA Y 13 0), .ref (wA Y 15 600), .ref (wA Y 15 601), .ref (wA Y 15 602), .ref (wA Y 15 603), .ref (wA Y 15 604), .ref (wA Y 15 613), .int (zJ k), .int (zJ q), .int (zJ r), zU, zU, zU, zU, zU, zU, zU, zU, zU, zU, zU, zU, zU, zU] [] (wd Y n s X) := by
        rw [q_L_isHarness_263]
        by_cases k1 : 2 ≤ k
        · simp (disch := first | assumption | omega) only [↓reduceIte, l_0, l_1, l_2, l_3, l_4, l_5, l_6, l_7, l_8, l_9, l_10, l_12, l_16, l_24, l_31, l_32, l_48, l_96, l_99, l_100, l_150, l_180, l_200, l_240, l_255, l_260, l_384, l_400, l_999, l_5000, l_9999, l_1000000, l_1000000000, l_11, l_13, l_14, l_15, l_17, l_18, l_19, l_20, l_21, l_22, l_23, l_25, l_26, l_28, l_30, l_34, l_38, l_42, l_44, l_54, l_60, l_64, l_81, l_90, l_101, l_103, l_110, l_120, l_128, l_140, l_256, l_401, l_403, l_450, l_512, l_853, l_983, l_1000, l_1001, l_2048, l_3000000, l_2000000, l_4096, l_5001, l_5002, l_10000, l_10001, l_32767, l_32768, l_60000, l_2147483647, zJ_lt, zJ_le, zJ_eq, zJ_add, zJ_sub, zJ_mul, zJ_neg, zJ_dv, t_I, t_Ie, t_R, t_Re, t_N, t_Nn, t_V, t_Ve, t_b, t_x, t_w, e_0, e_1, e_2, e_3, ↓t_0, ↓t_1, t_00, t_11, if_true, if_false, ite_not, not_false_eq_true, not_true_eq_false, Int.reduceEq, Int.reduceLT, Int.reduceLE, Int.reduceNeg, Nat.reduceEqDiff, Bool.false_eq_true, k1]
        · have k2 : 8 ≤ X 405 0 := by omega
          simp (disch := first | assumption | omega) only [↓reduceIte, l_0, l_1, l_2, l_3, l_4, l_5, l_6, l_7, l_8, l_9, l_10, l_12, l_16, l_24, l_31, l_32, l_48, l_96, l_99, l_100, l_150, l_180, l_200, l_240, l_255, l_260, l_384, l_400, l_999, l_5000, l_9999, l_1000000, l_1000000000, l_11, l_13, l_14, l_15, l_17, l_18, l_19, l_20, l_21, l_22, l_23, l_25, l_26, l_28, l_30, l_34, l_38, l_42, l_44, l_54, l_60, l_64, l_81, l_90, l_101, l_103, l_110, l_120, l_128, l_140, l_256, l_401, l_403, l_450, l_512, l_853, l_983, l_1000, l_1001, l_2048, l_3000000, l_2000000, l_4096, l_5001, l_5002, l_10000, l_10001, l_32767, l_32768, l_60000, l_2147483647, zJ_lt, zJ_le, zJ_eq, zJ_add, zJ_sub, zJ_mul, zJ_neg, zJ_dv, t_I, t_Ie, t_R, t_Re, t_N, t_Nn, t_V, t_Ve, t_b, t_x, t_w, e_0, e_1, e_2, e_3, ↓t_0, ↓t_1, t_00, t_11, if_true, if_false, ite_not, not_false_eq_true, not_true_eq_false, Int.reduceEq, Int.reduceLT, Int.reduceLE, Int.reduceNeg, Nat.reduceEqDiff, Bool.false_eq_true, k1, lg_ hL, pg.2.1, k2]
      rw [s2]
      by_cases km : k ≤ 2
      · exact H_mates hZ ⟨hk.1, km⟩ h1 h2
      · by_cases kw : k = 3 ∧ X 410 0 < 24
        · rw [kw.1]
          exact H_wire hZ h1 h2 kw.2
        · have k3 : 3 ≤ k := by omega
          rw [H_472 hZ h1 h2]
          generalize zB (q % (X 405 0 + 1) < X 405 0 ∧ r % (X 405 0 + 1) < X 405 0) = a
          have s3 : ev_ G 218 517 [.ref (wA Y 13 0), .ref (wA Y 15 600), .ref (wA Y 15 601), .ref (wA Y 15 602), .ref (wA Y 15 603), .ref (wA Y 15 604), .ref (wA Y 15 613), .int (zJ k), .int (zJ q), .int (zJ r), .int (zJ (q % (X 405 0 + 1))), .int (zJ (r % (X 405 0 + 1))), zU, zU, zU, zU, zU, zU, zU, zU, zU, zU, zU, zU] [.int (zJ a)] (wd Y n s X) = ev_ G 218 1163 [.ref (wA Y 13 0), .ref (wA Y 15 600), .ref (wA Y 15 601), .ref (wA Y 15 602), .ref (wA Y 15 603), .ref (wA Y 15 604), .ref (wA Y 15 613), .int (zJ k), .int (zJ q), .int (zJ r), .int (zJ (q % (X 405 0 + 1))), .int (zJ (r % (X 405 0 + 1))), .int (zJ a), zU, zU, zU, zU, zU, zU, zU, zU, zU, zU, zU] [] (wd Y n s X) := by
            rw [q_L_isHarness_517]
            by_cases k4 : k = 3
            · have k5 : 24 ≤ X 410 0 := by omega
              simp (disch := first | assumption | omega) only [↓reduceIte, l_0, l_1, l_2, l_3, l_4, l_5, l_6, l_7, l_8, l_9, l_10, l_12, l_16, l_24, l_31, l_32, l_48, l_96, l_99, l_100, l_150, l_180, l_200, l_240, l_255, l_260, l_384, l_400, l_999, l_5000, l_9999, l_1000000, l_1000000000, l_11, l_13, l_14, l_15, l_17, l_18, l_19, l_20, l_21, l_22, l_23, l_25, l_26, l_28, l_30, l_34, l_38, l_42, l_44, l_54, l_60, l_64, l_81, l_90, l_101, l_103, l_110, l_120, l_128, l_140, l_256, l_401, l_403, l_450, l_512, l_853, l_983, l_1000, l_1001, l_2048, l_3000000, l_2000000, l_4096, l_5001, l_5002, l_10000, l_10001, l_32767, l_32768, l_60000, l_2147483647, zJ_lt, zJ_le, zJ_eq, zJ_add, zJ_sub, zJ_mul, zJ_neg, zJ_dv, t_I, t_Ie, t_R, t_Re, t_N, t_Nn, t_V, t_Ve, t_b, t_x, t_w, e_0, e_1, e_2, e_3, ↓t_0, ↓t_1, t_00, t_11, if_true, if_false, ite_not, not_false_eq_true, not_true_eq_false, Int.reduceEq, Int.reduceLT, Int.reduceLE, Int.reduceNeg, Nat.reduceEqDiff, Bool.false_eq_true, k3, k4, lg_ hL, pg.2.2.1, k5]
            · simp (disch := first | assumption | omega) only [↓reduceIte, l_0, l_1, l_2, l_3, l_4, l_5, l_6, l_7, l_8, l_9, l_10, l_12, l_16, l_24, l_31, l_32, l_48, l_96, l_99, l_100, l_150, l_180, l_200, l_240, l_255, l_260, l_384, l_400, l_999, l_5000, l_9999, l_1000000, l_1000000000, l_11, l_13, l_14, l_15, l_17, l_18, l_19, l_20, l_21, l_22, l_23, l_25, l_26, l_28, l_30, l_34, l_38, l_42, l_44, l_54, l_60, l_64, l_81, l_90, l_101, l_103, l_110, l_120, l_128, l_140, l_256, l_401, l_403, l_450, l_512, l_853, l_983, l_1000, l_1001, l_2048, l_3000000, l_2000000, l_4096, l_5001, l_5002, l_10000, l_10001, l_32767, l_32768, l_60000, l_2147483647, zJ_lt, zJ_le, zJ_eq, zJ_add, zJ_sub, zJ_mul, zJ_neg, zJ_dv, t_I, t_Ie, t_R, t_Re, t_N, t_Nn, t_V, t_Ve, t_b, t_x, t_w, e_0, e_1, e_2, e_3, ↓t_0, ↓t_1, t_00, t_11, if_true, if_false, ite_not, not_false_eq_true, not_true_eq_false, Int.reduceEq, Int.reduceLT, Int.reduceLE, Int.reduceNeg, Nat.reduceEqDiff, Bool.false_eq_true, k3, k4]
          rw [s3]
          exact H_pull hZ h1
end ZL
