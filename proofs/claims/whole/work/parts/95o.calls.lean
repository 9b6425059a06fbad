/-! THE TWO SIDES, 84: calls on both sides: mates, ofWire -/
theorem zsm_sn {f : Int → Int} : ∀ (k : Nat) (i : Int), zsm f i (k + 1) = zsm f i k + f (i + k) := by
  intro k
  induction k with
  | zero =>
    intro i
    show f i + 0 = 0 + f (i + ((0 : Nat) : Int))
    rw [show i + ((0 : Nat) : Int) = i by omega]
    omega
  | succ k ih =>
    intro i
    show f i + zsm f (i + 1) (k + 1) = f i + zsm f (i + 1) k + f (i + ((k + 1 : Nat) : Int))
    rw [ih, show i + 1 + (k : Int) = i + ((k + 1 : Nat) : Int) by omega]
    omega
theorem zsm_ad {f g : Int → Int} : ∀ (k : Nat) (i : Int), zsm (fun j => f j + g j) i k = zsm f i k + zsm g i k := by
  intro k
  induction k with
  | zero => intro i; rfl
  | succ k ih =>
    intro i
    show f i + g i + zsm (fun j => f j + g j) (i + 1) k = f i + zsm f (i + 1) k + (g i + zsm g (i + 1) k)
    rw [ih]
    omega
theorem zpair {g : Int → Int → Int} : ∀ c : Nat, zsm (fun a => zsm (g a) (a + 1) ((c : Int) - (a + 1)).toNat) 0 c = zsm (fun h => zsm (fun a => g a h) 0 h.toNat) 0 c := by
  intro c
  induction c with
  | zero => rfl
  | succ c ih =>
    rw [zsm_sn, zsm_sn, ← ih, Int.zero_add]
    have e0 : (((c + 1 : Nat) : Int) - ((c : Int) + 1)).toNat = 0 := by omega
    rw [e0]
    have e1 : zsm (fun a => zsm (g a) (a + 1) (((c + 1 : Nat) : Int) - (a + 1)).toNat) 0 c = zsm (fun a => zsm (g a) (a + 1) ((c : Int) - (a + 1)).toNat + g a c) 0 c := zsm_congr _ _ (fun a a0 a1 => by
      show zsm (g a) (a + 1) (((c + 1 : Nat) : Int) - (a + 1)).toNat = zsm (g a) (a + 1) ((c : Int) - (a + 1)).toNat + g a c
      rw [show (((c + 1 : Nat) : Int) - (a + 1)).toNat = ((c : Int) - (a + 1)).toNat + 1 by omega, zsm_sn, show a + 1 + ((((c : Int) - (a + 1)).toNat : Nat) : Int) = c by omega])
    rw [e1, zsm_ad, show ((c : Int)).toNat = c by omega]
    show _ + zsm (fun a => g a c) 0 c + 0 = _
    omega
section ZK
variable {Y : zLy} {n s : Nat} {X : zX} {G : Nat × Nat} {t p q r u z : Int}
theorem k_mates (hY : wY Y n) (hI : iAll t Y.2.2.2.2 X) (hp : -2147483648 ≤ p ∧ p < 2147483648) (hq : -2147483648 ≤ q ∧ q < 2147483648) : zcal [(0, 1), (1, 2), (2, 3)] t Y n s X (fun W => ev_ G 48 0 [.ref (wA Y 13 0), .int (zJ p), .int (zJ q), zU, zU] [] W) (fun a W => ev_ G 52 0 [.ref a, .int (zJ p), .int (zJ q), zU, zU, zU, zU] [] W) := by
  have hF := wY_F hY
  have h13 := hF.2.1
  have hIw := hF.1
  obtain ⟨hn, hn4⟩ := wY_n hY
  obtain ⟨h1, h2, h3, h4, h5, h6, h7, h8, h9, h10, h11, h12⟩ := id hI
  have h6' := hF.2.2.2.1
  have hQ1 := hY.2.2.1
  obtain ⟨c1, c2, c3, c4, c5⟩ := id h2
  have hre : ∀ (X1 X0 : zX), wu X1 444 0 0 = X0 → (∀ f ∈ ([405, 1007, 1008, 1009] : List Int), X1 f = X f) → ∀ (Z : zLy) (m r' : Nat), wM Z → _ := fun X1 X0 h0 g Z m r' hM => m_mates (G := G) (n := m) (s := r') (X := X1) (Y := Z) (p := p) (q := q) hM h0 (by rw [← h0, wu_ne (by decide), g 405 (by decide), c1]; exact hQ1) (fun c k0 k1 => by
    rw [← h0, wu_ne (by decide), wu_ne (by decide), wu_ne (by decide), g 1007 (by decide), g 1008 (by decide), g 1009 (by decide)]
    have := c2 c k0 k1
    omega) hp hq
  by_cases g1 : (0 ≤ p ∧ p < Y.2.2.2.2 0 1) ∧ (0 ≤ q ∧ q < Y.2.2.2.2 0 1)
  · obtain ⟨g11, g12⟩ := id g1
    have hVp : wV Y 4 p := hF.2.2.2.2.2.2.2.2.2.1 p g11.1 g11.2
    have hVq : wV Y 4 q := hF.2.2.2.2.2.2.2.2.2.1 q g12.1 g12.2
    have hcp := c_connectorAt (G := G) (n := n) (s := s) (X := X) hF g11.1 g11.2
    have hcq := c_connectorAt (G := G) (n := n) (s := s) (X := X) hF g12.1 g12.2
    have dp := c3 p g11.1 g11.2
    have dq := c3 q g12.1 g12.2
    have rp := c2 p g11.1 (by omega)
    have rq := c2 q g12.1 (by omega)
    by_cases g2 : p = q
    · refine zcal_e 1 2 hI hY (by decide) (by decide) ?_ (fun Z m r' hM => ?_)
      · show ev_ G 48 0 _ [] _ = _
        rw [q_X11_mates_0, k13 h13, hcp, t_R, k13 h13, hcq, t_R, if_pos (by rw [g2]), l_0, q_X11_mates_23, c_cAr0, t_Ve, t_x, t_w]
      · have := (hre X _ rfl (fun _ _ => rfl) Z m r' hM).2.1
        rw [wu_ne (by decide), c1] at this
        exact this g1 g2
    · have hs0 : ev_ G 48 0 [.ref (wA Y 13 0), .int (zJ p), .int (zJ q), zU, zU] [] (wd Y n s X) = ev_ G 48 23 [.ref (wA Y 13 0), .int (zJ p), .int (zJ q), .ref (wA Y 4 p), .ref (wA Y 4 q)] [.int (zJ 1)] (wd Y n s X) := by
        have hne : ¬zJ p = zJ q := by
          rw [zJ_eq hp.1 hp.2 hq.1 hq.2]
          exact g2
        rw [q_X11_mates_0, k13 h13, hcp, t_R, k13 h13, hcq, t_R, if_neg hne, l_1]
      have hft := c_fits (G := G) (n := n) (s := s) (X := X) hVp hVq (fun a ha => by omega)
      by_cases g3 : (X 1007 p = X 1007 q ∧ X 1008 p = X 1008 q) ∧ X 1009 p = -1 ∧ X 1009 q = -1
      · obtain ⟨g31, g32, g33⟩ := id g3
        have hs1 : ev_ G 48 23 [.ref (wA Y 13 0), .int (zJ p), .int (zJ q), .ref (wA Y 4 p), .ref (wA Y 4 q)] [.int (zJ 1)] (wd Y n s X) = ev_ G 48 57 [.ref (wA Y 13 0), .int (zJ p), .int (zJ q), .ref (wA Y 4 p), .ref (wA Y 4 q)] [.int (zJ 1)] (wd Y n s X) := by
          rw [q_X11_mates_23, c_cAr1, t_V, k4 hVp, hft, t_I, dp.2.1, dp.2.2.1, dq.2.1, dq.2.2.1, zB_1 g31, e_1, g4_3 hVp, t_b, dp.2.2.2, g32, if_pos (show zJ (-1) = -1 from rfl), g4_3 hVq, t_b, dq.2.2.2, g33, if_pos (show zJ (-1) = -1 from rfl), l_1]
        generalize hX1 : wu (wu X 83 p q) 83 q p = X1
        have s1 : zsame [83] X X1 := by
          rw [← hX1]
          exact same_u (by decide) (same_u (by decide) same_r)
        generalize hX0 : wu X1 444 0 0 = X0
        generalize hX2 : wu (wu X0 1009 p q) 1009 q p = X2
        have s0 : zsame [83, 444, 1009] X X2 := by
          rw [← hX2, ← hX0]
          exact same_u (by decide) (same_u (by decide) (same_u (by decide) (same_m s1 (by decide))))
        have y83 : ∀ k, X2 83 k = if k = q then p else if k = p then q else X 83 k := fun k => by
          rw [← hX2, ← hX0, ← hX1]
          simp (disch := decide) only [wu_ne, wu_v]
        have x83 : ∀ k, X1 83 k = if k = q then p else if k = p then q else X 83 k := fun k => by
          rw [← hX1]
          simp (disch := decide) only [wu_v]
        have y1009 : ∀ k, X2 1009 k = if k = q then p else if k = p then q else X 1009 k := fun k => by
          rw [← hX2, ← hX0, ← hX1]
          simp (disch := decide) only [wu_ne, wu_v]
        have hC : iC Y.2.2.2.2 X2 := by
          unfold iC
          rw [s0 405 (by decide), s0 80 (by decide), s0 81 (by decide), s0 82 (by decide), s0 1006 (by decide), s0 1007 (by decide), s0 1008 (by decide)]
          refine ⟨c1, fun c k0 k1 => ?_, fun c k0 k1 => ?_, fun c k0 k1 => ?_, fun c k0 k1 k2 => ?_⟩
          · have := c2 c k0 k1
            refine ⟨this.1, this.2.1, this.2.2.1, ?_⟩
            rw [y1009]
            split
            · omega
            · split
              · omega
              · exact this.2.2.2
          · have := c3 c k0 k1
            rw [y83, y1009, this.2.2.2]
            exact ⟨this.1, this.2.1, this.2.2.1, rfl⟩
          · rw [y1009, if_neg (by omega), if_neg (by omega)]
            exact c4 c k0 k1
          · rw [y83] at k2 ⊢
            by_cases hc : c = q
            · rw [if_pos hc, y83, if_neg g2, if_pos rfl]
              omega
            · rw [if_neg hc] at k2 ⊢
              by_cases hc2 : c = p
              · rw [if_pos hc2, y83, if_pos rfl]
                omega
              · rw [if_neg hc2] at k2 ⊢
                have := c5 c k0 k1 k2
                have n1 : X 83 c ≠ q := fun e => by
                  have e2 := this.2.2.1
                  rw [e, dq.2.2.2, g33] at e2
                  omega
                have n2 : X 83 c ≠ p := fun e => by
                  have e2 := this.2.2.1
                  rw [e, dp.2.2.2, g32] at e2
                  omega
                rw [y83, if_neg n1, if_neg n2]
                exact this
        have hpr := c_pairs (G := G) (n := n) (s := s) (X := X1) hF (by omega) (fun c k0 k1 => by
          have e := hC.2.1 c k0 (by omega)
          have e3 := hC.2.2.1 c k0 k1
          rw [s0 80 (by decide), s0 81 (by decide), s0 82 (by decide), s0 1006 (by decide), s0 1007 (by decide), s0 1008 (by decide), y83, ← x83] at e3
          rw [s0 1006 (by decide), s0 1007 (by decide), s0 1008 (by decide)] at e
          rw [s1 81 (by decide), s1 82 (by decide)]
          omega)
        have hpp : zsm (zprs X1 (Y.2.2.2.2 0 1)) 0 (Y.2.2.2.2 0 1).toNat = 0 + zsm (zprm X2) 0 (Y.2.2.2.2 0 1).toNat := by
          have hz := zpair (g := zpr1 X1) (Y.2.2.2.2 0 1).toNat
          rw [show (((Y.2.2.2.2 0 1).toNat : Nat) : Int) = Y.2.2.2.2 0 1 by omega] at hz
          rw [Int.zero_add]
          refine Eq.trans hz ?_
          refine zsm_congr _ _ (fun h k0 k1 => ?_)
          show zsm (fun a => zpr1 X1 a h) 0 h.toNat = zprm X2 h
          unfold zprm
          refine zsm_congr _ _ (fun a a0 a1 => ?_)
          show zpr1 X1 a h = zpr2 X2 h a
          unfold zpr1 zpr2
          have ea := c3 a a0 (by omega)
          have eh := c3 h k0 (by omega)
          have e83a := y83 a
          have e83h := y83 h
          have ema := (hC.2.2.1 a a0 (by omega)).2.2.2
          have emh := (hC.2.2.1 h k0 (by omega)).2.2.2
          have hsym : X2 83 a = h ↔ X2 83 h = a := by
            constructor
            · intro e
              have := hC.2.2.2.2 a a0 (by omega) (by omega)
              rw [e] at this
              exact this.2.2.1
            · intro e
              have := hC.2.2.2.2 h k0 (by omega) (by omega)
              rw [e] at this
              exact this.2.2.1
          have x83a : X1 83 a = X2 83 a := by rw [x83, y83]
          rw [s1 81 (by decide), s1 82 (by decide), s0 1007 (by decide), s0 1008 (by decide), x83a, ← emh, ea.2.1, ea.2.2.1, eh.2.1, eh.2.2.1]
          by_cases k : (X 1007 a = X 1007 h ∧ X 1008 a = X 1008 h) ∧ X2 83 a ≠ h
          · have k' : (X 1007 h = X 1007 a ∧ X 1008 h = X 1008 a) ∧ X2 83 h ≠ a := ⟨⟨k.1.1.symm, k.1.2.symm⟩, fun e => k.2 (hsym.mpr e)⟩
            rw [zB_1 k, zB_1 k']
          · have k' : ¬((X 1007 h = X 1007 a ∧ X 1008 h = X 1008 a) ∧ X2 83 h ≠ a) := fun e => k ⟨⟨e.1.1.symm, e.1.2.symm⟩, fun e2 => e.2 (hsym.mp e2)⟩
            rw [zB_0 k, zB_0 k']
        rw [hpp] at hpr
        refine zcal_0 (X1 := X1) (X2 := X2) (0 + zsm (zprm X2) 0 (Y.2.2.2.2 0 1).toNat) hY ?_ (fun Z m r' hM => ?_) ?_ ?_
        · show ev_ G 48 0 _ [] _ = _
          rw [hs0, hs1, q_X11_mates_57, c_cSt1, t_V, p4_3 hVp hIw, t_b, p4_3 hVq hIw, t_b, hX1, g13_0 h13, t_b, k6 h6', hpr, t_I]
        · have := (hre X1 X0 hX0 (same_g s1 (by decide)) Z m r' hM).2.2.2
          have e : ∀ f, f ≠ 444 → f ≠ 83 → X0 f = X f := fun f k1 k2 => by
            funext j
            rw [← hX0, wu_ne k1, ← hX1, wu_ne k2, wu_ne k2]
          rw [e 405 (by decide) (by decide), e 1007 (by decide) (by decide), e 1008 (by decide) (by decide), e 1009 (by decide) (by decide), c1, hX2] at this
          exact this g1 g2 g3
        · rw [← hX2, wu_ne (by decide), wu_ne (by decide), ← hX0, wu_eq]
        · refine ⟨iB_c h1 (same_g s0 (by decide)) rfl, ?_, iT_c h3 (same_g s0 (by decide)) rfl, iW_c h4 (same_g s0 (by decide)) (fun _ _ _ => rfl) hn, iF_c h5 (same_g s0 (by decide)), iO_c h6 (same_g s0 (by decide)), iD_c h7 (same_g s0 (by decide)) (by omega), iR_c h8 (same_g s0 (by decide)) rfl, iM_c h9 (same_g s0 (by decide)), iV_c h10 (same_g s0 (by decide)), iH_c h11 (same_g s0 (by decide)), iS_c h12 (same_g s0 (by decide)) rfl rfl hn4⟩
          exact hC
      · refine zcal_e 2 3 hI hY (by decide) (by decide) ?_ (fun Z m r' hM => ?_)
        · have hs1 : ev_ G 48 23 [.ref (wA Y 13 0), .int (zJ p), .int (zJ q), .ref (wA Y 4 p), .ref (wA Y 4 q)] [.int (zJ 1)] (wd Y n s X) = ev_ G 48 57 [.ref (wA Y 13 0), .int (zJ p), .int (zJ q), .ref (wA Y 4 p), .ref (wA Y 4 q)] [.int (zJ 0)] (wd Y n s X) := by
            rw [q_X11_mates_23, c_cAr1, t_V, k4 hVp, hft, t_I, dp.2.1, dp.2.2.1, dq.2.1, dq.2.2.1, l_0, l_1, zJ_neg]
            by_cases g31 : X 1007 p = X 1007 q ∧ X 1008 p = X 1008 q
            · rw [zB_1 g31, e_3, g4_3 hVp, t_b, dp.2.2.2, g4_3 hVq, t_b, dq.2.2.2]
              by_cases g32 : X 1009 p = -1
              · have g33 : ¬X 1009 q = -1 := fun g => g3 ⟨g31, g32, g⟩
                rw [if_pos (by rw [g32]), if_neg (by rw [zJ_eq (by omega) (by omega) (by omega) (by omega)]; exact g33)]
              · rw [if_neg (by rw [zJ_eq (by omega) (by omega) (by omega) (by omega)]; exact g32)]
            · rw [zB_0 g31, e_2]
          show ev_ G 48 0 _ [] _ = _
          rw [hs0, hs1, q_X11_mates_57, c_cSt0, t_Ve, t_x, t_w]
        · have := (hre X _ rfl (fun _ _ => rfl) Z m r' hM).2.2.1
          rw [wu_ne (by decide), wu_ne (by decide), wu_ne (by decide), wu_ne (by decide), c1] at this
          exact this g1 g2 g3
  · refine zcal_e 0 1 hI hY (by decide) (by decide) ?_ (fun Z m r' hM => ?_)
    · show ev_ G 48 0 _ [] _ = _
      by_cases g11 : 0 ≤ p ∧ p < Y.2.2.2.2 0 1
      · have g12 : ¬(0 ≤ q ∧ q < Y.2.2.2.2 0 1) := fun g => g1 ⟨g11, g⟩
        rw [q_X11_mates_0, k13 h13, c_connectorAt hF g11.1 g11.2, t_R, k13 h13, c_connectorAt_no hF hq.1 hq.2 g12, t_Re, t_x]
      · rw [q_X11_mates_0, k13 h13, c_connectorAt_no hF hp.1 hp.2 g11, t_Re, t_x]
    · have := (hre X _ rfl (fun _ _ => rfl) Z m r' hM).1
      rw [wu_ne (by decide), c1] at this
      exact this g1
theorem c_bundleAt {w : Int} (hF : wF Y) (hw : 0 ≤ w ∧ w < Y.2.2.2.2 0 2) (hn : Y.2.2.2.2 0 2 ≤ 24) (hq : -2147483648 ≤ q ∧ q < 2147483648) (hz : 0 ≤ Y.2.2.2.2 0 (5 + w) ∧ Y.2.2.2.2 0 (5 + w) ≤ 16) (hb : ∀ j, 0 ≤ j → j < Y.2.2.2.2 0 (5 + w) → (0 ≤ Y.2.2.2.2 4 (16 * w + j) ∧ Y.2.2.2.2 4 (16 * w + j) < Y.2.2.2.2 0 0) ∧ X 60 (Y.2.2.2.2 4 (16 * w + j)) = Y.2.2.2.2 4 (16 * w + j)) : ev_ G 84 0 [.ref (wA Y 12 w), .int (zJ q)] [] (wd Y n s X) = some (.inl (some (.int (zJ (if 0 ≤ q ∧ q < Y.2.2.2.2 0 (5 + w) then Y.2.2.2.2 4 (16 * w + q) else -1)))), wd Y n s X) := by
  obtain ⟨hV, hL⟩ := hF.2.2.2.2.2.2.2.2.2.2.1 w hw.1 hw.2
  have g7 : zgR 11 7 (wd Y n s X) (wA Y 12 w) = some (wA Y 1 (5 + w)) := g12_7 hV
  rw [q_X10_bundleAt_0]
  by_cases h0 : q < 0
  · rw [if_pos (by rw [l_0, zJ_lt hq.1 hq.2 (by decide) (by decide)]; exact h0), if_neg (by omega)]
    rfl
  · rw [if_neg (by rw [l_0, zJ_lt hq.1 hq.2 (by decide) (by decide)]; exact h0), g7, t_b, k1 hL.1, c_size hL, t_I]
    by_cases h1 : Y.2.2.2.2 0 (5 + w) ≤ q
    · rw [if_pos (by rw [zJ_le (by omega) (by omega) hq.1 hq.2]; exact h1), if_neg (by omega)]
      rfl
    · have hbq := hb q (by omega) (by omega)
      have hV3 : wV Y 3 (Y.2.2.2.2 4 (16 * w + q)) := hF.2.2.2.2.2.2.2.2.1 _ hbq.1.1 hbq.1.2
      have hwe : wel Y (5 + w) q = wA Y 3 (Y.2.2.2.2 4 (16 * w + q)) := by
        unfold wel
        rw [if_neg (by omega), if_neg (by omega), if_neg (by omega), if_neg (by omega), if_neg (by omega), if_pos (by omega), show 16 * (5 + w - 5) + q = 16 * w + q by omega]
      rw [if_neg (by rw [zJ_le (by omega) (by omega) hq.1 hq.2]; exact h1), g7, t_b, k1 hL.1, c_get hL (by omega) (by omega), t_R, hwe, k3 hV3, g3_0 hV3, t_b, hbq.2, if_pos (by omega)]
theorem k_ofWire (hY : wY Y n) (hI : iAll t Y.2.2.2.2 X) (hp : -2147483648 ≤ p ∧ p < 2147483648) (hq : -2147483648 ≤ q ∧ q < 2147483648) : zcal [(0, 1)] t Y n s X (fun W => ev_ G 85 0 [.ref (wA Y 13 0), .int (zJ p), .int (zJ q), zU] [] W) (fun a W => ev_ G 87 0 [.ref a, .int (zJ p), .int (zJ q)] [] W) := by
  have hF := wY_F hY
  have h13 := hF.2.1
  have hIw := hF.1
  obtain ⟨hn, hn4⟩ := wY_n hY
  obtain ⟨h1, h2, h3, h4, h5, h6, h7, h8, h9, h10, h11, h12⟩ := id hI
  have hQ2 := hY.2.2.2.1
  have hQ0 := hY.2.1
  have z1 := h4.1
  by_cases g1 : 0 ≤ p ∧ p < Y.2.2.2.2 0 2
  · obtain ⟨hV, hL⟩ := hF.2.2.2.2.2.2.2.2.2.2.1 p g1.1 g1.2
    have hat := c_wireAt (G := G) (n := n) (s := s) (X := X) hF g1.1 g1.2
    have hw1 := h4.2.2.2 p g1.1 g1.2
    obtain ⟨a1, a2, a3, a4, a5, a6⟩ := id hw1
    have hwo := h4.2.1 p g1.1 (by omega)
    by_cases g2 : -1 ≤ q
    · have hg2 : ¬q < -1 := by omega
      have hs0 : ev_ G 85 0 [.ref (wA Y 13 0), .int (zJ p), .int (zJ q), zU] [] (wd Y n s X) = ev_ G 85 16 [.ref (wA Y 13 0), .int (zJ p), .int (zJ q), .ref (wA Y 12 p)] [.int (zJ 1)] (wd Y n s X) := by
        rw [q_X11_ofWire_0, k13 h13, hat, t_R, l_1, zJ_neg, if_neg (by rw [zJ_lt hq.1 hq.2 (by decide) (by decide)]; exact hg2)]
      have hX0 : zsame [444] X (wu X 444 0 0) := same_444 rfl
      have hB0 : iB Y.2.2.2.2 (wu X 444 0 0) := iB_c h1 (same_g hX0 (by decide)) rfl
      have hW0 : iW Y.2.2.2.2 (wu X 444 0 0) := iW_c h4 (same_g hX0 (by decide)) (fun _ _ _ => rfl) hn
      have hln : zln1 (wu X 444 0 0) p = if X 246 p = 0 then X 245 p else 0 := by
        have := zln_e hB0 (hW0.2.2.2 p g1.1 g1.2)
        rw [hX0 246 (by decide), hX0 245 (by decide)] at this
        exact this
      refine zcal_0 (X1 := X) (X2 := wu X 444 0 0) (if q = -1 then (if X 246 p = 0 then X 245 p else 0) else if X 1011 p = 0 ∧ q < X 1014 p then X 1015 (16 * p + q) else -1) hY ?_ (fun Z m r' hM => ?_) wu_eq (iAll_e hI hn hn4)
      · have hba := c_bundleAt (G := G) (n := n) (s := s) (X := X) hF g1 hn hq (by omega) (fun j j0 j1 => by
          have := a5 j j0 j1
          exact ⟨this.2, (h1.2 _ this.2.1 this.2.2).1.1⟩)
        show ev_ G 85 0 _ [] _ = _
        rw [hs0, q_X11_ofWire_16, c_cIx1, t_V, l_1, zJ_neg]
        by_cases k1 : q = -1
        · rw [if_pos (by rw [k1]), g12_6 hV, t_b, if_pos k1]
          by_cases k2' : X 246 p = 0
          · rw [k2', if_pos (show zJ 0 = 0 from rfl), g12_5 hV, t_b, if_pos rfl]
          · rw [if_neg (by rw [l_0, zJ_eq (by omega) (by omega) (by omega) (by omega)]; exact k2'), if_neg k2', l_0]
        · rw [if_neg (by rw [zJ_eq hq.1 hq.2 (by decide) (by decide)]; exact k1), g12_6 hV, t_b, if_neg k1]
          by_cases k2' : X 246 p = 0
          · rw [k2', if_pos (show zJ 0 = 0 from rfl), k12 hV, hba, t_I]
            by_cases k3' : q < Y.2.2.2.2 0 (5 + p)
            · rw [if_pos ⟨by omega, k3'⟩, if_pos ⟨by omega, by omega⟩, (a5 q (by omega) k3').1]
            · rw [if_neg (by omega), if_neg (by omega)]
          · rw [if_neg (by rw [l_0, zJ_eq (by omega) (by omega) (by omega) (by omega)]; exact k2'), if_neg (by omega)]
      · have h0 := m_ofWire0 (G := G) (n := m) (s := r') (X := X) (Y := Z) (p := p) (q := q) hM (by rw [z1]; exact hQ2) hp hq
        rw [z1, if_pos ⟨g1, g2⟩] at h0
        have h2' := m_ofWireG (G := G) (n := m) (s := r') (X := X) (Y := Z) (p := p) (q := q) hM rfl (iW_m hW0 hQ2 hQ0.2) (by rw [hX0 410 (by decide), z1]; exact g1) ⟨g2, hq.2⟩
        rw [hln, hX0 1011 (by decide), hX0 1014 (by decide), hX0 1015 (by decide)] at h2'
        exact h0.trans h2'
    · refine zcal_e 0 1 hI hY (by decide) (by decide) ?_ (fun Z m r' hM => ?_)
      · show ev_ G 85 0 _ [] _ = _
        rw [q_X11_ofWire_0, k13 h13, hat, t_R, l_1, zJ_neg, if_pos (by rw [zJ_lt hq.1 hq.2 (by decide) (by decide)]; omega), l_0, q_X11_ofWire_16, c_cIx0, t_Ve, t_x, t_w]
      · have h0 := m_ofWire0 (G := G) (n := m) (s := r') (X := X) (Y := Z) (p := p) (q := q) hM (by rw [z1]; exact hQ2) hp hq
        rw [if_neg (fun g => g2 g.2)] at h0
        exact h0.trans (m_ofWireE hM (by decide))
  · refine zcal_e 0 1 hI hY (by decide) (by decide) ?_ (fun Z m r' hM => ?_)
    · show ev_ G 85 0 _ [] _ = _
      rw [q_X11_ofWire_0, k13 h13, c_wireAt_no hF hp.1 hp.2 g1, t_Re, t_x]
    · have h0 := m_ofWire0 (G := G) (n := m) (s := r') (X := X) (Y := Z) (p := p) (q := q) hM (by rw [z1]; exact hQ2) hp hq
      rw [z1, if_neg (fun g => g1 g.1)] at h0
      exact h0.trans (m_ofWireE hM (by decide))
end ZK
