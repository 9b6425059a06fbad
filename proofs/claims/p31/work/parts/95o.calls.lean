/-! THE TWO SIDES, 84: calls on both sides: mates, ofWire -/
theorem zsm_sn {f : Int → Int} : ∀ (k : Nat) (i : Int), zsm f i (k + 1) = zsm f i k + f (i + k) := by
  intro k
  induction k with
  | zero =>
    intro i
    show f i + 0 = 0 + f (i + ((0 : Nat) : Int))
    rw [show i + ((0 : Nat) : Int) = i by omega]
    omega
  | succ k ih =>
    intro i
    show f i + zsm f (i + 1) (k + 1) = f i + zsm f (i + 1) k + f (i + ((k + 1 : Nat) : Int))
    rw [ih, show i + 1 + (k : Int) = i + ((k + 1 : Nat) : Int) by omega]
    omega
theorem zsm_ad {f g : Int → Int} : ∀ (k : Nat) (i : Int), zsm (fun j => f j + g j) i k = zsm f i k + zsm g i k := by
  intro k
  induction k with
  | zero => intro i; rfl
  | succ k ih =>
    intro i
    show f i + g i + zsm (fun j => f j + g j) (i + 1) k = f i + zsm f (i + 1) k + (g i + zsm g (i + 1) k)
    rw [ih]
    omega
theorem zpair {g : Int → Int → Int} : ∀ c : Nat, zsm (fun a => zsm (g a) (a + 1) ((c : Int) - (a + 1)).toNat) 0 c = zsm (fun h => zsm (fun a => g a h) 0 h.toNat) 0 c := by
  intro c
  induction c with
  | zero => rfl
  | succ c ih =>
    rw [zsm_sn, zsm_sn, ← ih, Int.zero_add]
    have e0 : (((c + 1 : Nat) : Int) - ((c : Int) + 1)).toNat = 0 := by omega
    rw [e0]
    have e1 : zsm (fun a => zsm (g a) (a + 1) (((c + 1 : Nat) : Int) - (a + 1)).toNat) 0 c = zsm (fun a => zsm (g a) (a + 1) ((c : Int) - (a + 1)).toNat + g a c) 0 c := zsm_congr _ _ (fun a a0 a1 => by
      show zsm (g a) (a + 1) (((c + 1 : Nat) : Int) - (a + 1)).toNat = zsm (g a) (a + 1) ((c : Int) - (a + 1)).toNat + g a c
      rw [show (((c + 1 : Nat) : Int) - (a + 1)).toNat = ((c : Int) - (a + 1)).toNat + 1 by omega, zsm_sn, show a + 1 + ((((c : Int) - (a + 1)).toNat : Nat) : Int) = c by omega])
    rw [e1, zsm_ad, show ((c : Int)).toNat = c by omega]
    show _ + zsm (fun a => g a c) 0 c + 0 = _
    omega
section ZK
variable {Y : zLy} {n s : Nat} {X : zX} {G : Nat × Nat} {t p q r u z : Int}
theorem k_mates (hY : wY Y n) (hI : iAll t Y.2.2.2.2 X) (hp : -2147483648 ≤ p ∧ p < 2147483648) (hq : -2147483648 ≤ q ∧ q < 2147483648) : zcal [(0, 1), (1, 2), (2, 3)] t Y n s X (fun W => ev_ G 48 0 [.ref (wA Y 13 0), .int (zJ p), .int (zJ q), zU, zU] [] W) (dMates X p q) := by
  have hF := wY_F hY
  have h13 := hF.2.1
  have hIw := hF.1
  obtain ⟨hn, hn4⟩ := wY_n hY
  obtain ⟨h1, h2, h3, h4, h5, h6, h7, h8, h9, h10, h11, h12⟩ := id hI
  have h6' := hF.2.2.2.1
  have hQ1 := hY.2.2.1
  obtain ⟨c1, c2, c3, c4, c5⟩ := id h2
  by_cases g1 : (0 ≤ p ∧ p < Y.2.2.2.2 0 1) ∧ (0 ≤ q ∧ q < Y.2.2.2.2 0 1)
  · obtain ⟨g11, g12⟩ := id g1
    have hVp : wV Y 4 p := hF.2.2.2.2.2.2.2.2.2.1 p g11.1 g11.2
    have hVq : wV Y 4 q := hF.2.2.2.2.2.2.2.2.2.1 q g12.1 g12.2
    have hcp := c_connectorAt (G := G) (n := n) (s := s) (X := X) hF g11.1 g11.2
    have hcq := c_connectorAt (G := G) (n := n) (s := s) (X := X) hF g12.1 g12.2
    have dp := c3 p g11.1 g11.2
    have dq := c3 q g12.1 g12.2
    have rp := c2 p g11.1 (by omega)
    have rq := c2 q g12.1 (by omega)
    by_cases g2 : p = q
    · refine zcal_e 1 2 hI hY (by decide) (by decide) ?_ (by first | exact zd1_1 (by first | assumption | omega) (same_u (by decide) same_r) | exact zd2_1 (by first | assumption | omega) (same_u (by decide) same_r) | exact zd2_2 (by first | assumption | omega) (by first | assumption | omega) (same_u (by decide) same_r) | exact zd3_1 (by first | assumption | omega) (same_u (by decide) same_r) | exact zd3_2 (by first | assumption | omega) (by first | assumption | omega) (same_u (by decide) same_r) | exact zd3_3 (by first | assumption | omega) (by first | assumption | omega) (by first | assumption | omega) (same_u (by decide) same_r))
      · show ev_ G 48 0 _ [] _ = _
        rw [q_X11_mates_0, k13 h13, hcp, t_R, k13 h13, hcq, t_R, if_pos (by rw [g2]), l_0, q_X11_mates_23, c_cAr0, t_Ve, t_x, t_w]
    · have hs0 : ev_ G 48 0 [.ref (wA Y 13 0), .int (zJ p), .int (zJ q), zU, zU] [] (wd Y n s X) = ev_ G 48 23 [.ref (wA Y 13 0), .int (zJ p), .int (zJ q), .ref (wA Y 4 p), .ref (wA Y 4 q)] [.int (zJ 1)] (wd Y n s X) := by
        have hne : ¬zJ p = zJ q := by
          rw [zJ_eq hp.1 hp.2 hq.1 hq.2]
          exact g2
        rw [q_X11_mates_0, k13 h13, hcp, t_R, k13 h13, hcq, t_R, if_neg hne, l_1]
      have hft := c_fits (G := G) (n := n) (s := s) (X := X) hVp hVq (fun a ha => by omega)
      by_cases g3 : (X 1007 p = X 1007 q ∧ X 1008 p = X 1008 q) ∧ X 1009 p = -1 ∧ X 1009 q = -1
      · obtain ⟨g31, g32, g33⟩ := id g3
        have hs1 : ev_ G 48 23 [.ref (wA Y 13 0), .int (zJ p), .int (zJ q), .ref (wA Y 4 p), .ref (wA Y 4 q)] [.int (zJ 1)] (wd Y n s X) = ev_ G 48 57 [.ref (wA Y 13 0), .int (zJ p), .int (zJ q), .ref (wA Y 4 p), .ref (wA Y 4 q)] [.int (zJ 1)] (wd Y n s X) := by
          rw [q_X11_mates_23, c_cAr1, t_V, k4 hVp, hft, t_I, dp.2.1, dp.2.2.1, dq.2.1, dq.2.2.1, zB_1 g31, e_1, g4_3 hVp, t_b, dp.2.2.2, g32, if_pos (show zJ (-1) = -1 from rfl), g4_3 hVq, t_b, dq.2.2.2, g33, if_pos (show zJ (-1) = -1 from rfl), l_1]
        generalize hX1 : wu (wu X 83 p q) 83 q p = X1
        have s1 : zsame [83] X X1 := by
          rw [← hX1]
          exact same_u (by decide) (same_u (by decide) same_r)
        generalize hX0 : wu X1 444 0 0 = X0
        generalize hX2 : wu (wu X0 1009 p q) 1009 q p = X2
        have s0 : zsame [83, 444, 1009] X X2 := by
          rw [← hX2, ← hX0]
          exact same_u (by decide) (same_u (by decide) (same_u (by decide) (same_m s1 (by decide))))
        have y83 : ∀ k, X2 83 k = if k = q then p else if k = p then q else X 83 k := fun k => by
          rw [← hX2, ← hX0, ← hX1]
          simp (disch := decide) only [wu_ne, wu_v]
        have x83 : ∀ k, X1 83 k = if k = q then p else if k = p then q else X 83 k := fun k => by
          rw [← hX1]
          simp (disch := decide) only [wu_v]
        have y1009 : ∀ k, X2 1009 k = if k = q then p else if k = p then q else X 1009 k := fun k => by
          rw [← hX2, ← hX0, ← hX1]
          simp (disch := decide) only [wu_ne, wu_v]
        have hC : iC Y.2.2.2.2 X2 := by
          unfold iC
          rw [s0 405 (by decide), s0 80 (by decide), s0 81 (by decide), s0 82 (by decide), s0 1006 (by decide), s0 1007 (by decide), s0 1008 (by decide)]
          refine ⟨c1, fun c k0 k1 => ?_, fun c k0 k1 => ?_, fun c k0 k1 => ?_, fun c k0 k1 k2 => ?_⟩
          · have := c2 c k0 k1
            refine ⟨this.1, this.2.1, this.2.2.1, ?_⟩
            rw [y1009]
            split
            · omega
            · split
              · omega
              · exact this.2.2.2
          · have := c3 c k0 k1
            rw [y83, y1009, this.2.2.2]
            exact ⟨this.1, this.2.1, this.2.2.1, rfl⟩
          · rw [y1009, if_neg (by omega), if_neg (by omega)]
            exact c4 c k0 k1
          · rw [y83] at k2 ⊢
            by_cases hc : c = q
            · rw [if_pos hc, y83, if_neg g2, if_pos rfl]
              omega
            · rw [if_neg hc] at k2 ⊢
              by_cases hc2 : c = p
              · rw [if_pos hc2, y83, if_pos rfl]
                omega
              · rw [if_neg hc2] at k2 ⊢
                have := c5 c k0 k1 k2
                have n1 : X 83 c ≠ q := fun e => by
                  have e2 := this.2.2.1
                  rw [e, dq.2.2.2, g33] at e2
                  omega
                have n2 : X 83 c ≠ p := fun e => by
                  have e2 := this.2.2.1
                  rw [e, dp.2.2.2, g32] at e2
                  omega
                rw [y83, if_neg n1, if_neg n2]
                exact this
        have hpr := c_pairs (G := G) (n := n) (s := s) (X := X1) hF (by omega) (fun c k0 k1 => by
          have e := hC.2.1 c k0 (by omega)
          have e3 := hC.2.2.1 c k0 k1
          rw [s0 80 (by decide), s0 81 (by decide), s0 82 (by decide), s0 1006 (by decide), s0 1007 (by decide), s0 1008 (by decide), y83, ← x83] at e3
          rw [s0 1006 (by decide), s0 1007 (by decide), s0 1008 (by decide)] at e
          rw [s1 81 (by decide), s1 82 (by decide)]
          omega)
        have hpp : zsm (zprs X1 (Y.2.2.2.2 0 1)) 0 (Y.2.2.2.2 0 1).toNat = 0 + zsm (zprm X2) 0 (Y.2.2.2.2 0 1).toNat := by
          have hz := zpair (g := zpr1 X1) (Y.2.2.2.2 0 1).toNat
          rw [show (((Y.2.2.2.2 0 1).toNat : Nat) : Int) = Y.2.2.2.2 0 1 by omega] at hz
          rw [Int.zero_add]
          refine Eq.trans hz ?_
          refine zsm_congr _ _ (fun h k0 k1 => ?_)
          show zsm (fun a => zpr1 X1 a h) 0 h.toNat = zprm X2 h
          unfold zprm
          refine zsm_congr _ _ (fun a a0 a1 => ?_)
          show zpr1 X1 a h = zpr2 X2 h a
          unfold zpr1 zpr2
          have ea := c3 a a0 (by omega)
          have eh := c3 h k0 (by omega)
          have e83a := y83 a
          have e83h := y83 h
          have ema := (hC.2.2.1 a a0 (by omega)).2.2.2
          have emh := (hC.2.2.1 h k0 (by omega)).2.2.2
          have hsym : X2 83 a = h ↔ X2 83 h = a := by
            constructor
            · intro e
              have := hC.2.2.2.2 a a0 (by omega) (by omega)
              rw [e] at this
              exact this.2.2.1
            · intro e
              have := hC.2.2.2.2 h k0 (by omega) (by omega)
              rw [e] at this
              exact this.2.2.1
          have x83a : X1 83 a = X2 83 a := by rw [x83, y83]
          rw [s1 81 (by decide), s1 82 (by decide), s0 1007 (by decide), s0 1008 (by decide), x83a, ← emh, ea.2.1, ea.2.2.1, eh.2.1, eh.2.2.1]
          by_cases k : (X 1007 a = X 1007 h ∧ X 1008 a = X 1008 h) ∧ X2 83 a ≠ h
          · have k' : (X 1007 h = X 1007 a ∧ X 1008 h = X 1008 a) ∧ X2 83 h ≠ a := ⟨⟨k.1.1.symm, k.1.2.symm⟩, fun e => k.2 (hsym.mpr e)⟩
            rw [zB_1 k, zB_1 k']
          · have k' : ¬((X 1007 h = X 1007 a ∧ X 1008 h = X 1008 a) ∧ X2 83 h ≠ a) := fun e => k ⟨⟨e.1.1.symm, e.1.2.symm⟩, fun e2 => e.2 (hsym.mp e2)⟩
            rw [zB_0 k, zB_0 k']
        rw [hpp] at hpr
        refine zcal_0 (X1 := X1) (X2 := X2) (0 + zsm (zprm X2) 0 (Y.2.2.2.2 0 1).toNat) hY ?_ (zd3_0 (by rw [c1]; exact g1) g2 g3 ⟨by rw [c1, ← hpp]; exact zmt_e (fun a a0 a1 => by
          have e := hC.2.2.1 a a0 (by omega)
          rw [s0 81 (by decide), s0 82 (by decide), s0 1007 (by decide), s0 1008 (by decide)] at e
          rw [s1 81 (by decide), s1 82 (by decide)]
          exact ⟨e.2.1, e.2.2.1, by rw [x83, ← y83]; exact e.2.2.2⟩), y1009, s0⟩) ?_ ?_ (fun f hf => funext fun j => by (try rw [← hX2]); (try rw [← hX0]); simp (disch := omega) only [wu_ne]) (fun f hf => by first | exact s0 f (by simp only [List.mem_cons, List.not_mem_nil, or_false, not_or]; omega) | (funext j; (try rw [← hX2]); (try rw [← hX0]); (try rw [← hX1]); (try rw [← hXB]); (try rw [← hXA]); simp (disch := omega) only [wu_ne]))
        · show ev_ G 48 0 _ [] _ = _
          rw [hs0, hs1, q_X11_mates_57, c_cSt1, t_V, p4_3 hVp hIw, t_b, p4_3 hVq hIw, t_b, hX1, g13_0 h13, t_b, k6 h6', hpr, t_I]
        · rw [← hX2, wu_ne (by decide), wu_ne (by decide), ← hX0, wu_eq]
        · refine ⟨iB_c h1 (same_g s0 (by decide)) rfl, ?_, iT_c h3 (same_g s0 (by decide)) rfl, iW_c h4 (same_g s0 (by decide)) (fun _ _ _ => rfl) hn, iF_c h5 (same_g s0 (by decide)), iO_c h6 (same_g s0 (by decide)), iD_c h7 (same_g s0 (by decide)) (by omega), iR_c h8 (same_g s0 (by decide)) rfl, iM_c h9 (same_g s0 (by decide)), iV_c h10 (same_g s0 (by decide)), iH_c h11 (same_g s0 (by decide)), iS_c h12 (same_g s0 (by decide)) rfl rfl hn4⟩
          exact hC
      · refine zcal_e 2 3 hI hY (by decide) (by decide) ?_ (by first | exact zd1_1 (by first | assumption | omega) (same_u (by decide) same_r) | exact zd2_1 (by first | assumption | omega) (same_u (by decide) same_r) | exact zd2_2 (by first | assumption | omega) (by first | assumption | omega) (same_u (by decide) same_r) | exact zd3_1 (by first | assumption | omega) (same_u (by decide) same_r) | exact zd3_2 (by first | assumption | omega) (by first | assumption | omega) (same_u (by decide) same_r) | exact zd3_3 (by first | assumption | omega) (by first | assumption | omega) (by first | assumption | omega) (same_u (by decide) same_r))
        · have hs1 : ev_ G 48 23 [.ref (wA Y 13 0), .int (zJ p), .int (zJ q), .ref (wA Y 4 p), .ref (wA Y 4 q)] [.int (zJ 1)] (wd Y n s X) = ev_ G 48 57 [.ref (wA Y 13 0), .int (zJ p), .int (zJ q), .ref (wA Y 4 p), .ref (wA Y 4 q)] [.int (zJ 0)] (wd Y n s X) := by
            rw [q_X11_mates_23, c_cAr1, t_V, k4 hVp, hft, t_I, dp.2.1, dp.2.2.1, dq.2.1, dq.2.2.1, l_0, l_1, zJ_neg]
            by_cases g31 : X 1007 p = X 1007 q ∧ X 1008 p = X 1008 q
            · rw [zB_1 g31, e_3, g4_3 hVp, t_b, dp.2.2.2, g4_3 hVq, t_b, dq.2.2.2]
              by_cases g32 : X 1009 p = -1
              · have g33 : ¬X 1009 q = -1 := fun g => g3 ⟨g31, g32, g⟩
                rw [if_pos (by rw [g32]), if_neg (by rw [zJ_eq (by omega) (by omega) (by omega) (by omega)]; exact g33)]
              · rw [if_neg (by rw [zJ_eq (by omega) (by omega) (by omega) (by omega)]; exact g32)]
            · rw [zB_0 g31, e_2]
          show ev_ G 48 0 _ [] _ = _
          rw [hs0, hs1, q_X11_mates_57, c_cSt0, t_Ve, t_x, t_w]
  · refine zcal_e 0 1 hI hY (by decide) (by decide) ?_ (by first | exact zd1_1 (by first | assumption | omega) (same_u (by decide) same_r) | exact zd2_1 (by first | assumption | omega) (same_u (by decide) same_r) | exact zd2_2 (by first | assumption | omega) (by first | assumption | omega) (same_u (by decide) same_r) | exact zd3_1 (by first | assumption | omega) (same_u (by decide) same_r) | exact zd3_2 (by first | assumption | omega) (by first | assumption | omega) (same_u (by decide) same_r) | exact zd3_3 (by first | assumption | omega) (by first | assumption | omega) (by first | assumption | omega) (same_u (by decide) same_r))
    · show ev_ G 48 0 _ [] _ = _
      by_cases g11 : 0 ≤ p ∧ p < Y.2.2.2.2 0 1
      · have g12 : ¬(0 ≤ q ∧ q < Y.2.2.2.2 0 1) := fun g => g1 ⟨g11, g⟩
        rw [q_X11_mates_0, k13 h13, c_connectorAt hF g11.1 g11.2, t_R, k13 h13, c_connectorAt_no hF hq.1 hq.2 g12, t_Re, t_x]
      · rw [q_X11_mates_0, k13 h13, c_connectorAt_no hF hp.1 hp.2 g11, t_Re, t_x]
theorem c_bundleAt {w : Int} (hF : wF Y) (hw : 0 ≤ w ∧ w < Y.2.2.2.2 0 2) (hn : Y.2.2.2.2 0 2 ≤ 24) (hq : -2147483648 ≤ q ∧ q < 2147483648) (hz : 0 ≤ Y.2.2.2.2 0 (5 + w) ∧ Y.2.2.2.2 0 (5 + w) ≤ 16) (hb : ∀ j, 0 ≤ j → j < Y.2.2.2.2 0 (5 + w) → (0 ≤ Y.2.2.2.2 4 (16 * w + j) ∧ Y.2.2.2.2 4 (16 * w + j) < Y.2.2.2.2 0 0) ∧ X 60 (Y.2.2.2.2 4 (16 * w + j)) = Y.2.2.2.2 4 (16 * w + j)) : ev_ G 84 0 [.ref (wA Y 12 w), .int (zJ q)] [] (wd Y n s X) = some (.inl (some (.int (zJ (if 0 ≤ q ∧ q < Y.2.2.2.2 0 (5 + w) then Y.2.2.2.2 4 (16 * w + q) else -1)))), wd Y n s X) := by
  obtain ⟨hV, hL⟩ := hF.2.2.2.2.2.2.2.2.2.2.1 w hw.1 hw.2
  have g7 : zgR 11 7 (wd Y n s X) (wA Y 12 w) = some (wA Y 1 (5 + w)) := g12_7 hV
  rw [q_X10_bundleAt_0]
  by_cases h0 : q < 0
  · rw [if_pos (by rw [l_0, zJ_lt hq.1 hq.2 (by decide) (by decide)]; exact h0), if_neg (by omega)]
    rfl
  · rw [if_neg (by rw [l_0, zJ_lt hq.1 hq.2 (by decide) (by decide)]; exact h0), g7, t_b, k1 hL.1, c_size hL, t_I]
    by_cases h1 : Y.2.2.2.2 0 (5 + w) ≤ q
    · rw [if_pos (by rw [zJ_le (by omega) (by omega) hq.1 hq.2]; exact h1), if_neg (by omega)]
      rfl
    · have hbq := hb q (by omega) (by omega)
      have hV3 : wV Y 3 (Y.2.2.2.2 4 (16 * w + q)) := hF.2.2.2.2.2.2.2.2.1 _ hbq.1.1 hbq.1.2
      have hwe : wel Y (5 + w) q = wA Y 3 (Y.2.2.2.2 4 (16 * w + q)) := by
        unfold wel
        rw [if_neg (by omega), if_neg (by omega), if_neg (by omega), if_neg (by omega), if_neg (by omega), if_pos (by omega), show 16 * (5 + w - 5) + q = 16 * w + q by omega]
      rw [if_neg (by rw [zJ_le (by omega) (by omega) hq.1 hq.2]; exact h1), g7, t_b, k1 hL.1, c_get hL (by omega) (by omega), t_R, hwe, k3 hV3, g3_0 hV3, t_b, hbq.2, if_pos (by omega)]
end ZK
