/-! THE TWO SIDES, 90: calls on both sides: wire -/
section ZK
variable {Y : zLy} {n s : Nat} {X : zX} {G : Nat × Nat} {t p q r u z : Int}
theorem k_wire (hY : wY Y n) (hG : Y.1 = G.1) (hI : iAll t Y.2.2.2.2 X) (hp : -2147483648 ≤ p ∧ p < 2147483648) (hq : -2147483648 ≤ q ∧ q < 2147483648) (hr : -2147483648 ≤ r ∧ r < 2147483648) (hu : -2147483648 ≤ u ∧ u < 2147483648) (hz : -2147483648 ≤ z ∧ z < 2147483648) : zcal [(0, 1), (1, 2), (2, 3)] t Y n s X (fun W => ev_ G 67 0 [.ref (wA Y 13 0), .int (zJ p), .int (zJ q), .int (zJ r), .int (zJ u), .int (zJ z), zU, zU] [] W) (dWire X p q r u z) := by
  have hF := wY_F hY
  have h13 := hF.2.1
  have hIw := hF.1
  obtain ⟨hn, hn4⟩ := wY_n hY
  obtain ⟨h1, h2, h3, h4, h5, h6, h7, h8, h9, h10, h11, h12⟩ := id hI
  have h6' := hF.2.2.2.1
  have hQ0 := hY.2.1
  have hQ1 := hY.2.2.1
  have hQ2 := hY.2.2.2.1
  have hl2 := hF.2.2.2.2.2.2.2.1 2 (by decide) (by decide)
  obtain ⟨c1, c2, c3, c4, c5⟩ := id h2
  obtain ⟨t1, t2, t3⟩ := id h3
  obtain ⟨w1, w2, w3, w4⟩ := id h4
  generalize hnb : Y.2.2.2.2 0 0 = nb at hQ0
  generalize hgl : X 1006 r = goal
  have hbs : zbs X nb := fun i i0 i1 => by
    have e := h1.2 i i0 (by omega)
    rw [e.1.2.1, e.1.2.2.1, e.1.2.2.2.1, e.1.2.2.2.2]
    exact ⟨⟨rfl, rfl, rfl, rfl⟩, e.2⟩
  have hcvr : ∀ c, 0 ≤ c → c < 8 → (0 ≤ X 1007 c ∧ X 1007 c ≤ 8) ∧ (0 ≤ X 1006 c ∧ X 1006 c < 8) := fun c k0 k1 => ⟨(c2 c k0 k1).2.1, (c2 c k0 k1).1⟩
  have hwk : ∀ w, 0 ≤ w → w < Y.2.2.2.2 0 2 → (0 ≤ X 1011 w ∧ X 1011 w ≤ 1) ∧ (0 ≤ X 1012 (2 * w) ∧ X 1012 (2 * w) < 100) ∧ (0 ≤ X 1012 (2 * w + 1) ∧ X 1012 (2 * w + 1) < 100) := fun w k0 k1 => by
    obtain ⟨a1, a2, a3, a4⟩ := w4 w k0 k1
    have := w2 w k0 (by omega)
    omega
  -- indices
  by_cases g1 : zcv X p q ∧ zcv X r u
  · obtain ⟨g11, g12⟩ := id g1
    have gp : 0 ≤ p ∧ p < Y.2.2.2.2 0 1 := by rw [← c1]; exact g11.1
    have gr : 0 ≤ r ∧ r < Y.2.2.2.2 0 1 := by rw [← c1]; exact g12.1
    have dp := c3 p gp.1 gp.2
    have dr := c3 r gr.1 gr.2
    have rp := c2 p gp.1 (by omega)
    have rr := c2 r gr.1 (by omega)
    have gq : 0 ≤ q ∧ q < X 1007 p := g11.2
    have gu : 0 ≤ u ∧ u < X 1007 r := g12.2
    have hVp : wV Y 4 p := hF.2.2.2.2.2.2.2.2.2.1 p gp.1 gp.2
    have hVr : wV Y 4 r := hF.2.2.2.2.2.2.2.2.2.1 r gr.1 gr.2
    have hs0 := c_wire0 (G := G) (n := n) (s := s) (X := X) (q := q) (u := u) (z := z) hF gp gr hq hu (by omega) (by omega) 1 (by rw [if_pos]; omega)
    by_cases g2 : p ≠ r ∧ (0 ≤ z ∧ z ≤ 7)
    · have hs1 := c_wire44 (G := G) (Y := Y) (n := n) (s := s) (X := X) (a6 := wA Y 4 p) (a7 := wA Y 4 r) (x1 := wA Y 13 0) (x2 := zJ q) (x4 := zJ u) hp hr hz 1 (by rw [if_pos g2])
      have hg8 : 0 ≤ goal ∧ goal < 8 := by rw [← hgl]; exact rr.1
      have hgX : X 80 r = goal := by rw [dr.1]; exact hgl
      obtain ⟨hJ, h7w, hstw⟩ := zways (X := X) hbs hQ0.1 hg8 h5.2
      have hfp := hJ.2.1 (X 1006 p) rp.1.1 rp.1.2
      have hfb := hJ.2.2 (X 1006 p)
      have hway : zcst X nb goal (X 80 p) < 1000000 ↔ zcsm X nb goal (X 1006 p) < 1000000000 := by
        rw [dp.1, hfp]
        unfold zph
        by_cases q1 : zcsm X nb goal (X 1006 p) = 1000000000
        · rw [if_pos q1]
          constructor <;> intro k <;> omega
        · have := (zfin hJ.1 (v := X 1006 p) rp.1 (by omega)).1
          rw [if_neg q1]
          constructor <;> intro k <;> omega
      have hbits : ∀ c v, 0 ≤ c → c < Y.2.2.2.2 0 1 → 0 ≤ v → v < 8 → (zbt (X 84 c) v = false ↔ ¬zty X (8 * c + v)) := by
        intro c v k0 k1 v0 v1
        rw [← t2 c v k0 k1 v0 v1]
        cases zbt (X 84 c) v <;> simp
      have hbp := hbits p q gp.1 gp.2 gq.1 (by omega)
      have hbr := hbits r u gr.1 gr.2 gu.1 (by omega)
      have hBu : wBu Y X := by
        unfold wBu
        rw [hnb]
        refine ⟨hQ0.2, fun i i0 i1 => ?_⟩
        have := h1.2 i i0 (by rw [hnb]; exact i1)
        exact this.2
      have hcb := zcst_b (X := X) (goal := goal) hF hBu h5.1
      rw [hnb] at hcb
      -- what a refused call leaves
      have hIe : ∀ X2 : zX, zsame [500, 1016, 444] X X2 → zcb (X2 500) → X2 1016 = zcsm X nb goal → iAll (t + 1) Y.2.2.2.2 X2 := by
        intro X2 s0 k1 k2
        refine ⟨iB_c h1 (same_g s0 (by decide)) rfl, iC_c h2 (same_g s0 (by decide)) rfl, iT_c h3 (same_g s0 (by decide)) rfl, iW_c h4 (same_g s0 (by decide)) (fun _ _ _ => rfl) hn, ?_, iO_c h6 (same_g s0 (by decide)), iD_c h7 (same_g s0 (by decide)) (by omega), iR_c h8 (same_g s0 (by decide)) rfl, iM_c h9 (same_g s0 (by decide)), iV_c h10 (same_g s0 (by decide)), iH_c h11 (same_g s0 (by decide)), iS_c h12 (same_g s0 (by decide)) rfl rfl hn4⟩
        unfold iF
        rw [k2]
        exact ⟨k1, hJ.2.2⟩
      by_cases g3 : zbt (X 84 p) q = false ∧ zbt (X 84 r) u = false
      · have hs2 := c_wire67 (G := G) (n := n) (s := s) (X := X) (q := q) (u := u) (x1 := wA Y 13 0) (x2 := zJ p) (x4 := zJ r) (x5 := zJ z) hVp hVr 1 (by rw [if_pos g3])
        have hnt1 := hbp.mp g3.1
        have hnt2 := hbr.mp g3.2
        by_cases g4 : Y.2.2.2.2 0 2 < 24
        · have hhw := c_hasWay (G := G) (n := n) (s := s) (X := X) (fr := X 80 p) (goal := goal) hF hBu hg8 (by rw [dp.1]; exact rp.1) h5.1
          rw [hnb] at hhw
          generalize hXh : zrw X (zcst X nb goal) = Xh at hhw
          have xhf : ∀ f, f ≠ 500 → Xh f = X f := fun f hf => by
            rw [← hXh]
            funext j
            exact zrw_f hf
          have xh5 : Xh 500 = zcst X nb goal := by
            rw [← hXh]
            funext j
            exact zrw_c
          have hs3 : ev_ G 67 94 [.ref (wA Y 13 0), .int (zJ p), .int (zJ q), .int (zJ r), .int (zJ u), .int (zJ z), .ref (wA Y 4 p), .ref (wA Y 4 r)] [.int (zJ 1)] (wd Y n s X) = ev_ G 67 137 [.ref (wA Y 13 0), .int (zJ p), .int (zJ q), .int (zJ r), .int (zJ u), .int (zJ z), .ref (wA Y 4 p), .ref (wA Y 4 r)] [.int (zJ (zB (zcst X nb goal (X 80 p) < 1000000)))] (wd Y n s Xh) := by
            rw [q_X11_wire_94, c_cSt1, t_V, g13_0 h13, t_b, g6_2 h6', t_b, k1 hl2.1, c_size hl2, t_I, if_neg (by rw [l_24, zJ_le (by decide) (by decide) (by omega) (by omega)]; omega), g13_0 h13, t_b, g4_0 hVp, t_b, g4_0 hVr, t_b, k6 h6', hgX, hhw, t_I]
            by_cases k : zcst X nb goal (X 80 p) < 1000000
            · rw [zB_1 k, e_1, l_1]
            · rw [zB_0 k, e_0, l_0]
          by_cases g5 : zcst X nb goal (X 80 p) < 1000000
          · have g6 := hway.mp g5
            have hno : ¬(zty X (8 * p + q) ∨ zty X (8 * r + u) ∨ 1000000000 ≤ zcsm X nb goal (X 1006 p) ∨ Y.2.2.2.2 0 2 = 24) := by
              rintro (k | k | k | k)
              · exact hnt1 k
              · exact hnt2 k
              · omega
              · omega
            generalize hw0 : Y.2.2.2.2 0 2 = w at g4 hQ2 w1 w3 w4 hwk
            -- the class's steps
            generalize hX1 : wu (wu (wu (wu (wu (wu Xh 20 (5 + w) 0) 241 w q) 243 w u) 244 w z) 245 w 0) 246 w 0 = X1
            generalize hX2 : wu (wu X1 84 p (zbO (X1 84 p) q)) 84 r (zbO (wu X1 84 p (zbO (X1 84 p) q) 84 r) u) = X2
            have x1f : ∀ f, f ∉ ([20, 241, 243, 244, 245, 246] : List Int) → X1 f = Xh f := by
              intro f hf
              simp only [List.mem_cons, List.not_mem_nil, or_false, not_or] at hf
              obtain ⟨k1, k2, k3, k4, k5, k6⟩ := hf
              rw [← hX1]
              funext j
              rw [wu_ne k6, wu_ne k5, wu_ne k4, wu_ne k3, wu_ne k2, wu_ne k1]
            have x2f : ∀ f, f ∉ ([20, 84, 241, 243, 244, 245, 246] : List Int) → X2 f = Xh f := by
              intro f hf
              simp only [List.mem_cons, List.not_mem_nil, or_false, not_or] at hf
              obtain ⟨k1, k7, k2, k3, k4, k5, k6⟩ := hf
              rw [← x1f f (by simp only [List.mem_cons, List.not_mem_nil, or_false, not_or]; exact ⟨k1, k2, k3, k4, k5, k6⟩), ← hX2]
              funext j
              rw [wu_ne k7, wu_ne k7]
            have x2x : ∀ f, f ∉ ([20, 84, 241, 243, 244, 245, 246, 500] : List Int) → X2 f = X f := by
              intro f hf
              simp only [List.mem_cons, List.not_mem_nil, or_false, not_or] at hf
              obtain ⟨k1, k7, k2, k3, k4, k5, k6, k8⟩ := hf
              rw [x2f f (by simp only [List.mem_cons, List.not_mem_nil, or_false, not_or]; exact ⟨k1, k7, k2, k3, k4, k5, k6⟩), xhf f k8]
            have hbs2 : zbs X2 nb := by
              unfold zbs
              rw [x2x 1001 (by decide), x2x 1002 (by decide), x2x 1003 (by decide), x2x 1004 (by decide), x2x 61 (by decide), x2x 62 (by decide), x2x 63 (by decide), x2x 64 (by decide)]
              exact hbs
            obtain ⟨hJ2, h72, hst2⟩ := zways (X := X2) (nb := nb) (goal := goal) hbs2 hQ0.1 hg8 (by rw [x2x 1016 (by decide)]; exact h5.2)
            have hcsm : zcsm X2 nb goal = zcsm X nb goal := zcsm_c (x2x 1001 (by decide)) (x2x 1002 (by decide)) (x2x 1003 (by decide)) (x2x 1004 (by decide)) (x2x 1016 (by decide)) nb goal
            rw [hcsm] at hJ2 h72 hst2
            generalize hX3 : zrw X2 (zcst X2 nb goal) = X3
            have x3f : ∀ f, f ≠ 500 → X3 f = X2 f := fun f hf => by
              rw [← hX3]
              funext j
              exact zrw_f hf
            have x35 : X3 500 = zcst X2 nb goal := by
              rw [← hX3]
              funext j
              exact zrw_c
            have hm7 := (zfin hJ2.1 (v := X 1006 p) rp.1 g6).1
            obtain ⟨v, b, hv0, hzcc, hzch⟩ := zchain hbs2 hQ0.1 hg8 hJ2 h72 hst2 (zcsm X nb goal (X 1006 p) % 100).toNat (X 1006 p) rp.1 g6 (by omega)
            generalize hLm : (zcsm X nb goal (X 1006 p) % 100).toNat = L at hzcc hzch
            have hL7 := hzcc.1
            have hzcc3 : zcc X3 (X3 500) nb goal v b L := by
              unfold zcc zon at hzcc ⊢
              rw [x35, x3f 61 (by decide), x3f 62 (by decide), x3f 63 (by decide), x3f 64 (by decide)]
              exact hzcc
            obtain ⟨Y', n', s', e1, e2, e3, e4, e5, e6, e7, e8, e9, e10, e11, e12⟩ := c_wireR (G := G) (n := n) (s := s) (X := Xh) (w := w) (c := p) (d := r) (p := q) (q := u) (r := z) (x1 := zJ p) (x3 := zJ r) (v := v) (b := b) (L := L) hY hG hw0 g4 gp gr hnb hX1 hX2 hX3 hg8 (by rw [xhf 80 (by decide)]; exact hgX) (by rw [xhf 80 (by decide), hv0]; exact dp.1) (by
              rw [xhf 61 (by decide), xhf 62 (by decide), xhf 63 (by decide)]
              have := hBu.2
              rw [hnb] at this
              exact this) (by rw [xh5]; exact hcb) hzcc3
            generalize hXE : wu (zlay w b L 0 X3) 20 2 (zlay w b L 0 X3 20 2 + 1) = XE at e1
            have xef : ∀ f, f ≠ 20 → f ≠ 64 → f ≠ 245 → XE f = X3 f := by
              intro f k1 k2 k3
              rw [← hXE]
              funext j
              rw [wu_ne k1, zlay_f k1 k2 k3]
            have xeX : ∀ f, f ∉ ([20, 64, 84, 241, 243, 244, 245, 246, 500] : List Int) → XE f = X f := by
              intro f hf
              simp only [List.mem_cons, List.not_mem_nil, or_false, not_or] at hf
              obtain ⟨k1, k9, k7, k2, k3, k4, k5, k6, k8⟩ := hf
              rw [xef f k1 k9 k5, x3f f k8, x2x f (by simp only [List.mem_cons, List.not_mem_nil, or_false, not_or]; exact ⟨k1, k7, k2, k3, k4, k5, k6, k8⟩)]
            -- the reference's steps
            generalize hXF : zrf XE (zcsm X nb goal) = XF
            have xff : ∀ f, f ≠ 1016 → XF f = XE f := fun f hf => by
              rw [← hXF]
              funext j
              exact zrf_f hf
            have xf16 : XF 1016 = zcsm X nb goal := by
              rw [← hXF]
              funext j
              exact zrf_c
            generalize hXG : wu XF 444 0 0 = XG
            have xgf : ∀ f, f ≠ 444 → XG f = XF f := fun f hf => by
              rw [← hXG]
              funext j
              exact wu_ne hf
            have xgX : ∀ f, f ∉ ([20, 64, 84, 241, 243, 244, 245, 246, 500, 1016, 444] : List Int) → XG f = X f := by
              intro f hf
              simp only [List.mem_cons, List.not_mem_nil, or_false, not_or] at hf
              obtain ⟨k1, k9, k7, k2, k3, k4, k5, k6, k8, k10, k11⟩ := hf
              rw [xgf f k11, xff f k10, xeX f (by simp only [List.mem_cons, List.not_mem_nil, or_false, not_or]; exact ⟨k1, k9, k7, k2, k3, k4, k5, k6, k8⟩)]
            generalize hXI : wu (wu (wu XG 1012 (2 * w) (8 * p + q)) 1012 (2 * w + 1) (8 * r + u)) 1013 w z = XI
            generalize hXJ : zwy w b 0 L (wu XI 1014 w 0) = XJ
            generalize hXK : zrm2 (-1) (16 * w) L XJ = XK
            generalize hXZ : wu XK 410 0 (w + 1) = XZ
            have g410 : XG 410 0 = w := by rw [xgX 410 (by decide), w1]
            have zi : ∀ f, f ≠ 1012 → f ≠ 1013 → XI f = XG f := by
              intro f k1 k2
              rw [← hXI]
              funext j
              rw [wu_ne k2, wu_ne k1, wu_ne k1]
            have zj : ∀ f, f ≠ 1014 → f ≠ 1015 → XJ f = XI f := by
              intro f k1 k2
              rw [← hXJ]
              funext j
              rw [zwy_f _ _ _ _ _ (fun g => k2 g.1) (fun g => k1 g.1), wu_ne k1]
            have zk : ∀ f, f ≠ 1004 → XK f = XJ f := by
              intro f k1
              rw [← hXK]
              funext j
              exact zrm2_f k1 _ _ _
            have zzf : ∀ f, f ≠ 410 → XZ f = XK f := by
              intro f k1
              rw [← hXZ]
              funext j
              exact wu_ne k1
            have zG : ∀ f, f ∉ ([410, 1004, 1012, 1013, 1014, 1015] : List Int) → XZ f = XG f := by
              intro f hf
              simp only [List.mem_cons, List.not_mem_nil, or_false, not_or] at hf
              obtain ⟨k1, k2, k3, k4, k5, k6⟩ := hf
              rw [zzf f k1, zk f k2, zj f k5 k6, zi f k3 k4]
            have s0 : zsame [20, 64, 84, 241, 243, 244, 245, 246, 500, 1016, 444, 410, 1004, 1012, 1013, 1014, 1015] X XZ := by
              intro f hf
              simp only [List.mem_cons, List.not_mem_nil, or_false, not_or] at hf
              obtain ⟨k1, k2, k3, k4, k5, k6, k7, k8, k9, k10, k11, k12, k13, k14, k15, k16, k17⟩ := hf
              rw [zG f (by simp only [List.mem_cons, List.not_mem_nil, or_false, not_or]; exact ⟨k12, k13, k14, k15, k16, k17⟩), xgX f (by simp only [List.mem_cons, List.not_mem_nil, or_false, not_or]; exact ⟨k1, k2, k3, k4, k5, k6, k7, k8, k9, k10, k11⟩)]
            have zE : ∀ f, f ∉ ([410, 1004, 1012, 1013, 1014, 1015, 1016, 444] : List Int) → XZ f = XE f := by
              intro f hf
              simp only [List.mem_cons, List.not_mem_nil, or_false, not_or] at hf
              obtain ⟨k1, k2, k3, k4, k5, k6, k7, k8⟩ := hf
              rw [zG f (by simp only [List.mem_cons, List.not_mem_nil, or_false, not_or]; exact ⟨k1, k2, k3, k4, k5, k6⟩), xgf f k8, xff f k7]
            have v410 : XZ 410 0 = w + 1 := by rw [← hXZ, wu_eq]
            have v1012 : ∀ k, XZ 1012 k = if k = 2 * w + 1 then 8 * r + u else if k = 2 * w then 8 * p + q else X 1012 k := by
              intro k
              rw [zzf 1012 (by decide), zk 1012 (by decide), zj 1012 (by decide) (by decide), ← hXI, wu_ne (by decide), wu_v, wu_v, xgX 1012 (by decide)]
            have v1013 : ∀ k, XZ 1013 k = if k = w then z else X 1013 k := by
              intro k
              rw [zzf 1013 (by decide), zk 1013 (by decide), zj 1013 (by decide) (by decide), ← hXI, wu_v, wu_ne (by decide), wu_ne (by decide), xgX 1013 (by decide)]
            have b1014 : wu XI 1014 w 0 1014 w = ((0 : Nat) : Int) := by rw [wu_eq]; rfl
            have v1014 : ∀ k, XZ 1014 k = if k = w then (L : Int) else X 1014 k := by
              intro k
              rw [zzf 1014 (by decide), zk 1014 (by decide), ← hXJ]
              by_cases hk : k = w
              · rw [if_pos hk, hk, zwy_m, b1014]
                omega
              · rw [if_neg hk, zwy_f _ _ _ _ _ (fun g => absurd g.1 (by decide)) (fun g => hk g.2), wu_ni hk, zi 1014 (by decide) (by decide), xgX 1014 (by decide)]
            have v1015 : ∀ j : Nat, j < L → XZ 1015 (16 * w + j) = b j := by
              intro j hj
              rw [zzf 1015 (by decide), zk 1015 (by decide), ← hXJ]
              exact zwy_b L 0 _ j b1014 (Nat.zero_le _) (by omega)
            have v1015o : ∀ k, ¬(16 * w ≤ k ∧ k < 16 * w + L) → XZ 1015 k = X 1015 k := by
              intro k hk
              rw [zzf 1015 (by decide), zk 1015 (by decide), ← hXJ, zwy_f _ _ _ _ _ (fun g => hk (by rw [b1014] at g; omega)) (fun g => absurd g.1 (by decide)), wu_ne (by decide), zi 1015 (by decide) (by decide), xgX 1015 (by decide)]
            have v64 : ∀ i, XZ 64 i = X 64 i - zsm (fun m => zB (b m.toNat = i)) 0 L := by
              intro i
              rw [zE 64 (by decide), ← hXE, wu_ne (by decide), zlay_r, x3f 64 (by decide), x2x 64 (by decide)]
              rfl
            have v1004 : ∀ i, XZ 1004 i = X 1004 i - zsm (fun m => zB (b m.toNat = i)) 0 L := by
              intro i
              rw [zzf 1004 (by decide), ← hXK, zrm2_v, zj 1004 (by decide) (by decide), zi 1004 (by decide) (by decide), xgX 1004 (by decide)]
              have : zsm (fun m => zB (XJ 1015 m = i)) (16 * w) L = zsm (fun m => zB (b m.toNat = i)) 0 L := by
                have e := zsm_sh (f := fun m => zB (XJ 1015 m = i)) (a := 16 * w) L 0
                rw [Int.add_zero] at e
                rw [← e]
                refine zsm_congr _ _ (fun j j0 j1 => ?_)
                show zB (XJ 1015 (16 * w + j) = i) = zB (b j.toNat = i)
                have hj : XJ 1015 (16 * w + j) = b j.toNat := by
                  have := zwy_b (w := w) (b := b) L 0 (wu XI 1014 w 0) j.toNat b1014 (Nat.zero_le _) (by omega)
                  rw [hXJ, show ((j.toNat : Nat) : Int) = j by omega] at this
                  exact this
                rw [hj]
              rw [this]
              omega
            have v245 : ∀ k, XZ 245 k = if k = w then zsm (fun m => X 63 (b m.toNat)) 0 L else X 245 k := by
              intro k
              rw [zE 245 (by decide), ← hXE, wu_ne (by decide), zlay_l, x3f 245 (by decide), x3f 63 (by decide), x2x 63 (by decide), ← hX2, wu_ne (by decide), wu_ne (by decide), ← hX1, wu_ne (by decide), wu_v]
              by_cases hk : k = w
              · rw [if_pos hk, if_pos hk, if_pos hk, Int.zero_add]
                rfl
              · rw [if_neg hk, if_neg hk, if_neg hk, wu_ne (by decide), wu_ne (by decide), wu_ne (by decide), wu_ne (by decide), xhf 245 (by decide)]
                omega
            have v3 : ∀ f, f ∉ ([20, 64, 245, 500, 410, 1004, 1012, 1013, 1014, 1015, 1016, 444] : List Int) → XZ f = X2 f := by
              intro f hf
              simp only [List.mem_cons, List.not_mem_nil, or_false, not_or] at hf
              obtain ⟨k1, k2, k3, k4, k5, k6, k7, k8, k9, k10, k11, k12⟩ := hf
              rw [zE f (by simp only [List.mem_cons, List.not_mem_nil, or_false, not_or]; exact ⟨k5, k6, k7, k8, k9, k10, k11, k12⟩), xef f k1 k2 k3, x3f f k4]
            have hx84 : ∀ k, X1 84 k = X 84 k := fun k => by rw [x1f 84 (by decide), xhf 84 (by decide)]
            have v84 : ∀ k, XZ 84 k = if k = r then zbO (X 84 r) u else if k = p then zbO (X 84 p) q else X 84 k := by
              intro k
              rw [v3 84 (by decide), ← hX2, wu_v, wu_v, wu_v, hx84, hx84, hx84, if_neg (Ne.symm g2.1)]
            have v241 : ∀ k, XZ 241 k = if k = w then q else X 241 k := by
              intro k
              rw [v3 241 (by decide), ← hX2, wu_ne (by decide), wu_ne (by decide), ← hX1]
              simp (disch := decide) only [wu_ne, wu_v]
              rw [xhf 241 (by decide)]
            have v243 : ∀ k, XZ 243 k = if k = w then u else X 243 k := by
              intro k
              rw [v3 243 (by decide), ← hX2, wu_ne (by decide), wu_ne (by decide), ← hX1]
              simp (disch := decide) only [wu_ne, wu_v]
              rw [xhf 243 (by decide)]
            have v244 : ∀ k, XZ 244 k = if k = w then z else X 244 k := by
              intro k
              rw [v3 244 (by decide), ← hX2, wu_ne (by decide), wu_ne (by decide), ← hX1]
              simp (disch := decide) only [wu_ne, wu_v]
              rw [xhf 244 (by decide)]
            have v246 : ∀ k, XZ 246 k = if k = w then 0 else X 246 k := by
              intro k
              rw [v3 246 (by decide), ← hX2, wu_ne (by decide), wu_ne (by decide), ← hX1]
              simp (disch := decide) only [wu_ne, wu_v]
              rw [xhf 246 (by decide)]
            have v500 : XZ 500 = zcst X2 nb goal := by
              rw [zE 500 (by decide), xef 500 (by decide) (by decide) (by decide), x35]
            have v1016 : XZ 1016 = zcsm X nb goal := by rw [zG 1016 (by decide), xgf 1016 (by decide), xf16]
            refine ⟨Y', n', s', XE, XZ, 0, w, .inl ⟨rfl, ?_⟩, (by
              have e4 : X 400 0 = nb := h1.1.trans hnb
              unfold dWire
              rw [e4, hgl, w1]
              exact zd3_0 ⟨g11, g12⟩ g2 (by rw [← hw0]; exact hno) ⟨rfl, v, b, L, hv0, hLm, zch_c (x2x 1001 (by decide)).symm (x2x 1002 (by decide)).symm (x2x 1003 (by decide)).symm (x2x 1004 (by decide)).symm hzch, fun j hj => (hzcc.2.2.2 j hj).2.2.1, v410, v1012, v1013, v1014, v1015, v1015o, v1004, v245, s0⟩), ?_, by omega, e2, e3, by omega, e5, by omega, ?_, (fun f hf => by first | exact zE f (by simp only [List.mem_cons, List.not_mem_nil, or_false, not_or]; omega) | (funext j; simp (disch := omega) only [wu_ne, zrf_f])), (fun f hf => by first | exact s0 f (by simp only [List.mem_cons, List.not_mem_nil, or_false, not_or]; omega) | (funext j; rw [wu_ne (by omega), zrf_f (by omega), xhf f (by omega)]) | (funext j; rw [wu_ne (by omega), zrf_f (by omega)]))⟩
            · show ev_ G 67 0 _ [] _ = _
              rw [hs0, hs1, hs2, hs3, zB_1 g5]
              exact e1
            · rw [← hXZ, wu_ne (by decide), ← hXK, zrm2_f (by decide), ← hXJ, zwy_f _ _ _ _ _ (fun g => absurd g.1 (by decide)) (fun g => absurd g.1 (by decide)), wu_ne (by decide), ← hXI, wu_ne (by decide), wu_ne (by decide), wu_ne (by decide), ← hXG, wu_eq]
            · -- the values behind the call
              have q0 : ∀ i, i ≠ 5 + w → i ≠ 2 → Y'.2.2.2.2 0 i = Y.2.2.2.2 0 i := fun i k1 k2 => e12 0 i (fun g => absurd g.1 (by decide)) (fun g => absurd g.1 (by decide)) (fun g => absurd g.1 (by decide)) (.inl ⟨k1, k2⟩)
              have q00 : Y'.2.2.2.2 0 0 = Y.2.2.2.2 0 0 := q0 0 (by omega) (by decide)
              have q01 : Y'.2.2.2.2 0 1 = Y.2.2.2.2 0 1 := q0 1 (by omega) (by decide)
              have hbr : ∀ j : Nat, j < L → 0 ≤ b j ∧ b j < nb := fun j hj => (hzcc.2.2.2 j hj).2.2.1
              refine ⟨?_, iC_c h2 (same_g s0 (by decide)) q01, ?_, ?_, ?_, iO_c h6 (same_g s0 (by decide)), iD_c h7 (same_g s0 (by decide)) (by omega), iR_c h8 (same_g s0 (by decide)) (q0 3 (by omega) (by decide)), iM_c h9 (same_g s0 (by decide)), iV_c h10 (same_g s0 (by decide)), iH_c h11 (same_g s0 (by decide)), iS_c h12 (same_g s0 (by decide)) (q0 4 (by omega) (by decide)) (q0 3 (by omega) (by decide)) hn4⟩
              · unfold iB
                rw [q00, s0 400 (by decide), s0 60 (by decide), s0 61 (by decide), s0 62 (by decide), s0 63 (by decide), s0 1001 (by decide), s0 1002 (by decide), s0 1003 (by decide)]
                refine ⟨h1.1, fun i i0 i1 => ?_⟩
                have e := h1.2 i i0 i1
                rw [v64, v1004, e.1.2.2.2.2]
                exact ⟨⟨e.1.1, e.1.2.1, e.1.2.2.1, e.1.2.2.2.1, rfl⟩, e.2⟩
              · have hz : ∀ a, zty XZ a ↔ (zty X a ∨ a = 8 * p + q ∨ a = 8 * r + u) := by
                  intro a
                  unfold zty ztk1
                  rw [v410, s0 1011 (by decide), w1]
                  constructor
                  · rintro ⟨w', k0, k1, k2, k3⟩
                    rw [v1012, v1012] at k3
                    by_cases hw : w' = w
                    · subst hw
                      rw [if_neg (by omega), if_pos rfl, if_pos rfl] at k3
                      omega
                    · rw [if_neg (by omega), if_neg (by omega), if_neg (by omega), if_neg (by omega)] at k3
                      exact .inl ⟨w', k0, by omega, k2, k3⟩
                  · rintro (⟨w', k0, k1, k2, k3⟩ | k | k)
                    · refine ⟨w', k0, by omega, k2, ?_⟩
                      rw [v1012, v1012, if_neg (by omega), if_neg (by omega), if_neg (by omega), if_neg (by omega)]
                      exact k3
                    · refine ⟨w, hQ2.1, by omega, w3 w (Int.le_refl _) g4, .inl ?_⟩
                      rw [v1012, if_neg (by omega), if_pos rfl]
                      exact k.symm
                    · refine ⟨w, hQ2.1, by omega, w3 w (Int.le_refl _) g4, .inr ?_⟩
                      rw [v1012, if_pos rfl]
                      exact k.symm
                have hr1 := t1 p gp.1 gp.2
                have hr2 := t1 r gr.1 gr.2
                have hq8 : 0 ≤ q ∧ q < 8 := by omega
                have hu8 : 0 ≤ u ∧ u < 8 := by omega
                unfold iT
                rw [q01]
                refine ⟨fun c' k0 k1 => ?_, fun c' v' k0 k1 v0 v1 => ?_, fun a x x' x0 x1 x0' x1' u1 u2 => ?_⟩
                · rw [v84]
                  split
                  · exact zbO_r hr2 hu8
                  · split
                    · exact zbO_r hr1 hq8
                    · exact t1 c' k0 k1
                · rw [v84, hz, ← t2 c' v' k0 k1 v0 v1]
                  by_cases k2 : c' = r
                  · subst k2
                    rw [if_pos rfl, zbO_b hr2 hu8 ⟨v0, v1⟩]
                    constructor
                    · rintro (k | k)
                      · exact .inr (.inr (by omega))
                      · exact .inl k
                    · rintro (k | k | k)
                      · exact .inr k
                      · have := g2.1
                        omega
                      · exact .inl (by omega)
                  · rw [if_neg k2]
                    by_cases k3 : c' = p
                    · subst k3
                      rw [if_pos rfl, zbO_b hr1 hq8 ⟨v0, v1⟩]
                      constructor
                      · rintro (k | k)
                        · exact .inr (.inl (by omega))
                        · exact .inl k
                      · rintro (k | k | k)
                        · exact .inr k
                        · exact .inl (by omega)
                        · omega
                    · rw [if_neg k3]
                      constructor
                      · exact .inl
                      · rintro (k | k | k)
                        · exact k
                        · omega
                        · omega
                · rw [v410] at x1 x1'
                  unfold ztk1 at u1 u2
                  rw [s0 1011 (by decide), v1012, v1012] at u1 u2
                  have hnew : ∀ y, 0 ≤ y → y < w → X 1011 y = 0 → ¬((X 1012 (2 * y) = a ∨ X 1012 (2 * y + 1) = a) ∧ (a = 8 * p + q ∨ a = 8 * r + u)) := by
                    rintro y y0 y1 y2 ⟨y3, y4 | y4⟩
                    · exact hnt1 ⟨y, y0, by rw [w1]; exact y1, y2, y4 ▸ y3⟩
                    · exact hnt2 ⟨y, y0, by rw [w1]; exact y1, y2, y4 ▸ y3⟩
                  by_cases k1 : x = w
                  · by_cases k2 : x' = w
                    · omega
                    · rw [if_neg (by omega), if_pos (by omega), if_pos (by omega)] at u1
                      rw [if_neg (by omega), if_neg (by omega), if_neg (by omega), if_neg (by omega)] at u2
                      exact absurd ⟨u2.2, by omega⟩ (hnew x' x0' (by omega) u2.1)
                  · rw [if_neg (by omega), if_neg (by omega), if_neg (by omega), if_neg (by omega)] at u1
                    by_cases k2 : x' = w
                    · rw [if_neg (by omega), if_pos (by omega), if_pos (by omega)] at u2
                      exact absurd ⟨u1.2, by omega⟩ (hnew x x0 (by omega) u1.1)
                    · rw [if_neg (by omega), if_neg (by omega), if_neg (by omega), if_neg (by omega)] at u2
                      exact t3 a x x' x0 (by rw [w1]; omega) x0' (by rw [w1]; omega) u1 u2
              · unfold iW
                rw [e7, v410, s0 1011 (by decide)]
                refine ⟨rfl, w2, fun x x0 x1 => w3 x (by omega) x1, fun x x0 x1 => ?_⟩
                unfold iW1
                rw [v241, v243, v244, v245, v246, v1012, v1012, v1013, v1014, s0 1011 (by decide), s0 63 (by decide), q00, q01]
                by_cases hx : x = w
                · subst hx
                  rw [if_pos rfl, if_pos rfl, if_pos rfl, if_pos rfl, if_pos rfl, if_pos rfl, if_pos rfl, if_pos rfl, if_pos rfl, if_neg (by omega), e8, e9, e10]
                  refine ⟨⟨(w3 x (Int.le_refl _) g4).symm, rfl, by omega⟩, ⟨rfl, rfl, by omega⟩, ⟨g2.1, gp.1, gp.2, gr.1, gr.2⟩, ⟨rfl, by omega, by omega⟩, fun j j0 j1 => ?_, ?_⟩
                  · have e := e11 j.toNat (by omega)
                    rw [show ((j.toNat : Nat) : Int) = j by omega] at e
                    have e' := v1015 j.toNat (by omega)
                    rw [show ((j.toNat : Nat) : Int) = j by omega] at e'
                    rw [e, e', hnb]
                    exact ⟨rfl, hbr j.toNat (by omega)⟩
                  · rw [Int.toNat_natCast]
                    have e := zsm_sh (f := fun k => X 63 (Y'.2.2.2.2 4 k)) (a := 16 * x) L 0
                    rw [Int.add_zero] at e
                    rw [← e]
                    refine zsm_congr _ _ (fun j j0 j1 => ?_)
                    show X 63 (b j.toNat) = X 63 (Y'.2.2.2.2 4 (16 * x + j))
                    have e' := e11 j.toNat (by omega)
                    rw [show ((j.toNat : Nat) : Int) = j by omega] at e'
                    rw [e']
                · have d := w4 x x0 (by omega)
                  obtain ⟨d1, d2, d3, d4, d5, d6⟩ := d
                  have n1 : ¬2 * x = 2 * w + 1 := by omega
                  have n2 : ¬2 * x = 2 * w := by omega
                  have n3 : ¬2 * x + 1 = 2 * w + 1 := by omega
                  have n4 : ¬2 * x + 1 = 2 * w := by omega
                  rw [if_neg hx, if_neg hx, if_neg hx, if_neg hx, if_neg hx, if_neg hx, if_neg hx, if_neg n1, if_neg n2, if_neg n3, if_neg n4]
                  have p0 : Y'.2.2.2.2 0 (5 + x) = Y.2.2.2.2 0 (5 + x) := q0 (5 + x) (by omega) (by omega)
                  have p2 : Y'.2.2.2.2 2 x = Y.2.2.2.2 2 x := e12 2 x (fun g => hx g.2) (fun g => absurd g.1 (by decide)) (fun g => absurd g.1 (by decide)) (.inr (by decide))
                  have p3 : Y'.2.2.2.2 3 x = Y.2.2.2.2 3 x := e12 3 x (fun g => absurd g.1 (by decide)) (fun g => hx g.2) (fun g => absurd g.1 (by decide)) (.inr (by decide))
                  have p4 : ∀ k, ¬(16 * w ≤ k ∧ k < 16 * w + 16) → Y'.2.2.2.2 4 k = Y.2.2.2.2 4 k := fun k hk => e12 4 k (fun g => absurd g.1 (by decide)) (fun g => absurd g.1 (by decide)) (fun g => hk g.2) (.inr (by decide))
                  rw [p0, p2, p3]
                  refine ⟨d1, d2, d3, d4, fun j j0 j1 => ?_, ?_⟩
                  · rw [p4 _ (by omega), v1015o _ (by omega)]
                    exact d5 j j0 j1
                  · rw [d6]
                    refine zsm_congr _ _ (fun j j0 j1 => ?_)
                    show X 63 (Y.2.2.2.2 4 j) = X 63 (Y'.2.2.2.2 4 j)
                    rw [p4 j (by omega)]
              · unfold iF
                rw [v500, v1016]
                refine ⟨?_, hJ.2.2⟩
                have hBu2 : wBu Y X2 := by
                  unfold wBu
                  rw [x2x 61 (by decide), x2x 62 (by decide), x2x 63 (by decide)]
                  exact hBu
                have := zcst_b (X := X2) (goal := goal) hF hBu2 (by rw [x2f 500 (by decide), xh5]; exact hcb)
                rw [hnb] at this
                exact this
          · have g6 : 1000000000 ≤ zcsm X nb goal (X 1006 p) := by
              have := fun k => g5 (hway.mpr k)
              omega
            refine zcal_e2 (X1 := Xh) (X2 := wu (zrf Xh (zcsm X nb goal)) 444 0 3) 2 3 hY (by decide) (by decide) ?_ (by unfold dWire; rw [h1.1, hnb, hgl]; exact zd3_3 ⟨g11, g12⟩ g2 (fun g => g (.inr (.inr (.inl g6)))) (fun f hf => by
              simp only [List.mem_cons, List.not_mem_nil, or_false, not_or] at hf
              funext j
              rw [wu_ne hf.2.2, zrf_f hf.2.1, xhf f hf.1])) wu_eq (hIe _ ?_ ?_ ?_) (fun f hf => by first | exact zE f (by simp only [List.mem_cons, List.not_mem_nil, or_false, not_or]; omega) | (funext j; simp (disch := omega) only [wu_ne, zrf_f])) (fun f hf => by first | exact s0 f (by simp only [List.mem_cons, List.not_mem_nil, or_false, not_or]; omega) | (funext j; rw [wu_ne (by omega), zrf_f (by omega), xhf f (by omega)]) | (funext j; rw [wu_ne (by omega), zrf_f (by omega)]))
            · show ev_ G 67 0 _ [] _ = _
              rw [hs0, hs1, hs2, hs3, zB_0 g5, q_X11_wire_137, c_cSt0, t_Ve, t_x, t_w]
            · intro f hf
              simp only [List.mem_cons, List.not_mem_nil, or_false, not_or] at hf
              funext j
              rw [wu_ne hf.2.2, zrf_f hf.2.1, xhf f hf.1]
            · rw [show wu (zrf Xh (zcsm X nb goal)) 444 0 3 500 = Xh 500 from funext fun j => by rw [wu_ne (by decide), zrf_f (by decide)], xh5]
              exact hcb
            · funext j
              rw [wu_ne (by decide), zrf_c]
        · refine zcal_e2 (X1 := X) (X2 := wu (zrf X (zcsm X nb goal)) 444 0 3) 2 3 hY (by decide) (by decide) ?_ (by unfold dWire; rw [h1.1, hnb, hgl]; exact zd3_3 ⟨g11, g12⟩ g2 (fun g => g (.inr (.inr (.inr (by omega))))) (fun f hf => by
              simp only [List.mem_cons, List.not_mem_nil, or_false, not_or] at hf
              funext j
              rw [wu_ne hf.2.2, zrf_f hf.2.1])) wu_eq (hIe _ ?_ ?_ ?_) (fun f hf => by first | exact zE f (by simp only [List.mem_cons, List.not_mem_nil, or_false, not_or]; omega) | (funext j; simp (disch := omega) only [wu_ne, zrf_f])) (fun f hf => by first | exact s0 f (by simp only [List.mem_cons, List.not_mem_nil, or_false, not_or]; omega) | (funext j; rw [wu_ne (by omega), zrf_f (by omega), xhf f (by omega)]) | (funext j; rw [wu_ne (by omega), zrf_f (by omega)]))
          · show ev_ G 67 0 _ [] _ = _
            rw [hs0, hs1, hs2, q_X11_wire_94, c_cSt1, t_V, g13_0 h13, t_b, g6_2 h6', t_b, k1 hl2.1, c_size hl2, t_I, if_pos (by rw [l_24, zJ_le (by decide) (by decide) (by omega) (by omega)]; omega), l_0, q_X11_wire_137, c_cSt0, t_Ve, t_x, t_w]
          · intro f hf
            simp only [List.mem_cons, List.not_mem_nil, or_false, not_or] at hf
            funext j
            rw [wu_ne hf.2.2, zrf_f hf.2.1]
          · rw [show wu (zrf X (zcsm X nb goal)) 444 0 3 500 = X 500 from funext fun j => by rw [wu_ne (by decide), zrf_f (by decide)]]
            exact h5.1
          · funext j
            rw [wu_ne (by decide), zrf_c]
      · have hs2 := c_wire67 (G := G) (n := n) (s := s) (X := X) (q := q) (u := u) (x1 := wA Y 13 0) (x2 := zJ p) (x4 := zJ r) (x5 := zJ z) hVp hVr 0 (by rw [if_neg g3])
        have htk : zty X (8 * p + q) ∨ zty X (8 * r + u) := by
          by_cases k1 : zty X (8 * p + q)
          · exact .inl k1
          · by_cases k2 : zty X (8 * r + u)
            · exact .inr k2
            · exact absurd ⟨hbp.mpr k1, hbr.mpr k2⟩ g3
        refine zcal_e2 (X1 := X) (X2 := wu (zrf X (zcsm X nb goal)) 444 0 3) 2 3 hY (by decide) (by decide) ?_ (by unfold dWire; rw [h1.1, hnb, hgl]; exact zd3_3 ⟨g11, g12⟩ g2 (fun g => g (htk.elim .inl (fun k => .inr (.inl k)))) (fun f hf => by
              simp only [List.mem_cons, List.not_mem_nil, or_false, not_or] at hf
              funext j
              rw [wu_ne hf.2.2, zrf_f hf.2.1])) wu_eq (hIe _ ?_ ?_ ?_) (fun f hf => by first | exact zE f (by simp only [List.mem_cons, List.not_mem_nil, or_false, not_or]; omega) | (funext j; simp (disch := omega) only [wu_ne, zrf_f])) (fun f hf => by first | exact s0 f (by simp only [List.mem_cons, List.not_mem_nil, or_false, not_or]; omega) | (funext j; rw [wu_ne (by omega), zrf_f (by omega), xhf f (by omega)]) | (funext j; rw [wu_ne (by omega), zrf_f (by omega)]))
        · show ev_ G 67 0 _ [] _ = _
          rw [hs0, hs1, hs2, q_X11_wire_94, c_cSt0, t_Ve, t_x, t_w]
        · intro f hf
          simp only [List.mem_cons, List.not_mem_nil, or_false, not_or] at hf
          funext j
          rw [wu_ne hf.2.2, zrf_f hf.2.1]
        · rw [show wu (zrf X (zcsm X nb goal)) 444 0 3 500 = X 500 from funext fun j => by rw [wu_ne (by decide), zrf_f (by decide)]]
          exact h5.1
        · funext j
          rw [wu_ne (by decide), zrf_c]
    · refine zcal_e 1 2 hI hY (by decide) (by decide) ?_ (by first | exact zd1_1 (by first | assumption | omega) (same_u (by decide) same_r) | exact zd2_1 (by first | assumption | omega) (same_u (by decide) same_r) | exact zd2_2 (by first | assumption | omega) (by first | assumption | omega) (same_u (by decide) same_r) | exact zd3_1 (by first | assumption | omega) (same_u (by decide) same_r) | exact zd3_2 (by first | assumption | omega) (by first | assumption | omega) (same_u (by decide) same_r) | exact zd3_3 (by first | assumption | omega) (by first | assumption | omega) (by first | assumption | omega) (same_u (by decide) same_r))
      have hs1 := c_wire44 (G := G) (Y := Y) (n := n) (s := s) (X := X) (a6 := wA Y 4 p) (a7 := wA Y 4 r) (x1 := wA Y 13 0) (x2 := zJ q) (x4 := zJ u) hp hr hz 0 (by rw [if_neg g2])
      show ev_ G 67 0 _ [] _ = _
      rw [hs0, hs1, q_X11_wire_67, c_cAr0, t_Ve, t_x, t_w]
  · refine zcal_e 0 1 hI hY (by decide) (by decide) ?_ (by first | exact zd1_1 (by first | assumption | omega) (same_u (by decide) same_r) | exact zd2_1 (by first | assumption | omega) (same_u (by decide) same_r) | exact zd2_2 (by first | assumption | omega) (by first | assumption | omega) (same_u (by decide) same_r) | exact zd3_1 (by first | assumption | omega) (same_u (by decide) same_r) | exact zd3_2 (by first | assumption | omega) (by first | assumption | omega) (same_u (by decide) same_r) | exact zd3_3 (by first | assumption | omega) (by first | assumption | omega) (by first | assumption | omega) (same_u (by decide) same_r))
    show ev_ G 67 0 _ [] _ = _
    by_cases gp : 0 ≤ p ∧ p < Y.2.2.2.2 0 1
    · by_cases gr : 0 ≤ r ∧ r < Y.2.2.2.2 0 1
      · have dp := c3 p gp.1 gp.2
        have dr := c3 r gr.1 gr.2
        have rp := c2 p gp.1 (by omega)
        have rr := c2 r gr.1 (by omega)
        have hs0 := c_wire0 (G := G) (n := n) (s := s) (X := X) (q := q) (u := u) (z := z) hF gp gr hq hu (by omega) (by omega) 0 (by
          rw [if_neg]
          rintro ⟨k1, k2⟩
          refine g1 ⟨⟨by rw [c1]; exact gp, by omega⟩, ⟨by rw [c1]; exact gr, by omega⟩⟩)
        rw [hs0, q_X11_wire_44, c_cIx0, t_Ve, t_x, t_w]
      · rw [q_X11_wire_0, k13 h13, c_connectorAt hF gp.1 gp.2, t_R, k13 h13, c_connectorAt_no hF hr.1 hr.2 gr, t_Re, t_x]
    · rw [q_X11_wire_0, k13 h13, c_connectorAt_no hF hp.1 hp.2 gp, t_Re, t_x]
end ZK
