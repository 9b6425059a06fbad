/-! THE TWO SIDES, 67: a wire put in, laid and listed -/
section ZS
variable {Y Y' Y2 : zLy} {n n' n2 s : Nat} {X X' : zX} {G : Nat × Nat}
theorem c_putIn {w c d : Int} (hI : wI Y) (h12 : wV Y 12 w) (hc : wV Y 4 c) (hd : wV Y 4 d) (h2 : Y.2.2.2.2 2 w = c) (h3 : Y.2.2.2.2 3 w = d) : ev_ G 62 0 [.ref (wA Y 12 w)] [] (wd Y n s X) = some (.inl none, wd Y n s (wu (wu X 84 c (zbO (X 84 c) (X 241 w))) 84 d (zbO (wu X 84 c (zbO (X 84 c) (X 241 w)) 84 d) (X 243 w)))) := by
  have g0 : ∀ X, zgR 11 0 (wd Y n s X) (wA Y 12 w) = some (wA Y 4 c) := fun X => by rw [← h2]; exact g12_0 h12
  have g2 : ∀ X, zgR 11 2 (wd Y n s X) (wA Y 12 w) = some (wA Y 4 d) := fun X => by rw [← h3]; exact g12_2 h12
  rw [q_X10_putIn_0, g0, t_b, g12_1 h12, t_b, k4 hc, c_take hc hI, t_V, g2, t_b, g12_3 h12, t_b, k4 hd, c_take hd hI, t_V, wu_ne (by decide : (243 : Int) ≠ 84)]
theorem wS_w {Q Q' : zQs} {w : Int} {k : Nat} {i : Int} (hk : k ≠ 0) (hw : 0 ≤ w) (u0 : Q' 0 0 = Q 0 0) (u1 : Q' 0 1 = Q 0 1) (u3 : Q' 0 3 = Q 0 3) (u4 : Q' 0 4 = Q 0 4) (u2 : Q' 0 2 = w + 1) (g3 : Q 0 2 = w) (y1 : ∀ i, i ≠ 2 → Q' 1 i = Q 1 i) (y2 : 0 < Q' 1 2) : ((wS Q k i ∨ (k = 1 ∧ i = 5 + w) ∨ (k = 12 ∧ i = w) ∨ (k = 16 ∧ i = 5 + w ∧ 0 < Q 1 (5 + w))) ∨ (k = 16 ∧ i = 2)) ↔ wS Q' k i := by
  rcases Nat.lt_or_ge k 17 with g | g
  · by_cases h16 : k = 16
    · subst h16
      simp only [wS, u4, u2, g3, true_and]
      by_cases hi2 : i = 2
      · subst hi2
        omega
      · rw [y1 i hi2]
        by_cases hiw : i = 5 + w
        · subst hiw
          omega
        · omega
    · rcases k_17 g hk with rfl | rfl | rfl | rfl | rfl | rfl | rfl | rfl | rfl | rfl | rfl | rfl | rfl | rfl | rfl | rfl <;> simp only [wS, u0, u1, u3, u4, u2, g3, true_and] <;> omega
  · constructor
    · rintro ((h | h | h | h) | h)
      · exact absurd h (wS_k g)
      · omega
      · omega
      · omega
      · omega
    · intro h
      exact absurd h (wS_k g)
theorem c_wireR {w c d p q r nb goal : Int} {x1 x3 : Int32} {v b : Nat → Int} {L : Nat} {X1 X2 X3 : zX} (hY : wY Y n) (hG : Y.1 = G.1) (hw0 : Y.2.2.2.2 0 2 = w) (hw : w < 24) (hc : 0 ≤ c ∧ c < Y.2.2.2.2 0 1) (hd : 0 ≤ d ∧ d < Y.2.2.2.2 0 1) (hnb : Y.2.2.2.2 0 0 = nb) (h1 : wu (wu (wu (wu (wu (wu X 20 (5 + w) 0) 241 w p) 243 w q) 244 w r) 245 w 0) 246 w 0 = X1) (h2 : wu (wu X1 84 c (zbO (X1 84 c) p)) 84 d (zbO (wu X1 84 c (zbO (X1 84 c) p) 84 d) q) = X2) (h3 : zrw X2 (zcst X2 nb goal) = X3) (hg : 0 ≤ goal ∧ goal < 8) (h80 : X 80 d = goal) (hv : X 80 c = v 0) (hb : ∀ i, 0 ≤ i → i < nb → 0 ≤ X 61 i ∧ X 61 i < 8 ∧ 0 ≤ X 62 i ∧ X 62 i < 8 ∧ X 61 i ≠ X 62 i ∧ 1 ≤ X 63 i ∧ X 63 i ≤ 999) (h500 : zcb (X 500)) (hch : zcc X3 (X3 500) nb goal v b L) : ∃ (Y' : zLy) (n' s' : Nat), ev_ G 67 137 [.ref (wA Y 13 0), .int x1, .int (zJ p), .int x3, .int (zJ q), .int (zJ r), .ref (wA Y 4 c), .ref (wA Y 4 d)] [.int (zJ 1)] (wd Y n s X) = some (.inl (some (.int (zJ w))), wd Y' n' s' (wu (zlay w b L 0 X3) 20 2 (zlay w b L 0 X3 20 2 + 1))) ∧ wY Y' n' ∧ wle Y n Y' n' ∧ n' ≤ n + 10 ∧ s ≤ s' ∧ s' ≤ s + 440 ∧ Y'.2.2.2.2 0 2 = w + 1 ∧ Y'.2.2.2.2 0 (5 + w) = L ∧ Y'.2.2.2.2 2 w = c ∧ Y'.2.2.2.2 3 w = d ∧ (∀ j : Nat, j < L → Y'.2.2.2.2 4 (16 * w + j) = b j) ∧ (∀ a i, ¬(a = 2 ∧ i = w) → ¬(a = 3 ∧ i = w) → ¬(a = 4 ∧ 16 * w ≤ i ∧ i < 16 * w + 16) → (i ≠ 5 + w ∧ i ≠ 2) ∨ 2 ≤ a → Y'.2.2.2.2 a i = Y.2.2.2.2 a i) := by
  have hF := wY_F hY
  have hQ := hY.2
  obtain ⟨Y1, e1, e2, e3, e4, e5, e6, e7⟩ := c_newWire (G := G) (n := n) (s := s) (X := X) (c := c) (d := d) (p := p) (q := q) (r := r) hY hG (by rw [hw0]; exact hw) hc hd b
  rw [hw0] at e1 e2 e4 e5 e6 e7
  rw [h1] at e1
  have hF1 := wW_F e2
  have hV12 : wV Y1 12 w := wW_st e2 (by decide) (.inr (.inr (.inl ⟨rfl, rfl⟩)))
  have q1 : ∀ i, Y1.2.2.2.2 0 i = Y.2.2.2.2 0 i := fun i => e7 0 i (fun g => absurd g.1 (by decide)) (fun g => absurd g.1 (by decide))
  have hVc : wV Y1 4 c := hF1.2.2.2.2.2.2.2.2.2.1 c hc.1 (by rw [q1]; exact hc.2)
  have hVd : wV Y1 4 d := hF1.2.2.2.2.2.2.2.2.2.1 d hd.1 (by rw [q1]; exact hd.2)
  have h6 : wV Y1 6 0 := hF1.2.2.2.1
  have hp1 : X1 241 w = p := by
    rw [← h1, wu_ne (by decide), wu_ne (by decide), wu_ne (by decide), wu_ne (by decide), wu_eq]
  have hq1 : X1 243 w = q := by
    rw [← h1, wu_ne (by decide), wu_ne (by decide), wu_ne (by decide), wu_eq]
  have hput := c_putIn (G := G) (n := n + 2) (s := s + 11) (X := X1) hF1.1 hV12 hVc hVd e5 e6
  rw [hp1, hq1, h2] at hput
  have X12 : ∀ f j, f ≠ 84 → X2 f j = X1 f j := by
    intro f j g
    rw [← h2, wu_ne g, wu_ne g]
  have X01 : ∀ f j, f ≠ 20 → f ≠ 241 → f ≠ 243 → f ≠ 244 → f ≠ 245 → f ≠ 246 → X1 f j = X f j := by
    intro f j a1 a2 a3 a4 a5 a6
    rw [← h1, wu_ne a6, wu_ne a5, wu_ne a4, wu_ne a3, wu_ne a2, wu_ne a1]
  have X02 : ∀ f j, f < 84 → f ≠ 20 → X2 f j = X f j := fun f j a1 a2 => (X12 f j (by omega)).trans (X01 f j a2 (by omega) (by omega) (by omega) (by omega) (by omega))
  have X0500 : X2 500 = X 500 := funext fun j => (X12 500 j (by decide)).trans (X01 500 j (by decide) (by decide) (by decide) (by decide) (by decide) (by decide))
  have hb2 : wBu Y1 X2 := by
    unfold wBu
    rw [q1, hnb, show X2 61 = X 61 from funext fun j => X02 61 j (by decide) (by decide), show X2 62 = X 62 from funext fun j => X02 62 j (by decide) (by decide), show X2 63 = X 63 from funext fun j => X02 63 j (by decide) (by decide)]
    exact ⟨by rw [← hnb]; exact hQ.1.2, hb⟩
  have hfc := c_findCosts (G := G) (n := n + 2) (s := s + 11) (X := X2) (goal := goal) hF1 hb2 hg (by rw [X0500]; exact h500)
  have hcb := zcst_b (X := X2) (goal := goal) hF1 hb2 (by rw [X0500]; exact h500)
  rw [q1, hnb] at hfc hcb
  rw [h3] at hfc
  have X3c : X3 500 = zcst X2 nb goal := by
    rw [← h3]
    funext j
    exact zrw_c
  have X23 : ∀ f j, f ≠ 500 → X3 f j = X2 f j := fun f j g => by rw [← h3]; exact zrw_f g
  have X03 : ∀ f j, f < 84 → f ≠ 20 → X3 f j = X f j := fun f j a1 a2 => (X23 f j (by omega)).trans (X02 f j a1 a2)
  obtain ⟨Y2, n2, s2, f1, f2, f3, f4, f5, f6, f7⟩ := c_layR (G := G) (X := X3) (w := w) (d := d) hch (by rw [X3c]; exact hcb) (by rw [← hnb]; exact hQ.1.2) (by
    rw [show X3 61 = X 61 from funext fun j => X03 61 j (by decide) (by decide), show X3 62 = X 62 from funext fun j => X03 62 j (by decide) (by decide), show X3 63 = X 63 from funext fun j => X03 63 j (by decide) (by decide)]
    exact hb) hg (by rw [X03 80 _ (by decide) (by decide)]; exact h80) L 0 Y1 (n + 2) (s + 11) X3 zU (by omega) e2 (by rw [e3.2.1]; exact hG) ⟨fun _ _ _ _ _ => rfl, fun _ => .inl rfl⟩ rfl (by rw [q1]; exact hnb) e6 (by rw [q1]; exact hd)
  -- the list of wires
  have hF2 := wW_F f2
  obtain ⟨hK2, hQ2, g3, g4, g5, g6, g7, g8, g9⟩ := id f2
  have hL7 := hch.1
  have hw00 : 0 ≤ w := by rw [← hw0]; exact hQ.2.2.1.1
  have hl2 : wLs Y2 2 := hF2.2.2.2.2.2.2.2.1 2 (by decide) (by decide)
  have hz2 := hQ2.2.2.2.2.2.1 2 (by decide) (by decide)
  have hwt : wet Y2.2.2.2.2 2 (Y2.2.2.2.2 0 2) = (12, w) := by
    rw [g3]
    rfl
  obtain ⟨Y4, n4, s4, S4, c1, c2, c3, c4, c5, c6, c7, c8, c9, c10, c11, c12, c13, c14⟩ := c_add (G := G) (n := n2) (s := s2) (X := zlay w b L 0 X3) (e := wA Y2 12 w) (l := 2) hK2 (by rw [f3.2.1, e3.2.1]; exact hG) hl2 (by omega) (fun g => by
    rcases g with g | g | g | g
    · exact g.2
    · exact absurd g.1 (by decide)
    · exact absurd g.1 (by decide)
    · have := g.2.1
      omega) (by rw [wel_t, hwt]) (by
    rw [hwt]
    exact .inr (.inr (.inl ⟨rfl, rfl⟩)))
  rw [g3] at c6 c11 c12 c13
  have y0 : ∀ i, i ≠ 2 → Y4.2.2.2.2 0 i = Y2.2.2.2.2 0 i := fun i hi => c10 0 i (.inl hi)
  have y1 : ∀ i, i ≠ 2 → Y4.2.2.2.2 1 i = Y2.2.2.2.2 1 i := fun i hi => c10 1 i (.inl hi)
  have hY4 : wY Y4 n4 := by
    have u0 := y0 0 (by decide)
    have u1 := y0 1 (by decide)
    have u3 := y0 3 (by decide)
    have u4 := y0 4 (by decide)
    obtain ⟨q0, q1, q2, q3, q4, q5, q7⟩ := hQ2
    refine ⟨wK_S c2 (fun k i hk => ?_), ?_, ?_, ?_, ?_, ?_, fun l l1 l2 => ?_, fun l hl => ?_, fun x x1 x2 => ?_, fun x x1 x2 => ?_⟩
    · rw [c9]
      exact wS_w hk hw00 u0 u1 u3 u4 c11 g3 y1 (by omega)
    · rw [u0]; exact q0
    · rw [u1]; exact q1
    · rw [c11]; omega
    · rw [u3]; exact q3
    · rw [u4]; exact q4
    · by_cases hl : l = 2
      · subst hl
        omega
      · rw [y0 l hl, y1 l hl]
        exact q5 l l1 l2
    · rw [c11, u4] at hl
      rw [y0 l (by omega), y1 l (by omega)]
      exact g6 l (by omega)
    · rw [u4] at x2
      rw [y0 _ (by omega)]
      exact q7 x x1 x2
    · rw [c11] at x2
      rw [y0 _ (by omega)]
      by_cases hx : x = w
      · subst hx
        rw [g5]
        omega
      · exact g7 x x1 (by omega)
  have hF4 := wY_F hY4
  have h62 : wV Y2 6 0 := hF2.2.2.2.1
  have h64 : wV Y4 6 0 := hF4.2.2.2.1
  have h14 : wV Y4 1 2 := (hF4.2.2.2.2.2.2.2.1 2 (by decide) (by decide)).1
  have h13 := hF.2.1
  have hw4 : wle Y2 n2 Y4 n4 := ⟨c3, c7, fun k i k1 k2 k3 => ⟨(c2.2.2.1 k i k2).mpr ((c9 k i).mpr (.inl ((hK2.2.2.1 k i k2).mp k3))), c8 k i k1⟩, fun a ha ha2 => c14 a ha ha2⟩
  refine ⟨Y4, n4, s4, ?_, hY4, wle_t e3 (wle_t f3 hw4), by omega, by omega, by omega, c11, ?_, ?_, ?_, fun j hj => ?_, fun a i a1 a2 a3 a4 => ?_⟩
  · have k60 : wA Y1 6 0 = wA Y 6 0 := (e3.2.2.1 6 0 (by decide) (by decide) hF.2.2.2.1).2
    have k62 : wA Y2 6 0 = wA Y1 6 0 := (f3.2.2.1 6 0 (by decide) (by decide) h6).2
    have k64 : wA Y4 6 0 = wA Y2 6 0 := c8 6 0 (by decide)
    have kk12 : wA Y2 12 w = wA Y1 12 w := (f3.2.2.1 12 w (by decide) (by decide) hV12).2
    have gg0 : ∀ X, zgR 11 0 (wd Y1 (n + 2) (s + 11) X) (wA Y1 12 w) = some (wA Y1 4 c) := fun X => by rw [← e5]; exact g12_0 hV12
    have gg2 : ∀ X, zgR 11 2 (wd Y1 (n + 2) (s + 11) X) (wA Y1 12 w) = some (wA Y1 4 d) := fun X => by rw [← e6]; exact g12_2 hV12
    have hlay : ev_ G 65 0 [.ref (wA Y1 6 0), .ref (wA Y1 12 w), zU, zU, zU] [] (wd Y1 (n + 2) (s + 11) X2) = some (.inl none, wd Y2 n2 s2 (zlay w b L 0 X3)) := by
      rw [q_X4_layAlong_0, gg2, t_b, g4_0 hVd, t_b, X02 80 _ (by decide) (by decide), h80, k6 h6, hfc, t_V, gg0, t_b, g4_0 hVc, t_b, X03 80 _ (by decide) (by decide), hv]
      exact f1
    have hadd : ev_ G 66 0 [.ref (wA Y1 6 0), .ref (wA Y1 12 w)] [] (wd Y1 (n + 2) (s + 11) X1) = some (.inl (some (.int (zJ w))), wd Y4 n4 s4 (wu (zlay w b L 0 X3) 20 2 (zlay w b L 0 X3 20 2 + 1))) := by
      rw [q_X4_addWire_0, k12 hV12, hput, t_V, k6 h6, hlay, t_V, ← k62, g6_2 h62, t_b, k1 hl2.1, ← kk12, c1, t_I, ← k64, g6_2 h64, t_b, k1 h14, q_Jx4a65c_size_8abf5_0, g1_2 h14, t_b, t_I, c11, l_1, zJ_sub, show w + 1 - 1 = w by omega]
    rw [q_X11_wire_137, q_X11_checkState_0, e_1, t_V, g13_0 h13, t_b]
    show zthV (ev_ G 60 0 [.ref n, _, _, _, _, _] [] _) _ _ = _
    rw [e1, t_V, show wA Y 6 0 = wA Y1 6 0 from k60.symm, k6 h6]
    show zthI (ev_ G 66 0 [.ref (wA Y1 6 0), .ref n] [] _) _ _ = _
    rw [e4] at hadd
    rw [hadd, t_I]
  · rw [y0 _ (by omega)]; exact g5
  · rw [c10 2 w (.inr (by decide)), f7 2 w (fun g => absurd g.1 (by decide)) (.inr (by decide))]; exact e5
  · rw [c10 3 w (.inr (by decide)), f7 3 w (fun g => absurd g.1 (by decide)) (.inr (by decide))]; exact e6
  · rw [c10 4 _ (.inr (by decide))]; exact g8 j hj
  · rw [c10 a i (by omega), f7 a i a3 (by omega), e7 a i a1 a2]
end ZS
