/-! THE TWO SIDES, 85: calls on both sides: pull -/
theorem zrm_f {Y : zLy} {w d f : Int} (hf : f ≠ 64) : ∀ (k : Nat) (i : Int) (X : zX) (j : Int), zrm Y w d i k X f j = X f j := by
  intro k
  induction k with
  | zero => intro i X j; rfl
  | succ k ih => intro i X j; exact (ih _ _ _).trans (wu_ne hf)
theorem zrm_v {Y : zLy} {w d b : Int} : ∀ (k : Nat) (i : Int) (X : zX), zrm Y w d i k X 64 b = X 64 b + d * zsm (fun m => zB (Y.2.2.2.2 4 (16 * w + m) = b)) i k := by
  intro k
  induction k with
  | zero =>
    intro i X
    show X 64 b = X 64 b + d * 0
    omega
  | succ k ih =>
    intro i X
    refine (ih (i + 1) _).trans ?_
    rw [wu_v]
    show (if b = Y.2.2.2.2 4 (16 * w + i) then X 64 (Y.2.2.2.2 4 (16 * w + i)) + d else X 64 b) + d * zsm (fun m => zB (Y.2.2.2.2 4 (16 * w + m) = b)) (i + 1) k = X 64 b + d * (zB (Y.2.2.2.2 4 (16 * w + i) = b) + zsm (fun m => zB (Y.2.2.2.2 4 (16 * w + m) = b)) (i + 1) k)
    rw [Int.mul_add]
    by_cases h : b = Y.2.2.2.2 4 (16 * w + i)
    · rw [if_pos h, zB_1 h.symm, h]
      omega
    · rw [if_neg h, zB_0 (fun g => h g.symm)]
      omega
theorem zrm2_v {d b : Int} : ∀ (k : Nat) (i : Int) (X : zX), zrm2 d i k X 1004 b = X 1004 b + d * zsm (fun m => zB (X 1015 m = b)) i k := by
  intro k
  induction k with
  | zero =>
    intro i X
    show X 1004 b = X 1004 b + d * 0
    omega
  | succ k ih =>
    intro i X
    refine (ih (i + 1) _).trans ?_
    rw [wu_v, show wu X 1004 (X 1015 i) (X 1004 (X 1015 i) + d) 1015 = X 1015 from funext fun j => wu_ne (by decide)]
    show (if b = X 1015 i then X 1004 (X 1015 i) + d else X 1004 b) + d * zsm (fun m => zB (X 1015 m = b)) (i + 1) k = X 1004 b + d * (zB (X 1015 i = b) + zsm (fun m => zB (X 1015 m = b)) (i + 1) k)
    rw [Int.mul_add]
    by_cases h : b = X 1015 i
    · rw [if_pos h, zB_1 h.symm, h]
      omega
    · rw [if_neg h, zB_0 (fun g => h g.symm)]
      omega
section ZK
variable {Y : zLy} {n s : Nat} {X : zX} {G : Nat × Nat} {t p q r u z : Int}
theorem k_pull (hY : wY Y n) (hI : iAll t Y.2.2.2.2 X) (hp : -2147483648 ≤ p ∧ p < 2147483648) : zcal [(0, 1), (2, 2)] t Y n s X (fun W => ev_ G 79 0 [.ref (wA Y 13 0), .int (zJ p), zU] [] W) (dPull X p) := by
  have hF := wY_F hY
  have h13 := hF.2.1
  have hIw := hF.1
  obtain ⟨hn, hn4⟩ := wY_n hY
  obtain ⟨h1, h2, h3, h4, h5, h6, h7, h8, h9, h10, h11, h12⟩ := id hI
  have hQ2 := hY.2.2.2.1
  have hQ0 := hY.2.1
  have z1 := h4.1
  have hwm := iW_m h4 hQ2 hQ0.2
  by_cases g1 : 0 ≤ p ∧ p < Y.2.2.2.2 0 2
  · obtain ⟨hV, hL⟩ := hF.2.2.2.2.2.2.2.2.2.2.1 p g1.1 g1.2
    have hat := c_wireAt (G := G) (n := n) (s := s) (X := X) hF g1.1 g1.2
    have hw1 := h4.2.2.2 p g1.1 g1.2
    obtain ⟨a1, a2, a3, a4, a5, a6⟩ := id hw1
    have hwo := h4.2.1 p g1.1 (by omega)
    by_cases g2 : X 1011 p = 0
    · have g24 : X 246 p = 0 := by rw [a1.1]; exact g2
      have hto := c_takeOut (G := G) (n := n) (s := s) (X := X) (w := p) hF g1.1 g1.2 hn (fun t t0 t1 => (a5 t t0 t1).2) ⟨a3.2.1, a3.2.2.1⟩ ⟨a3.2.2.2.1, a3.2.2.2.2⟩
      generalize hX1 : zout Y X p = X1 at hto
      generalize hc : Y.2.2.2.2 2 p = c at a2 a3
      generalize hd : Y.2.2.2.2 3 p = d at a2 a3
      have hX1' : X1 = zrm Y p 1 0 (Y.2.2.2.2 0 (5 + p)).toNat (wu (wu (wu X 246 p 1) 84 c (zbC (X 84 c) (X 241 p))) 84 d (zbC (X 84 d) (X 243 p))) := by
        rw [← hX1]
        unfold zout
        rw [hc, hd, if_neg (fun e => a3.1 e.symm)]
      have x1f : ∀ f, f ≠ 64 → f ≠ 84 → f ≠ 246 → X1 f = X f := by
        intro f k1 k2 k3
        funext j
        rw [hX1', zrm_f k1, wu_ne k2, wu_ne k2, wu_ne k3]
      have s1 : zsame [64, 84, 246] X X1 := fun f hf => by
        simp only [List.mem_cons, List.not_mem_nil, or_false, not_or] at hf
        exact x1f f hf.1 hf.2.1 hf.2.2
      have x64 : ∀ b, X1 64 b = X 64 b + zsm (fun m => zB (Y.2.2.2.2 4 (16 * p + m) = b)) 0 (Y.2.2.2.2 0 (5 + p)).toNat := by
        intro b
        rw [hX1', zrm_v, wu_ne (by decide), wu_ne (by decide), wu_ne (by decide), Int.one_mul]
      have x84 : ∀ k, X1 84 k = if k = d then zbC (X 84 d) (X 243 p) else if k = c then zbC (X 84 c) (X 241 p) else X 84 k := by
        intro k
        rw [hX1', zrm_f (by decide), wu_v, wu_v, wu_ne (by decide)]
      have x246 : ∀ k, X1 246 k = if k = p then 1 else X 246 k := by
        intro k
        rw [hX1', zrm_f (by decide), wu_ne (by decide), wu_ne (by decide), wu_v]
      generalize hX0 : wu X1 444 0 0 = X0
      have s2 : zsame [64, 84, 246, 444] X X0 := by
        rw [← hX0]
        exact same_u (by decide) (same_m s1 (by decide))
      generalize hX2 : zrm2 1 (16 * p) (X0 1014 p).toNat (wu X0 1011 p 1) = X2
      have x2f : ∀ f, f ≠ 1004 → f ≠ 1011 → X2 f = X0 f := by
        intro f k1 k2
        funext j
        rw [← hX2, zrm2_f k1, wu_ne k2]
      have s0 : zsame [64, 84, 246, 444, 1004, 1011] X X2 := fun f hf => by
        simp only [List.mem_cons, List.not_mem_nil, or_false, not_or] at hf
        rw [x2f f hf.2.2.2.2.1 hf.2.2.2.2.2]
        exact s2 f (by simp only [List.mem_cons, List.not_mem_nil, or_false, not_or]; exact ⟨hf.1, hf.2.1, hf.2.2.1, hf.2.2.2.1⟩)
      have y1011 : ∀ k, X2 1011 k = if k = p then 1 else X 1011 k := by
        intro k
        rw [← hX2, zrm2_f (by decide), wu_v, s2 1011 (by decide)]
      have y64 : ∀ k, X2 64 k = X1 64 k := by
        intro k
        rw [x2f 64 (by decide) (by decide), ← hX0, wu_ne (by decide)]
      have y84 : ∀ k, X2 84 k = X1 84 k := by
        intro k
        rw [x2f 84 (by decide) (by decide), ← hX0, wu_ne (by decide)]
      have y246 : ∀ k, X2 246 k = X1 246 k := by
        intro k
        rw [x2f 246 (by decide) (by decide), ← hX0, wu_ne (by decide)]
      have y1004 : ∀ b, 0 ≤ b → b < Y.2.2.2.2 0 0 → X2 1004 b = X1 64 b := by
        intro b b0 b1
        rw [← hX2, zrm2_v, wu_ne (by decide), s2 1004 (by decide), x64, Int.one_mul, (h1.2 b b0 b1).1.2.2.2.2, s2 1014 (by decide), a4.1, zsm_sh (f := fun m => zB (Y.2.2.2.2 4 m = b)), Int.add_zero]
        congr 1
        refine zsm_congr _ _ (fun j j0 j1 => ?_)
        show zB (wu X0 1011 p 1 1015 j = b) = zB (Y.2.2.2.2 4 j = b)
        have e := a5 (j - 16 * p) (by omega) (by omega)
        rw [show 16 * p + (j - 16 * p) = j by omega] at e
        rw [wu_ne (by decide), s2 1015 (by decide), e.1]
      have hB0 : iB Y.2.2.2.2 X := h1
      have hln : zln1 X0 p = X 245 p := by
        have h : zln1 X0 p = zln1 X p := by
          unfold zln1
          rw [s2 1011 (by decide), s2 1003 (by decide), s2 1015 (by decide), s2 1014 (by decide)]
        rw [h, zln_e hB0 hw1, if_pos g24]
      refine zcal_0 (X1 := X1) (X2 := X2) (X 245 p) hY ?_ (zd2_0 (by omega) g2 ⟨rfl, y1011, fun b b0 b1 => by
        rw [y1004 b b0 (by rw [← h1.1]; exact b1), x64, (h1.2 b b0 (by rw [← h1.1]; exact b1)).1.2.2.2.2, a4.1]
        congr 1
        have e := zsm_sh (f := fun m => zB (X 1015 m = b)) (a := 16 * p) (Y.2.2.2.2 0 (5 + p)).toNat 0
        rw [Int.add_zero] at e
        rw [← e]
        refine zsm_congr _ _ (fun j j0 j1 => ?_)
        show zB (Y.2.2.2.2 4 (16 * p + j) = b) = zB (X 1015 (16 * p + j) = b)
        rw [(a5 j j0 (by omega)).1], s0⟩) ?_ ?_ (fun f hf => funext fun j => by (try rw [← hX2]); (try rw [← hX0]); simp (disch := omega) only [wu_ne, zrm2_f]) (fun f hf => by first | exact s0 f (by simp only [List.mem_cons, List.not_mem_nil, or_false, not_or]; omega) | (funext j; (try rw [← hX2]); (try rw [← hX0]); (try rw [← hX1]); (try rw [← hXB]); (try rw [← hXA]); simp (disch := omega) only [wu_ne, zrm2_f]))
      · show ev_ G 79 0 _ [] _ = _
        rw [q_X11_pull_0, k13 h13, hat, t_R, g12_6 hV, t_b, g24, if_pos (show zJ 0 = 0 from rfl), l_1, c_cSt1, t_V, k12 hV, hto, t_V, g12_5 hV, t_b, x1f 245 (by decide) (by decide) (by decide)]
      · rw [x2f 444 (by decide) (by decide), ← hX0, wu_eq]
      · obtain ⟨t1, t2, t3⟩ := id h3
        have hQ1 := hY.2.2.1
        have hlive : ztk1 X (8 * c + X 241 p) p ∧ ztk1 X (8 * d + X 243 p) p := ⟨⟨g2, .inl a2.1⟩, ⟨g2, .inr a2.2.1⟩⟩
        refine ⟨?_, iC_c h2 (same_g s0 (by decide)) rfl, ?_, ?_, iF_c h5 (same_g s0 (by decide)), iO_c h6 (same_g s0 (by decide)), iD_c h7 (same_g s0 (by decide)) (by omega), iR_c h8 (same_g s0 (by decide)) rfl, iM_c h9 (same_g s0 (by decide)), iV_c h10 (same_g s0 (by decide)), iH_c h11 (same_g s0 (by decide)), iS_c h12 (same_g s0 (by decide)) rfl rfl hn4⟩
        · unfold iB
          rw [s0 400 (by decide), s0 60 (by decide), s0 61 (by decide), s0 62 (by decide), s0 63 (by decide), s0 1001 (by decide), s0 1002 (by decide), s0 1003 (by decide)]
          refine ⟨h1.1, fun i i0 i1 => ?_⟩
          have e := h1.2 i i0 i1
          rw [y64, y1004 i i0 i1]
          exact ⟨⟨e.1.1, e.1.2.1, e.1.2.2.1, e.1.2.2.2.1, rfl⟩, e.2⟩
        · unfold iT
          have hr1 := t1 c a3.2.1 a3.2.2.1
          have hr2 := t1 d a3.2.2.2.1 a3.2.2.2.2
          have hz : ∀ a, zty X2 a ↔ (zty X a ∧ ¬ztk1 X a p) := by
            intro a
            unfold zty ztk1
            rw [s0 410 (by decide), s0 1012 (by decide)]
            constructor
            · rintro ⟨w, w0, w1, w2, w3⟩
              rw [y1011] at w2
              by_cases hw : w = p
              · rw [if_pos hw] at w2
                exact absurd w2 (by decide)
              · rw [if_neg hw] at w2
                refine ⟨⟨w, w0, w1, w2, w3⟩, fun g => hw ?_⟩
                exact t3 a w p w0 w1 g1.1 (by rw [z1]; exact g1.2) ⟨w2, w3⟩ g
            · rintro ⟨⟨w, w0, w1, w2, w3⟩, hno⟩
              have hw : w ≠ p := fun e => hno (e ▸ ⟨w2, w3⟩)
              exact ⟨w, w0, w1, by rw [y1011, if_neg hw]; exact w2, w3⟩
          refine ⟨fun c' k0 k1 => ?_, fun c' v k0 k1 v0 v1 => ?_, fun a w w' w0 w1 w0' w1' u1 u2 => ?_⟩
          · rw [y84, x84]
            split
            · exact zbC_r hr2 ⟨a2.2.2.2.2.1, a2.2.2.2.2.2⟩
            · split
              · exact zbC_r hr1 ⟨a2.2.2.1, a2.2.2.2.1⟩
              · exact t1 c' k0 k1
          · rw [y84, x84, hz, ← t2 c' v k0 k1 v0 v1]
            have hend : ztk1 X (8 * c' + v) p ↔ ((c' = c ∧ v = X 241 p) ∨ (c' = d ∧ v = X 243 p)) := by
              unfold ztk1
              rw [a2.1, a2.2.1]
              constructor
              · rintro ⟨-, e⟩
                rcases e with e | e
                · exact .inl ⟨by omega, by omega⟩
                · exact .inr ⟨by omega, by omega⟩
              · rintro (⟨e1, e2⟩ | ⟨e1, e2⟩)
                · exact ⟨g2, .inl (by omega)⟩
                · exact ⟨g2, .inr (by omega)⟩
            rw [hend]
            by_cases e1 : c' = d
            · have e2 : ¬c' = c := fun g => a3.1 (g.symm.trans e1)
              rw [if_pos e1, zbC_b hr2 ⟨a2.2.2.2.2.1, a2.2.2.2.2.2⟩ ⟨v0, v1⟩, e1]
              constructor
              · rintro ⟨g, g'⟩
                exact ⟨g', fun h => h.elim (fun h => e2 (e1.trans h.1)) (fun h => g h.2)⟩
              · rintro ⟨g, g'⟩
                exact ⟨fun h => g' (.inr ⟨rfl, h⟩), g⟩
            · rw [if_neg e1]
              by_cases e2 : c' = c
              · rw [if_pos e2, zbC_b hr1 ⟨a2.2.2.1, a2.2.2.2.1⟩ ⟨v0, v1⟩, e2]
                constructor
                · rintro ⟨g, g'⟩
                  exact ⟨g', fun h => h.elim (fun h => g h.2) (fun h => e1 (e2.trans h.1))⟩
                · rintro ⟨g, g'⟩
                  exact ⟨fun h => g' (.inl ⟨rfl, h⟩), g⟩
              · rw [if_neg e2]
                exact ⟨fun g => ⟨g, fun h => h.elim (fun h => e2 h.1) (fun h => e1 h.1)⟩, fun g => g.1⟩
          · rw [s0 410 (by decide)] at w1 w1'
            unfold ztk1 at u1 u2
            rw [y1011, s0 1012 (by decide)] at u1 u2
            have n1 : w ≠ p := fun e => by
              rw [if_pos e] at u1
              exact absurd u1.1 (by decide)
            have n2 : w' ≠ p := fun e => by
              rw [if_pos e] at u2
              exact absurd u2.1 (by decide)
            rw [if_neg n1] at u1
            rw [if_neg n2] at u2
            exact t3 a w w' w0 w1 w0' w1' u1 u2
        · unfold iW
          rw [s0 410 (by decide)]
          obtain ⟨b1, b2, b3, b4⟩ := h4
          refine ⟨b1, fun w w0 w1 => ?_, fun w w0 w1 => ?_, fun w w0 w1 => ?_⟩
          · rw [y1011]
            split
            · decide
            · exact b2 w w0 w1
          · rw [y1011, if_neg (by omega)]
            exact b3 w w0 w1
          · obtain ⟨d1, d2, d3, d4, d5, d6⟩ := b4 w w0 w1
            unfold iW1
            rw [y246, x246, y1011, s0 244 (by decide), s0 1013 (by decide), s0 241 (by decide), s0 243 (by decide), s0 1012 (by decide), s0 1014 (by decide), s0 1015 (by decide), s0 245 (by decide), s0 63 (by decide)]
            refine ⟨?_, d2, d3, d4, d5, d6⟩
            by_cases hw : w = p
            · rw [if_pos hw, if_pos hw]
              exact ⟨rfl, d1.2⟩
            · rw [if_neg hw, if_neg hw]
              exact d1
    · refine zcal_e 2 2 hI hY (by decide) (by decide) ?_ (by first | exact zd1_1 (by first | assumption | omega) (same_u (by decide) same_r) | exact zd2_1 (by first | assumption | omega) (same_u (by decide) same_r) | exact zd2_2 (by first | assumption | omega) (by first | assumption | omega) (same_u (by decide) same_r) | exact zd3_1 (by first | assumption | omega) (same_u (by decide) same_r) | exact zd3_2 (by first | assumption | omega) (by first | assumption | omega) (same_u (by decide) same_r) | exact zd3_3 (by first | assumption | omega) (by first | assumption | omega) (by first | assumption | omega) (same_u (by decide) same_r))
      · have hne : ¬zJ (X 246 p) = 0 := by
          rw [l_0, a1.1, zJ_eq (by omega) (by omega) (by omega) (by omega)]
          exact g2
        show ev_ G 79 0 _ [] _ = _
        rw [q_X11_pull_0, k13 h13, hat, t_R, g12_6 hV, t_b, if_neg hne, l_0, c_cSt0, t_Ve, t_x, t_w]
  · refine zcal_e 0 1 hI hY (by decide) (by decide) ?_ (by first | exact zd1_1 (by first | assumption | omega) (same_u (by decide) same_r) | exact zd2_1 (by first | assumption | omega) (same_u (by decide) same_r) | exact zd2_2 (by first | assumption | omega) (by first | assumption | omega) (same_u (by decide) same_r) | exact zd3_1 (by first | assumption | omega) (same_u (by decide) same_r) | exact zd3_2 (by first | assumption | omega) (by first | assumption | omega) (same_u (by decide) same_r) | exact zd3_3 (by first | assumption | omega) (by first | assumption | omega) (by first | assumption | omega) (same_u (by decide) same_r))
    · show ev_ G 79 0 _ [] _ = _
      rw [q_X11_pull_0, k13 h13, c_wireAt_no hF hp.1 hp.2 g1, t_Re, t_x]
end ZK
