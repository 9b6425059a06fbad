/-! THE TWO SIDES, 65: a wire's way -/
section ZS
variable {Y Y' Y2 : zLy} {n n' n2 s : Nat} {X X' : zX} {G : Nat × Nat}
/-- one bundle more on a wire's way -/
theorem c_goBy {w : Int} {b : Nat → Int} {t : Nat} (hW : wW Y n w b t) (hG : Y.1 = G.1) (ht : t < 16) (hb : 0 ≤ b t ∧ b t < Y.2.2.2.2 0 0) : ∃ (Y' : zLy) (n' s' : Nat), ev_ G 64 0 [.ref (wA Y 12 w), .ref (wA Y 3 (b t))] [] (wd Y n s X) = some (.inl none, wd Y' n' s' (wu (wu (wu X 20 (5 + w) (X 20 (5 + w) + 1)) 64 (b t) (X 64 (b t) - 1)) 245 w (X 245 w + X 63 (b t)))) ∧ wW Y' n' w b (t + 1) ∧ wle Y n Y' n' ∧ n' ≤ n + 1 ∧ s ≤ s' ∧ s' ≤ s + 50 ∧ (∀ a i, ¬(a = 4 ∧ i = 16 * w + t) → i ≠ 5 + w ∨ 2 ≤ a → Y'.2.2.2.2 a i = Y.2.2.2.2 a i) := by
  have hF := wW_F hW
  have hL := wW_L hW
  obtain ⟨hK, hQ, h3, h4, h5, h6, h7, h8, h9⟩ := id hW
  obtain ⟨q0, q1, q2, q3, q4, q5, q7⟩ := id hQ
  have hw0 : 0 ≤ w := by rw [← h3]; exact q2.1
  have hV3 : wV Y 3 (b t) := hF.2.2.2.2.2.2.2.2.1 (b t) hb.1 hb.2
  have hV12 : wV Y 12 w := wW_st hW (by decide) (.inr (.inr (.inl ⟨rfl, rfl⟩)))
  obtain ⟨a1, hK1⟩ := wK_q (Y := Y) (n := n) (s := s) (X := X) (j := 4) (i := 16 * w + t) (v := b t) hK (.inr (.inr rfl)) (fun g => absurd rfl g) (fun _ l x g1 g2 g3 g4 g5 => by
    have hl : (0 ≤ l ∧ l < 5 + Y.2.2.2.2 0 2) ∨ (29 ≤ l ∧ l < 29 + Y.2.2.2.2 0 4) ∨ l = 5 + w := by
      rcases g1 with g1 | g1 | g1 | g1
      · rcases g1.1 with g | g
        · exact .inl g
        · exact .inr (.inl g)
      · exact absurd g1.1 (by decide)
      · exact absurd g1.1 (by decide)
      · exact .inr (.inr g1.2.1)
    by_cases hlw : l = 5 + w
    · subst hlw
      rw [h5] at g5
      omega
    · have := h7 (l - 5) (by omega) (by omega)
      rw [show 5 + (l - 5) = l by omega] at this
      omega)
  generalize hZ : yQ Y 4 (16 * w + t) (b t) = Z at a1 hK1
  have zA : ∀ k i, wA Z k i = wA Y k i := fun k i => by rw [← hZ]; rfl
  have zD : Z.2.2.1 = Y.2.2.1 := by rw [← hZ]; rfl
  have zB1 : Z.2.1 = Y.2.1 := by rw [← hZ]; rfl
  have z1 : Z.1 = Y.1 := by rw [← hZ]; rfl
  have zQ4 : Z.2.2.2.2 4 (16 * w + t) = b t := by
    rw [← hZ]
    exact if_pos ⟨rfl, rfl⟩
  have zQo : ∀ a i, ¬(a = 4 ∧ i = 16 * w + t) → Z.2.2.2.2 a i = Y.2.2.2.2 a i := by
    intro a i g
    rw [← hZ]
    exact if_neg g
  have zq0 : ∀ i, Z.2.2.2.2 0 i = Y.2.2.2.2 0 i := fun i => zQo 0 i (fun g => absurd g.1 (by decide))
  have zq1 : ∀ i, Z.2.2.2.2 1 i = Y.2.2.2.2 1 i := fun i => zQo 1 i (fun g => absurd g.1 (by decide))
  have zL : wLs Z (5 + w) := by
    obtain ⟨l1, l2, l3, l4, l5⟩ := hL
    unfold wLs wV
    rw [zq0, zq1, zD, zA, zA]
    exact ⟨l1, l2, l3, l4, l5⟩
  have hwt : wet Z.2.2.2.2 (5 + w) (Z.2.2.2.2 0 (5 + w)) = (3, b t) := by
    rw [zq0, h5]
    unfold wet
    rw [if_neg (by omega), if_neg (by omega), if_neg (by omega), if_neg (by omega), if_neg (by omega), if_pos (by omega), show 16 * (5 + w - 5) + (t : Int) = 16 * w + t by omega, zQ4]
  have ql := q5 (5 + w) (by omega) (by omega)
  obtain ⟨Y4, n4, s4, S4, e1, e2, e3, e4, e5, e6, e7, e8, e9, e10, e11, e12, e13, e14⟩ := c_add (G := G) (n := n) (s := s) (X := X) (e := wA Y 3 (b t)) (l := 5 + w) hK1 (by rw [z1]; exact hG) zL (by rw [zq1]; omega) (fun g => by
    rw [zq1]
    rcases g with g | g | g | g
    · have := g.1
      omega
    · exact absurd g.1 (by decide)
    · exact absurd g.1 (by decide)
    · exact g.2.2) (by
    rw [wel_t, hwt]
    exact (zA _ _).symm) (by
    rw [hwt]
    exact .inl hb)
  rw [zq0, h5] at e6 e11 e12 e13
  have y4 : ∀ a i, ¬(a = 4 ∧ i = 16 * w + t) → i ≠ 5 + w ∨ 2 ≤ a → Y4.2.2.2.2 a i = Y.2.2.2.2 a i := fun a i g1 g2 => (e10 a i g2).trans (zQo a i g1)
  have y0 : ∀ i, i ≠ 5 + w → Y4.2.2.2.2 0 i = Y.2.2.2.2 0 i := fun i hi => y4 0 i (fun g => absurd g.1 (by decide)) (.inl hi)
  have y1 : ∀ i, i ≠ 5 + w → Y4.2.2.2.2 1 i = Y.2.2.2.2 1 i := fun i hi => y4 1 i (fun g => absurd g.1 (by decide)) (.inl hi)
  have hA : ∀ k i, k ≠ 16 → wA Y4 k i = wA Y k i := fun k i hk => (e8 k i hk).trans (zA k i)
  have hW4 : wW Y4 n4 w b (t + 1) := by
    refine ⟨wK_S e2 (fun k i hk => ?_), ⟨?_, ?_, ?_, ?_, ?_, fun l l1 l2 => ?_, fun v v1 v2 => ?_⟩, ?_, h4, ?_, fun l hl => ?_, fun v v1 v2 => ?_, fun j hj => ?_, by omega⟩
    · rw [e9]
      have ew : ∀ k i, ¬(k = 16 ∧ i = 5 + w) → (wS Y4.2.2.2.2 k i ↔ wS Y.2.2.2.2 k i) := by
        intro k i hki
        rcases Nat.lt_or_ge k 17 with g | g
        · by_cases hk0 : k = 0
          · subst hk0; exact Iff.rfl
          · have f0 := y0 0 (by omega)
            have f1 := y0 1 (by omega)
            have f2 := y0 2 (by omega)
            have f3 := y0 3 (by omega)
            have f4 := y0 4 (by omega)
            rcases k_17 g hk0 with rfl | rfl | rfl | rfl | rfl | rfl | rfl | rfl | rfl | rfl | rfl | rfl | rfl | rfl | rfl | rfl <;> simp only [wS, f0, f1, f2, f3, f4]
            rw [y1 i (fun g => hki ⟨rfl, g⟩)]
        · exact ⟨fun h => absurd h (wS_k g), fun h => absurd h (wS_k g)⟩
      have zw : ∀ k i, wS Z.2.2.2.2 k i ↔ wS Y.2.2.2.2 k i := by
        intro k i
        rcases Nat.lt_or_ge k 17 with g | g
        · by_cases hk0 : k = 0
          · subst hk0; exact Iff.rfl
          · rcases k_17 g hk0 with rfl | rfl | rfl | rfl | rfl | rfl | rfl | rfl | rfl | rfl | rfl | rfl | rfl | rfl | rfl | rfl <;> simp only [wS, zq0, zq1]
        · exact ⟨fun h => absurd h (wS_k g), fun h => absurd h (wS_k g)⟩
      unfold wWs
      have e12' : 0 < Y4.2.2.2.2 1 (5 + w) := by omega
      by_cases hki : k = 16 ∧ i = 5 + w
      · obtain ⟨rfl, rfl⟩ := hki
        exact ⟨fun _ => .inr (.inr (.inr ⟨rfl, rfl, e12'⟩)), fun _ => .inr ⟨rfl, rfl⟩⟩
      · rw [ew k i hki]
        constructor
        · rintro ((h | h | h | h) | h)
          · exact .inl h
          · exact .inr (.inl h)
          · exact .inr (.inr (.inl h))
          · exact absurd ⟨h.1, h.2.1⟩ hki
          · exact absurd h hki
        · rintro (h | h | h | h)
          · exact .inl (.inl h)
          · exact .inl (.inr (.inl h))
          · exact .inl (.inr (.inr (.inl h)))
          · exact absurd ⟨h.1, h.2.1⟩ hki
    · rw [y0 0 (by omega)]; exact q0
    · rw [y0 1 (by omega)]; exact q1
    · rw [y0 2 (by omega)]; exact q2
    · rw [y0 3 (by omega)]; exact q3
    · rw [y0 4 (by omega)]; exact q4
    · by_cases hl : l = 5 + w
      · subst hl
        rw [e11]
        rw [zq1] at e13
        omega
      · rw [y0 l hl, y1 l hl]
        exact q5 l l1 l2
    · rw [y0 4 (by omega)] at v2
      rw [y0 _ (by omega)]
      exact q7 v v1 v2
    · rw [y0 2 (by omega)]; exact h3
    · rw [e11]; omega
    · rw [y0 4 (by omega)] at hl
      rw [y0 l (by omega), y1 l (by omega)]
      exact h6 l hl
    · rw [y0 _ (by omega)]
      exact h7 v v1 v2
    · by_cases hjt : j = t
      · subst hjt
        rw [e10 4 _ (.inr (by decide)), zQ4]
      · rw [y4 4 _ (fun g => hjt (by have := g.2; omega)) (.inr (by decide))]
        exact h8 j (by omega)
  have hF4 := wW_F hW4
  have hV3' : wV Y4 3 (b t) := hF4.2.2.2.2.2.2.2.2.1 (b t) hb.1 (by rw [y0 0 (by omega)]; exact hb.2)
  have hV12' : wV Y4 12 w := wW_st hW4 (by decide) (.inr (.inr (.inl ⟨rfl, rfl⟩)))
  have hI4 := hF4.1
  refine ⟨Y4, n4, s4, ?_, hW4, ⟨e3, by rw [e7, z1], fun k i k1 k2 k3 => ⟨(e2.2.2.1 k i k2).mpr ((e9 k i).mpr (.inl ((hK.2.2.1 k i k2).mp k3))), hA k i k1⟩, fun a ha ha2 => ?_⟩, e4, e5, by omega, y4⟩
  · have gl : zgR 11 7 (wd Y n s X) (wA Y 12 w) = some (wA Y 1 (5 + w)) := g12_7 hV12
    rw [q_X10_goBy_0, gl, t_b, k1 hL.1, ← a1, ← zA 1 (5 + w), e1, t_I]
    rw [← hA 12 w (by decide), ← hA 3 (b t) (by decide)]
    simp (disch := first | assumption | omega) only [g3_4, p3_4, g12_5, g3_3, p12_5, t_I, t_Ie, t_R, t_Re, t_N, t_Nn, t_V, t_Ve, t_b, t_x, t_w, e_0, e_1, e_2, e_3, l_0, l_1, l_2, l_3, l_4, l_5, l_6, l_7, l_8, l_9, l_10, l_12, l_16, l_24, l_31, l_32, l_48, l_96, l_99, l_100, l_150, l_180, l_200, l_240, l_255, l_260, l_384, l_400, l_999, l_5000, l_9999, l_1000000, l_1000000000, zJ_add, zJ_sub, zJ_mul, zJ_neg]
    have e1 : wu X 20 (5 + w) (X 20 (5 + w) + 1) 64 (b t) = X 64 (b t) := wu_ne (by omega)
    have e2 : ∀ v, wu (wu X 20 (5 + w) (X 20 (5 + w) + 1)) 64 (b t) v 245 w = X 245 w := fun v => by rw [wu_ne (by omega), wu_ne (by omega)]
    have e3 : ∀ v, wu (wu X 20 (5 + w) (X 20 (5 + w) + 1)) 64 (b t) v 63 (b t) = X 63 (b t) := fun v => by rw [wu_ne (by omega), wu_ne (by omega)]
    rw [e1, e2, e3]
  · have := e14 a ha (by rw [zD]; exact ha2)
    rw [zB1] at this
    exact this
end ZS
