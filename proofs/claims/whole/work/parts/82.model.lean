/-! THE TWO SIDES, 33: the reference lays a way: the chain -/
section ZM
variable {Y : zLy} {n s : Nat} {X : zX} {G : Nat × Nat} {i j : Int}
theorem m_layC {w fr : Int} {c : Int → Int} {v b : Nat → Int} {L : Nat} (hM : wM Y) (hw : 0 ≤ w ∧ w < 24) (hc : zcbm c) (hL : L ≤ 16) : ∀ (k t : Nat) (u u2 u3 : Value) (X : zX), wBm X (X 400 0) → 0 ≤ X 400 0 → X 1016 = c → zch X c (X 400 0).toNat v b L → t + k = L → X 1014 w = t → ∃ u' u2', ev_ G 74 9 [.ref (wA Y 14 0), .int (zJ w), .int (zJ fr), .int (zJ (v t)), u, u2, u3] [] (wd Y n s X) = ev_ G 74 142 [.ref (wA Y 14 0), .int (zJ w), .int (zJ fr), .int (zJ (v L)), .int (zJ (16 * w)), u', u2'] [] (wd Y n s (zwy w b t k X)) := by
  have h14 := hM.2.1
  intro k
  induction k with
  | zero =>
    intro t u u2 u3 X hb hn hx hch he hm
    have e : t = L := by omega
    subst e
    have b1 := hc (v t)
    have L3 : zld false (wd Y n s X) (wA Y 15 516) (zJ (v t)) = some (zJ (c (v t))) := by rw [ml_16 hM hch.2.1.1 hch.2.1.2, hx]
    refine ⟨u2, u3, ?_⟩
    rw [q_X12_lays_9]
    simp (disch := first | assumption | omega) only [g14_16, t_I, t_Ie, t_R, t_Re, t_N, t_Nn, t_V, t_Ve, t_b, t_x, t_w, e_0, e_1, e_2, e_3, L3, l_0, l_1, l_2, l_3, l_4, l_5, l_6, l_7, l_8, l_9, l_10, l_12, l_16, l_24, l_31, l_32, l_48, l_96, l_99, l_100, l_150, l_180, l_200, l_240, l_255, l_260, l_384, l_400, l_999, l_5000, l_9999, l_1000000, l_1000000000, zJ_lt, zJ_le, zJ_eq, zJ_add, zJ_sub, zJ_mul, zJ_neg]
    rw [if_pos hch.1]
    rfl
  | succ k ih =>
    intro t u u2 u3 X hb hn hx hch he hm
    obtain ⟨c1, c2, c3, c4, c5⟩ := hch.2.2 t (by omega)
    obtain ⟨r1, r2, r3, r4, r5, r6, r7⟩ := hb.2 (b t) c4.1 (by omega)
    have hnb := hb.1
    have b1 := hc (v t)
    have L3 : zld false (wd Y n s X) (wA Y 15 516) (zJ (v t)) = some (zJ (c (v t))) := by rw [ml_16 hM c2.1 c2.2, hx]
    obtain ⟨u', hh⟩ := m_layF (G := G) (n := n) (s := s) (w := w) (fr := fr) (v := v t) hM hb c2 hc hx (X 400 0).toNat (-1) u3 (by omega)
    rw [← c3, show (((X 400 0).toNat : Nat) : Int) - 1 = X 400 0 - 1 by omega] at hh
    have e0 : ∀ f j, f ≠ 1015 → f ≠ 1014 → wu (wu X 1015 (16 * w + X 1014 w) (b t)) 1014 w (X 1014 w + 1) f j = X f j := by
      intro f j h h'
      unfold wu
      rw [if_neg (fun q => h' q.1), if_neg (fun q => h q.1)]
    have e1 : ∀ f, f ≠ 1015 → f ≠ 1014 → wu (wu X 1015 (16 * w + X 1014 w) (b t)) 1014 w (X 1014 w + 1) f = X f := fun f h h' => funext fun j => e0 f j h h'
    have e2 : wu X 1015 (16 * w + X 1014 w) (b t) 1014 w = X 1014 w := if_neg (by omega)
    have hb' : wBm (wu (wu X 1015 (16 * w + X 1014 w) (b t)) 1014 w (X 1014 w + 1)) (X 400 0) := by
      unfold wBm at *
      rw [e1 1001 (by decide) (by decide), e1 1002 (by decide) (by decide), e1 1003 (by decide) (by decide)]
      exact hb
    have hch' : zch (wu (wu X 1015 (16 * w + X 1014 w) (b t)) 1014 w (X 1014 w + 1)) c (X 400 0).toNat v b L := by
      refine ⟨hch.1, hch.2.1, fun t' ht' => ?_⟩
      obtain ⟨d1, d2, d3, d4, d5⟩ := hch.2.2 t' ht'
      refine ⟨d1, d2, ?_, d4, ?_⟩
      · rw [zlwm_c (e1 1001 (by decide) (by decide)) (e1 1002 (by decide) (by decide)) (e1 1003 (by decide) (by decide)) (e1 1004 (by decide) (by decide))]
        exact d3
      · rw [e1 1001 (by decide) (by decide), e1 1002 (by decide) (by decide)]
        exact d5
    have h400 := e0 400 0 (by decide) (by decide)
    obtain ⟨w1, w2, hih⟩ := ih (t + 1) (.int (zJ (b t))) (.int (zJ (-1))) u' (wu (wu X 1015 (16 * w + X 1014 w) (b t)) 1014 w (X 1014 w + 1)) (by rw [h400]; exact hb') (by rw [h400]; exact hn) (by rw [e1 1016 (by decide) (by decide)]; exact hx) (by rw [h400]; exact hch') (by omega) (by unfold wu; rw [if_pos ⟨rfl, rfl⟩, hm]; omega)
    have hac := m_across (G := G) (n := n) (s := s) (X := wu (wu X 1015 (16 * w + X 1014 w) (b t)) 1014 w (X 1014 w + 1)) (i := b t) (v := v t) hM c4.1 (by omega) (by rw [e0 1001 _ (by decide) (by decide)]; exact ⟨r1, r2⟩) (by rw [e0 1002 _ (by decide) (by decide)]; exact ⟨r3, r4⟩) (by omega)
    rw [e0 1001 _ (by decide) (by decide), e0 1002 _ (by decide) (by decide), ← c5] at hac
    refine ⟨w1, w2, ?_⟩
    rw [q_X12_lays_9]
    simp (disch := first | assumption | omega) only [g14_16, g14_0, t_I, t_Ie, t_R, t_Re, t_N, t_Nn, t_V, t_Ve, t_b, t_x, t_w, e_0, e_1, e_2, e_3, L3, l_0, l_1, l_2, l_3, l_4, l_5, l_6, l_7, l_8, l_9, l_10, l_12, l_16, l_24, l_31, l_32, l_48, l_96, l_99, l_100, l_150, l_180, l_200, l_240, l_255, l_260, l_384, l_400, l_999, l_5000, l_9999, l_1000000, l_1000000000, zJ_lt, zJ_le, zJ_eq, zJ_add, zJ_sub, zJ_mul, zJ_neg, zJ_neg]
    rw [if_neg (by omega), hh, q_X12_lays_29, if_pos (by decide)]
    simp (disch := first | assumption | omega) only [g14_15, g14_14, t_I, t_Ie, t_R, t_Re, t_N, t_Nn, t_V, t_Ve, t_b, t_x, t_w, e_0, e_1, e_2, e_3, l_0, l_1, l_2, l_3, l_4, l_5, l_6, l_7, l_8, l_9, l_10, l_12, l_16, l_24, l_31, l_32, l_48, l_96, l_99, l_100, l_150, l_180, l_200, l_240, l_255, l_260, l_384, l_400, l_999, l_5000, l_9999, l_1000000, l_1000000000]
    rw [ml_14 hM hw.1 hw.2, t_b]
    simp only [zJ_add, zJ_sub, zJ_mul, zJ_neg]
    rw [ms_15 hM (by omega) (by omega), t_b]
    simp (disch := first | assumption | omega) only [g14_14, t_I, t_Ie, t_R, t_Re, t_N, t_Nn, t_V, t_Ve, t_b, t_x, t_w, e_0, e_1, e_2, e_3]
    rw [ml_14 hM hw.1 hw.2, t_b, e2, zJ_add, ms_14 hM hw.1 hw.2, t_b, k14 h14, hac, t_I, hih]
    rfl
end ZM
