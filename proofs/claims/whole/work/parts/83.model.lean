/-! THE TWO SIDES, 34: the reference lays a way -/
theorem zwy_f {w : Int} {b : Nat → Int} : ∀ (k t : Nat) (X : zX) (f j : Int), ¬(f = 1015 ∧ 16 * w + X 1014 w ≤ j ∧ j < 16 * w + X 1014 w + k) → ¬(f = 1014 ∧ j = w) → zwy w b t k X f j = X f j := by
  intro k
  induction k with
  | zero => intro t X f j h h'; rfl
  | succ k ih =>
    intro t X f j h h'
    have e : wu (wu X 1015 (16 * w + X 1014 w) (b t)) 1014 w (X 1014 w + 1) 1014 w = X 1014 w + 1 := if_pos ⟨rfl, rfl⟩
    show zwy w b (t + 1) k (wu (wu X 1015 (16 * w + X 1014 w) (b t)) 1014 w (X 1014 w + 1)) f j = X f j
    rw [ih _ _ _ _ (by rw [e]; omega) h']
    unfold wu
    rw [if_neg h', if_neg (by omega)]
theorem zwy_m {w : Int} {b : Nat → Int} : ∀ (k t : Nat) (X : zX), zwy w b t k X 1014 w = X 1014 w + k := by
  intro k
  induction k with
  | zero => intro t X; simp [zwy]
  | succ k ih =>
    intro t X
    have e : wu (wu X 1015 (16 * w + X 1014 w) (b t)) 1014 w (X 1014 w + 1) 1014 w = X 1014 w + 1 := if_pos ⟨rfl, rfl⟩
    show zwy w b (t + 1) k (wu (wu X 1015 (16 * w + X 1014 w) (b t)) 1014 w (X 1014 w + 1)) 1014 w = _
    rw [ih, e]
    omega
theorem zwy_b {w : Int} {b : Nat → Int} : ∀ (k t : Nat) (X : zX) (q : Nat), X 1014 w = t → t ≤ q → q < t + k → zwy w b t k X 1015 (16 * w + q) = b q := by
  intro k
  induction k with
  | zero => intro t X q hm h h'; omega
  | succ k ih =>
    intro t X q hm h h'
    have e : wu (wu X 1015 (16 * w + X 1014 w) (b t)) 1014 w (X 1014 w + 1) 1014 w = X 1014 w + 1 := if_pos ⟨rfl, rfl⟩
    show zwy w b (t + 1) k (wu (wu X 1015 (16 * w + X 1014 w) (b t)) 1014 w (X 1014 w + 1)) 1015 (16 * w + q) = _
    by_cases hq : q = t
    · subst hq
      rw [zwy_f _ _ _ _ _ (by rw [e]; omega) (by omega)]
      unfold wu
      rw [if_neg (by omega), if_pos ⟨rfl, by omega⟩]
    · exact ih (t + 1) _ q (by rw [e, hm]; omega) (by omega) (by omega)
section ZM
variable {Y : zLy} {n s : Nat} {X : zX} {G : Nat × Nat} {i j : Int}
theorem m_lays {w fr : Int} {c : Int → Int} {v b : Nat → Int} {L : Nat} (hM : wM Y) (hw : 0 ≤ w ∧ w < 24) (hc : zcbm c) (hL : L ≤ 16) (hb : wBm X (X 400 0)) (hn : 0 ≤ X 400 0) (hx : X 1016 = c) (hch : zch X c (X 400 0).toNat v b L) (hv : v 0 = fr) : ev_ G 74 0 [.ref (wA Y 14 0), .int (zJ w), .int (zJ fr), zU, zU, zU, zU] [] (wd Y n s X) = some (.inl none, wd Y n s (zrm2 (-1) (16 * w) L (zwy w b 0 L (wu X 1014 w 0)))) := by
  have h14 := hM.2.1
  have e0 : ∀ f j, f ≠ 1014 → wu X 1014 w 0 f j = X f j := fun f j h => if_neg (fun q => h q.1)
  have e1 : ∀ f, f ≠ 1014 → wu X 1014 w 0 f = X f := fun f h => funext fun j => e0 f j h
  have em : wu X 1014 w 0 1014 w = 0 := if_pos ⟨rfl, rfl⟩
  have h400 := e0 400 0 (by decide)
  have hb' : wBm (wu X 1014 w 0) (X 400 0) := by
    unfold wBm at *
    rw [e1 1001 (by decide), e1 1002 (by decide), e1 1003 (by decide)]
    exact hb
  have hch' : zch (wu X 1014 w 0) c (X 400 0).toNat v b L := by
    refine ⟨hch.1, hch.2.1, fun t' ht' => ?_⟩
    obtain ⟨d1, d2, d3, d4, d5⟩ := hch.2.2 t' ht'
    refine ⟨d1, d2, ?_, d4, ?_⟩
    · rw [zlwm_c (e1 1001 (by decide)) (e1 1002 (by decide)) (e1 1003 (by decide)) (e1 1004 (by decide))]
      exact d3
    · rw [e1 1001 (by decide), e1 1002 (by decide)]
      exact d5
  obtain ⟨u, u2, hh⟩ := m_layC (G := G) (n := n) (s := s) (fr := fr) hM hw hc hL L 0 zU zU zU (wu X 1014 w 0) (by rw [h400]; exact hb') (by rw [h400]; exact hn) (by rw [e1 1016 (by decide)]; exact hx) (by rw [h400]; exact hch') (by omega) em
  have hm := zwy_m (w := w) (b := b) L 0 (wu X 1014 w 0)
  rw [em, Int.zero_add] at hm
  rw [q_X12_lays_0]
  simp (disch := first | assumption | omega) only [g14_14, t_I, t_Ie, t_R, t_Re, t_N, t_Nn, t_V, t_Ve, t_b, t_x, t_w, e_0, e_1, e_2, e_3, l_0, l_1, l_2, l_3, l_4, l_5, l_6, l_7, l_8, l_9, l_10, l_12, l_16, l_24, l_31, l_32, l_48, l_96, l_99, l_100, l_150, l_180, l_200, l_240, l_255, l_260, l_384, l_400, l_999, l_5000, l_9999, l_1000000, l_1000000000]
  rw [ms_14 hM hw.1 hw.2, t_b]
  rw [hv] at hh
  rw [hh, m_layR hM hw L (16 * w) _ _ _ (by rw [hm]; omega) (fun k h1 h2 => by
    rw [hm] at h2
    obtain ⟨q, hq⟩ : ∃ q : Nat, k = 16 * w + q := ⟨(k - 16 * w).toNat, by omega⟩
    subst hq
    rw [zwy_b L 0 _ q em (Nat.zero_le q) (by omega)]
    have := (hch.2.2 q (by omega)).2.2.2.1
    have := hb.1
    omega) (Int.le_refl _) (by rw [hm])]
end ZM
