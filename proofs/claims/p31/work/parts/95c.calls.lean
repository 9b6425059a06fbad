/-! THE TWO SIDES, 72: calls on both sides: weight, crimps, crimp -/
theorem zsm_tail {f : Int → Int} : ∀ (m k : Nat) (i : Int), (∀ j, i + m ≤ j → j < i + m + k → f j = 0) → zsm f i (m + k) = zsm f i m := by
  intro m
  induction m with
  | zero =>
    intro k
    induction k with
    | zero => intro i h; rfl
    | succ k ih =>
      intro i h
      have e := ih (i + 1) (fun j a b => h j (by omega) (by omega))
      have e0 := h i (by omega) (by omega)
      show f i + zsm f (i + 1) (0 + k) = 0
      rw [e0, e]
      rfl
  | succ m ih =>
    intro k i h
    have e := ih k (i + 1) (fun j a b => h j (by omega) (by omega))
    rw [Nat.add_right_comm]
    show f i + zsm f (i + 1) (m + k) = f i + zsm f (i + 1) m
    rw [e]
theorem zsm_b {f : Int → Int} {c : Int} : ∀ (k : Nat) (i : Int), (∀ j, i ≤ j → j < i + k → 0 ≤ f j ∧ f j ≤ c) → 0 ≤ zsm f i k ∧ zsm f i k ≤ c * k := by
  intro k
  induction k with
  | zero => intro i h; exact ⟨Int.le_refl _, by show (0 : Int) ≤ c * ((0 : Nat) : Int); omega⟩
  | succ k ih =>
    intro i h
    have e := ih (i + 1) (fun j a b => h j (by omega) (by omega))
    have e0 := h i (by omega) (by omega)
    show 0 ≤ f i + zsm f (i + 1) k ∧ f i + zsm f (i + 1) k ≤ c * ((k + 1 : Nat) : Int)
    have : c * ((k + 1 : Nat) : Int) = c * k + c := by rw [Int.natCast_add, Int.mul_add]; simp
    omega
section ZK
variable {Y : zLy} {n s : Nat} {X : zX} {G : Nat × Nat} {t p q r : Int}
theorem wu_v {f i v j : Int} : wu X f i v f j = if j = i then v else X f j := by
  by_cases h : j = i
  · rw [if_pos h, h, wu_eq]
  · rw [if_neg h, wu_ni h]
theorem zwin_e (h : iD t X) : zwin2 X = zwin X ∧ (0 ≤ zwin X ∧ zwin X < 10000) ∧ (0 ≤ zsm (X 505) 0 8 ∧ zsm (X 505) 0 8 ≤ 79992) := by
  obtain ⟨d1, d2, d3, d4, d5, d6⟩ := h
  have b8 := zsm_b (f := X 505) (c := 9999) 8 0 (fun j a b => by
    have := d5 j a (by omega)
    omega)
  have hb : 0 ≤ zsm (X 505) 0 8 ∧ zsm (X 505) 0 8 ≤ 79992 := ⟨b8.1, by have := b8.2; omega⟩
  unfold zwin2 zwin
  rw [d2]
  by_cases h3 : X 101 0 < 3
  · rw [if_pos h3, if_pos h3]
    exact ⟨rfl, by omega, hb⟩
  · rw [if_neg h3, if_neg h3]
    have e1 : zsm (X 1023) 0 (min (X 101 0) 8).toNat = zsm (X 505) 0 (min (X 101 0) 8).toNat := zsm_congr _ _ (fun j a b => (d5 j a (by omega)).1)
    have e2 : zsm (X 505) 0 8 = zsm (X 505) 0 (min (X 101 0) 8).toNat := by
      have := zsm_tail (f := X 505) (min (X 101 0) 8).toNat (8 - (min (X 101 0) 8).toNat) 0 (fun j a b => d6 j (by omega) (by omega))
      rw [show (min (X 101 0) 8).toNat + (8 - (min (X 101 0) 8).toNat) = 8 by omega] at this
      exact this
    have bm := zsm_b (f := X 505) (c := 9999) (min (X 101 0) 8).toNat 0 (fun j a b => by
      have := d5 j a (by omega)
      omega)
    rw [e1, ← e2]
    rw [← e2] at bm
    have hm : 0 < min (X 101 0) 8 := by omega
    refine ⟨rfl, ⟨Int.ediv_nonneg hb.1 (by omega), ?_⟩, hb⟩
    refine Int.ediv_lt_of_lt_mul hm ?_
    have : ((min (X 101 0) 8).toNat : Int) = min (X 101 0) 8 := by omega
    rw [this] at bm
    omega
theorem k_crimp (hY : wY Y n) (hI : iAll t Y.2.2.2.2 X) (ht : t < 1000) (hp : -2147483648 ≤ p ∧ p < 2147483648) : zcal [(1, 1)] t Y n s X (fun W => ev_ G 119 0 [.ref (wA Y 13 0), .int (zJ p)] [] W) (dCrimp X p) := by
  have hF := wY_F hY
  have h13 := hF.2.1
  have hIw := hF.1
  obtain ⟨hn, hn4⟩ := wY_n hY
  obtain ⟨h1, h2, h3, h4, h5, h6, h7, h8, h9, h10, h11, h12⟩ := id hI
  have h5' := hF.2.2.1
  obtain ⟨w1, w2, w3⟩ := zwin_e h7
  have z7 := h7
  unfold iD at z7
  obtain ⟨d1, d2, d3, d4, d5, d6⟩ := z7
  have hz : ∀ {X' : zX}, (∀ f ∈ [(422 : Int), 1023], X' f = X f) → zwin2 X' = zwin X := by
    intro X' g
    rw [← w1]
    unfold zwin2
    rw [g 422 (by decide), g 1023 (by decide)]
  by_cases g1 : 1 ≤ p ∧ p ≤ 9999
  · have hj := c_judge (G := G) (n := n) (s := s) (X := X) (f := p) hF (by omega) (by omega) (by omega) w2 (by omega) (by omega)
    by_cases g2 : zjd X p
    · have hc := hj.1 g2
      generalize hX1 : wu (wu (wu (wu X 100 0 (X 100 0 + 1)) 101 0 (X 101 0 + 1)) 505 (X 103 0) p) 103 0 (if 8 ≤ X 103 0 + 1 then 0 else X 103 0 + 1) = X1 at hc
      have s1 : zsame [100, 101, 505, 103] X X1 := by
        rw [← hX1]
        exact same_u (by decide) (same_u (by decide) (same_u (by decide) (same_u (by decide) same_r)))
      generalize hX0 : wu X1 444 0 0 = X0
      have s2 : zsame [100, 101, 505, 103, 444] X X0 := by
        rw [← hX0]
        exact same_u (by decide) (same_m s1 (by decide))
      have a21 : X0 421 0 = X 421 0 := by rw [s2 421 (by decide)]
      have a22 : X0 422 0 = X 422 0 := by rw [s2 422 (by decide)]
      have a23 : X0 1023 = X 1023 := s2 1023 (by decide)
      have aw : zwin2 X0 = zwin X := hz (same_g s2 (by decide))
      have ag : X0 422 0 < 3 ∨ 10 * (if zwin2 X0 < p then p - zwin2 X0 else zwin2 X0 - p) ≤ zwin2 X0 := by
        rw [a22, d2, aw]
        unfold zjd zabs at g2
        rcases g2 with g2 | g2
        · exact .inl g2
        · refine .inr ?_
          split at g2 <;> split <;> omega
      refine zcal_0 (X1 := X1) (X2 := wu (wu (wu X0 421 0 (X0 421 0 + 1)) 1023 (X0 422 0 % 8) p) 422 0 (X0 422 0 + 1)) 1 hY ?_ (zd1_0 g1 ⟨fun _ => ⟨rfl, by rw [wu_ne (by decide), wu_ne (by decide), wu_eq, a21], by rw [wu_eq, a22], fun k => by rw [wu_ne (by decide), wu_v, wu_ne (by decide), a22, a23], same_u (by decide) (same_u (by decide) (same_u (by decide) (same_m s2 (by decide))))⟩, fun g => absurd g2 g⟩) ?_ ?_ (fun f hf => funext fun j => by (try rw [← hX2]); (try rw [← hX0]); simp (disch := omega) only [wu_ne]) (fun f hf => by first | exact s0 f (by simp only [List.mem_cons, List.not_mem_nil, or_false, not_or]; omega) | (funext j; (try rw [← hX2]); (try rw [← hX0]); (try rw [← hX1]); (try rw [← hXB]); (try rw [← hXA]); simp (disch := omega) only [wu_ne]))
      · simp (disch := first | assumption | omega) only [q_X11_crimp_0, c_isWithin, ↓reduceIte, zB_T, zB_F, zB_if, ite_not, z_10, z_00, i_10, i_00, if_true, if_false, c_cIx0, c_cIx1, c_cAr0, c_cAr1, c_cSt0, c_cSt1, l_0, l_1, l_2, l_3, l_4, l_5, l_6, l_7, l_8, l_9, l_10, l_12, l_16, l_24, l_31, l_32, l_48, l_96, l_99, l_100, l_150, l_180, l_200, l_240, l_255, l_260, l_384, l_400, l_999, l_5000, l_9999, l_1000000, l_1000000000, t_I, t_Ie, t_R, t_Re, t_N, t_Nn, t_V, t_Ve, t_b, t_x, t_w, e_0, e_1, e_2, e_3, zJ_lt, zJ_le, zJ_eq, g1, and_self, g13_2, k5 h5', hc, show zJ 1 &&& zJ 1 = zJ 1 from rfl]
      · rw [wu_ne (by decide), wu_ne (by decide), wu_ne (by decide), ← hX0, wu_eq]
      · have s0 : zsame [100, 101, 505, 103, 444, 421, 1023, 422] X (wu (wu (wu X0 421 0 (X0 421 0 + 1)) 1023 (X0 422 0 % 8) p) 422 0 (X0 422 0 + 1)) := same_u (by decide) (same_u (by decide) (same_u (by decide) (same_m s2 (by decide))))
        have b100 : X0 100 0 = X 100 0 + 1 := by rw [← hX0, ← hX1, wu_ne (by decide), wu_ne (by decide), wu_ne (by decide), wu_ne (by decide), wu_eq]
        have b101 : X0 101 0 = X 101 0 + 1 := by rw [← hX0, ← hX1, wu_ne (by decide), wu_ne (by decide), wu_ne (by decide), wu_eq]
        have b103 : X0 103 0 = if 8 ≤ X 103 0 + 1 then 0 else X 103 0 + 1 := by rw [← hX0, ← hX1, wu_ne (by decide), wu_eq]
        have b505 : ∀ k, X0 505 k = if k = X 103 0 then p else X 505 k := by
          intro k
          rw [← hX0, ← hX1, wu_ne (by decide), wu_ne (by decide)]
          by_cases hk : k = X 103 0
          · rw [hk, wu_eq, if_pos rfl]
          · rw [wu_ni hk, if_neg hk, wu_ne (by decide), wu_ne (by decide)]
        refine ⟨iB_c h1 (same_g s0 (by decide)) rfl, iC_c h2 (same_g s0 (by decide)) rfl, iT_c h3 (same_g s0 (by decide)) rfl, iW_c h4 (same_g s0 (by decide)) (fun _ _ _ => rfl) hn, iF_c h5 (same_g s0 (by decide)), iO_c h6 (same_g s0 (by decide)), ?_, iR_c h8 (same_g s0 (by decide)) rfl, iM_c h9 (same_g s0 (by decide)), iV_c h10 (same_g s0 (by decide)), iH_c h11 (same_g s0 (by decide)), iS_c h12 (same_g s0 (by decide)) rfl rfl hn4⟩
        unfold iD
        rw [wu_ne (by decide : (421 : Int) ≠ 422), wu_ne (by decide : (421 : Int) ≠ 1023), wu_eq, wu_eq, wu_ne (by decide : (100 : Int) ≠ 422), wu_ne (by decide : (100 : Int) ≠ 1023), wu_ne (by decide : (100 : Int) ≠ 421), wu_ne (by decide : (101 : Int) ≠ 422), wu_ne (by decide : (101 : Int) ≠ 1023), wu_ne (by decide : (101 : Int) ≠ 421), wu_ne (by decide : (103 : Int) ≠ 422), wu_ne (by decide : (103 : Int) ≠ 1023), wu_ne (by decide : (103 : Int) ≠ 421), b100, b101, b103, a21, a22]
        refine ⟨by omega, by omega, by omega, ?_, fun k k0 k8 => ?_, fun k k1 k8 => ?_⟩
        · split <;> omega
        · rw [wu_ne (by decide : (1023 : Int) ≠ 422), wu_ne (by decide : (505 : Int) ≠ 422), wu_ne (by decide : (505 : Int) ≠ 1023), wu_ne (by decide : (505 : Int) ≠ 421), b505]
          have := d5 k k0 k8
          by_cases hk : k = X 103 0
          · rw [if_pos hk, hk, d4, d2, wu_eq]
            omega
          · rw [if_neg hk, wu_ni (by rw [d2, ← d4]; exact hk), wu_ne (by decide), a23]
            exact this
        · rw [wu_ne (by decide : (505 : Int) ≠ 422), wu_ne (by decide : (505 : Int) ≠ 1023), wu_ne (by decide : (505 : Int) ≠ 421), b505, if_neg (by omega)]
          exact d6 k (by omega) k8
    · have hc := hj.2 g2
      generalize hX1 : wu X 100 0 (X 100 0 + 1) = X1 at hc
      have s1 : zsame [100] X X1 := by
        rw [← hX1]
        exact same_u (by decide) same_r
      generalize hX0 : wu X1 444 0 0 = X0
      have s2 : zsame [100, 444] X X0 := by
        rw [← hX0]
        exact same_u (by decide) (same_m s1 (by decide))
      have a21 : X0 421 0 = X 421 0 := by rw [s2 421 (by decide)]
      have a22 : X0 422 0 = X 422 0 := by rw [s2 422 (by decide)]
      have a23 : X0 1023 = X 1023 := s2 1023 (by decide)
      have aw : zwin2 X0 = zwin X := hz (same_g s2 (by decide))
      have ag : ¬(X0 422 0 < 3 ∨ 10 * (if zwin2 X0 < p then p - zwin2 X0 else zwin2 X0 - p) ≤ zwin2 X0) := by
        rw [a22, d2, aw]
        unfold zjd zabs at g2
        intro g
        refine g2 ?_
        rcases g with g | g
        · exact .inl g
        · refine .inr ?_
          split at g <;> split <;> omega
      refine zcal_0 (X1 := X1) (X2 := wu X0 421 0 (X0 421 0 + 1)) 0 hY ?_ (zd1_0 g1 ⟨fun g => absurd g g2, fun _ => ⟨rfl, by rw [wu_eq, a21], same_u (by decide) (same_m s2 (by decide))⟩⟩) ?_ ?_ (fun f hf => funext fun j => by (try rw [← hX2]); (try rw [← hX0]); simp (disch := omega) only [wu_ne]) (fun f hf => by first | exact s0 f (by simp only [List.mem_cons, List.not_mem_nil, or_false, not_or]; omega) | (funext j; (try rw [← hX2]); (try rw [← hX0]); (try rw [← hX1]); (try rw [← hXB]); (try rw [← hXA]); simp (disch := omega) only [wu_ne]))
      · simp (disch := first | assumption | omega) only [q_X11_crimp_0, c_isWithin, ↓reduceIte, zB_T, zB_F, zB_if, ite_not, z_10, z_00, i_10, i_00, if_true, if_false, c_cIx0, c_cIx1, c_cAr0, c_cAr1, c_cSt0, c_cSt1, l_0, l_1, l_2, l_3, l_4, l_5, l_6, l_7, l_8, l_9, l_10, l_12, l_16, l_24, l_31, l_32, l_48, l_96, l_99, l_100, l_150, l_180, l_200, l_240, l_255, l_260, l_384, l_400, l_999, l_5000, l_9999, l_1000000, l_1000000000, t_I, t_Ie, t_R, t_Re, t_N, t_Nn, t_V, t_Ve, t_b, t_x, t_w, e_0, e_1, e_2, e_3, zJ_lt, zJ_le, zJ_eq, g1, and_self, g13_2, k5 h5', hc, show zJ 0 &&& zJ 1 = zJ 0 from rfl]
      · rw [wu_ne (by decide), ← hX0, wu_eq]
      · have s0 : zsame [100, 444, 421] X (wu X0 421 0 (X0 421 0 + 1)) := same_u (by decide) (same_m s2 (by decide))
        have b100 : X0 100 0 = X 100 0 + 1 := by rw [← hX0, ← hX1, wu_ne (by decide), wu_eq]
        refine ⟨iB_c h1 (same_g s0 (by decide)) rfl, iC_c h2 (same_g s0 (by decide)) rfl, iT_c h3 (same_g s0 (by decide)) rfl, iW_c h4 (same_g s0 (by decide)) (fun _ _ _ => rfl) hn, iF_c h5 (same_g s0 (by decide)), iO_c h6 (same_g s0 (by decide)), ?_, iR_c h8 (same_g s0 (by decide)) rfl, iM_c h9 (same_g s0 (by decide)), iV_c h10 (same_g s0 (by decide)), iH_c h11 (same_g s0 (by decide)), iS_c h12 (same_g s0 (by decide)) rfl rfl hn4⟩
        unfold iD
        rw [s0 422 (by decide), s0 101 (by decide), s0 103 (by decide), s0 1023 (by decide), s0 505 (by decide), wu_eq, wu_ne (by decide : (100 : Int) ≠ 421), b100, a21]
        exact ⟨by omega, d2, by omega, d4, d5, d6⟩
  · refine zcal_e 1 1 hI hY (by decide) (by decide) ?_ (by first | exact zd1_1 (by first | assumption | omega) (same_u (by decide) same_r) | exact zd2_1 (by first | assumption | omega) (same_u (by decide) same_r) | exact zd2_2 (by first | assumption | omega) (by first | assumption | omega) (same_u (by decide) same_r) | exact zd3_1 (by first | assumption | omega) (same_u (by decide) same_r) | exact zd3_2 (by first | assumption | omega) (by first | assumption | omega) (same_u (by decide) same_r) | exact zd3_3 (by first | assumption | omega) (by first | assumption | omega) (by first | assumption | omega) (same_u (by decide) same_r))
    · simp (disch := first | assumption | omega) only [q_X11_crimp_0, c_isWithin, ↓reduceIte, zB_T, zB_F, zB_if, ite_not, z_10, z_00, i_10, i_00, if_true, if_false, c_cIx0, c_cIx1, c_cAr0, c_cAr1, c_cSt0, c_cSt1, l_0, l_1, l_2, l_3, l_4, l_5, l_6, l_7, l_8, l_9, l_10, l_12, l_16, l_24, l_31, l_32, l_48, l_96, l_99, l_100, l_150, l_180, l_200, l_240, l_255, l_260, l_384, l_400, l_999, l_5000, l_9999, l_1000000, l_1000000000, t_I, t_Ie, t_R, t_Re, t_N, t_Nn, t_V, t_Ve, t_b, t_x, t_w, e_0, e_1, e_2, e_3, g1]
end ZK
