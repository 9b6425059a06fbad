/-! THE TWO SIDES, 81: calls on both sides: limits, cover -/
theorem zbO_k : ∀ o : Fin 256, ∀ v : Fin 8, 0 ≤ zbO (o.val : Int) (v.val : Int) ∧ zbO (o.val : Int) (v.val : Int) < 256 := by decide +kernel
theorem zbC_k : ∀ o : Fin 256, ∀ v : Fin 8, 0 ≤ zbC (o.val : Int) (v.val : Int) ∧ zbC (o.val : Int) (v.val : Int) < 256 := by decide +kernel
theorem zbO_t : ∀ v w : Fin 8, ∀ o : Fin 256, zbt (zbO (o.val : Int) (v.val : Int)) (w.val : Int) = (decide (w = v) || zbt (o.val : Int) (w.val : Int)) := by decide +kernel
theorem zbC_t : ∀ v w : Fin 8, ∀ o : Fin 256, zbt (zbC (o.val : Int) (v.val : Int)) (w.val : Int) = (!decide (w = v) && zbt (o.val : Int) (w.val : Int)) := by decide +kernel
theorem zbO_r {o v : Int} (h : 0 ≤ o ∧ o < 256) (h' : 0 ≤ v ∧ v < 8) : 0 ≤ zbO o v ∧ zbO o v < 256 := by
  obtain ⟨a, rfl⟩ := zJ_fin h.1 256 (by omega)
  obtain ⟨b, rfl⟩ := zJ_fin h'.1 8 (by omega)
  exact zbO_k a b
theorem zbC_r {o v : Int} (h : 0 ≤ o ∧ o < 256) (h' : 0 ≤ v ∧ v < 8) : 0 ≤ zbC o v ∧ zbC o v < 256 := by
  obtain ⟨a, rfl⟩ := zJ_fin h.1 256 (by omega)
  obtain ⟨b, rfl⟩ := zJ_fin h'.1 8 (by omega)
  exact zbC_k a b
theorem zbO_b {o v w : Int} (h : 0 ≤ o ∧ o < 256) (h' : 0 ≤ v ∧ v < 8) (h2 : 0 ≤ w ∧ w < 8) : zbt (zbO o v) w = true ↔ (w = v ∨ zbt o w = true) := by
  obtain ⟨a, rfl⟩ := zJ_fin h.1 256 (by omega)
  obtain ⟨b, rfl⟩ := zJ_fin h'.1 8 (by omega)
  obtain ⟨c, rfl⟩ := zJ_fin h2.1 8 (by omega)
  rw [zbO_t b c a, Bool.or_eq_true, decide_eq_true_iff]
  have : ((c.val : Nat) : Int) = ((b.val : Nat) : Int) ↔ c = b := ⟨fun g => Fin.ext (by omega), fun g => by rw [g]⟩
  rw [this]
theorem zbC_b {o v w : Int} (h : 0 ≤ o ∧ o < 256) (h' : 0 ≤ v ∧ v < 8) (h2 : 0 ≤ w ∧ w < 8) : zbt (zbC o v) w = true ↔ (w ≠ v ∧ zbt o w = true) := by
  obtain ⟨a, rfl⟩ := zJ_fin h.1 256 (by omega)
  obtain ⟨b, rfl⟩ := zJ_fin h'.1 8 (by omega)
  obtain ⟨c, rfl⟩ := zJ_fin h2.1 8 (by omega)
  rw [zbC_t b c a, Bool.and_eq_true, Bool.not_eq_true', decide_eq_false_iff_not]
  have : ((c.val : Nat) : Int) = ((b.val : Nat) : Int) ↔ c = b := ⟨fun g => Fin.ext (by omega), fun g => by rw [g]⟩
  rw [ne_eq, this]
def zbit (x : Int32) : Int32 := (((((((((x - ((z_ushr x 1) &&& 1431655765)) &&& 858993459) + ((z_ushr (x - ((z_ushr x 1) &&& 1431655765)) 2) &&& 858993459)) + (z_ushr (((x - ((z_ushr x 1) &&& 1431655765)) &&& 858993459) + ((z_ushr (x - ((z_ushr x 1) &&& 1431655765)) 2) &&& 858993459)) 4)) &&& 252645135) + (z_ushr (((((x - ((z_ushr x 1) &&& 1431655765)) &&& 858993459) + ((z_ushr (x - ((z_ushr x 1) &&& 1431655765)) 2) &&& 858993459)) + (z_ushr (((x - ((z_ushr x 1) &&& 1431655765)) &&& 858993459) + ((z_ushr (x - ((z_ushr x 1) &&& 1431655765)) 2) &&& 858993459)) 4)) &&& 252645135) 8)) + (z_ushr ((((((x - ((z_ushr x 1) &&& 1431655765)) &&& 858993459) + ((z_ushr (x - ((z_ushr x 1) &&& 1431655765)) 2) &&& 858993459)) + (z_ushr (((x - ((z_ushr x 1) &&& 1431655765)) &&& 858993459) + ((z_ushr (x - ((z_ushr x 1) &&& 1431655765)) 2) &&& 858993459)) 4)) &&& 252645135) + (z_ushr (((((x - ((z_ushr x 1) &&& 1431655765)) &&& 858993459) + ((z_ushr (x - ((z_ushr x 1) &&& 1431655765)) 2) &&& 858993459)) + (z_ushr (((x - ((z_ushr x 1) &&& 1431655765)) &&& 858993459) + ((z_ushr (x - ((z_ushr x 1) &&& 1431655765)) 2) &&& 858993459)) 4)) &&& 252645135) 8)) 16)) &&& 63))
theorem zbit_k : ∀ o : Fin 256, zbit (zJ (o.val : Int)) = zJ (zsm (fun k => if zbt (o.val : Int) k = true then 1 else 0) 0 8) := by decide +kernel
theorem zbit_e {o : Int} (h : 0 ≤ o ∧ o < 256) : zbit (zJ o) = zJ (zsm (fun k => if zbt o k = true then 1 else 0) 0 8) := by
  obtain ⟨a, rfl⟩ := zJ_fin h.1 256 (by omega)
  exact zbit_k a
section ZK
variable {Y : zLy} {n s : Nat} {X : zX} {G : Nat × Nat} {t p q r u z : Int}
theorem c_bitCount {o : Int} {W : zW} (h : 0 ≤ o ∧ o < 256) : ev_ G 175 0 [.int (zJ o)] [] W = some (.inl (some (.int (zJ (zsm (fun k => if zbt o k = true then 1 else 0) 0 8)))), W) := by
  rw [q_J6_bitCount_0f7a4_0, ← zbit_e h]
  rfl
theorem k_cover (hY : wY Y n) (hI : iAll t Y.2.2.2.2 X) (hp : -2147483648 ≤ p ∧ p < 2147483648) (hz : z = 0 ∨ z = 1) : zcal [(0, 1)] t Y n s X (fun W => ev_ G 176 0 [.ref (wA Y 13 0), .int (zJ p), .int (zJ z)] [] W) (dCover X p z) := by
  have hF := wY_F hY
  have h13 := hF.2.1
  have hIw := hF.1
  obtain ⟨hn, hn4⟩ := wY_n hY
  obtain ⟨h1, h2, h3, h4, h5, h6, h7, h8, h9, h10, h11, h12⟩ := id hI
  obtain ⟨v1, v2⟩ := id h10
  by_cases g1 : 0 ≤ p ∧ p < 8
  · generalize hv : (if z = 0 then zbC (X 266 0) p else zbO (X 266 0) p) = v
    have hvr : 0 ≤ v ∧ v < 256 := by
      rw [← hv]
      split
      · exact zbC_r v1 g1
      · exact zbO_r v1 g1
    have hvb : ∀ k, 0 ≤ k → k < 8 → (zbt v k = true ↔ (if k = p then z = 1 else zbt (X 266 0) k = true)) := by
      intro k k0 k1
      rw [← hv]
      rcases hz with rfl | rfl
      · rw [if_pos rfl, zbC_b v1 g1 ⟨k0, k1⟩]
        by_cases hk : k = p
        · rw [if_pos hk]
          exact ⟨fun g => absurd hk g.1, fun g => absurd g (by decide)⟩
        · rw [if_neg hk]
          exact ⟨fun g => g.2, fun g => ⟨hk, g⟩⟩
      · rw [if_neg (by decide), zbO_b v1 g1 ⟨k0, k1⟩]
        by_cases hk : k = p
        · rw [if_pos hk]
          exact ⟨fun _ => rfl, fun _ => .inl hk⟩
        · rw [if_neg hk]
          exact ⟨fun g => g.resolve_left hk, .inr⟩
    generalize hX1 : wu X 266 0 v = X1
    have s1 : zsame [266] X X1 := by
      rw [← hX1]
      exact same_u (by decide) same_r
    generalize hX0 : wu X1 444 0 0 = X0
    have x1033 : ∀ k, wu X0 1033 p z 1033 k = if k = p then z else X 1033 k := fun k => by
      rw [wu_v, ← hX0, wu_ne (by decide), s1 1033 (by decide)]
    have x266 : wu X0 1033 p z 266 0 = v := by
      rw [wu_ne (by decide), ← hX0, wu_ne (by decide), ← hX1, wu_eq]
    have hvk : ∀ k, 0 ≤ k → k < 8 → (zbt v k = true ↔ wu X0 1033 p z 1033 k = 1) := by
      intro k k0 k1
      rw [hvb k k0 k1, x1033]
      by_cases hk : k = p
      · rw [if_pos hk, if_pos hk]
      · rw [if_neg hk, if_neg hk]
        exact (v2 k k0 k1).2
    have hvr2 : ∀ k, 0 ≤ k → k < 8 → 0 ≤ wu X0 1033 p z 1033 k ∧ wu X0 1033 p z 1033 k ≤ 1 := by
      intro k k0 k1
      rw [x1033]
      have := v2 k k0 k1
      split <;> omega
    have hsum : zsm (fun k => if zbt v k = true then 1 else 0) 0 8 = 0 + zsm (fun k => wu X0 1033 p z 1033 k) 0 8 := by
      rw [Int.zero_add]
      refine zsm_congr _ _ (fun k k0 k1 => ?_)
      show (if zbt v k = true then (1 : Int) else 0) = wu X0 1033 p z 1033 k
      have h1 := hvk k k0 (by omega)
      have h2 := hvr2 k k0 (by omega)
      by_cases g : zbt v k = true
      · rw [if_pos g, h1.mp g]
      · rw [if_neg g]
        have : wu X0 1033 p z 1033 k ≠ 1 := fun e => g (h1.mpr e)
        omega
    refine zcal_0 (X1 := X1) (X2 := wu X0 1033 p z) (0 + zsm (fun k => wu X0 1033 p z 1033 k) 0 8) hY ?_ (zd1_0 g1 ⟨rfl, x266.trans hv.symm, x1033, by rw [← hX0]; exact same_u (by decide) (same_u (by decide) (same_m s1 (by decide)))⟩) ?_ ?_ (fun f hf => funext fun j => by (try rw [← hX2]); (try rw [← hX0]); simp (disch := omega) only [wu_ne]) (fun f hf => by first | exact s0 f (by simp only [List.mem_cons, List.not_mem_nil, or_false, not_or]; omega) | (funext j; (try rw [← hX2]); (try rw [← hX0]); (try rw [← hX1]); (try rw [← hXB]); (try rw [← hXA]); simp (disch := omega) only [wu_ne]))
    · rw [← hsum]
      have hbc := c_bitCount (G := G) (W := wd Y n s X1) hvr
      have hx : X1 266 0 = v := by rw [← hX1, wu_eq]
      show ev_ G 176 0 _ [] _ = _
      rw [q_X11_cover_0, l_8, c_isIndex hp.1 hp.2 (by decide) (by decide), t_I, zB_1 g1, c_cIx1, t_V]
      rcases hz with rfl | rfl
      · rw [if_pos rfl] at hv
        rw [if_pos (show zJ 0 = 0 from rfl), g13_6 h13, t_b, l_1, l_31, zJ_neg, zbC_e, hv, p13_6 h13 hIw, t_b, hX1, g13_6 h13, t_b, hx, hbc, t_I]
      · rw [if_neg (by decide)] at hv
        rw [if_neg (show ¬zJ 1 = 0 by decide), g13_6 h13, t_b, l_1, l_31, zbO_e, hv, p13_6 h13 hIw, t_b, hX1, g13_6 h13, t_b, hx, hbc, t_I]
    · rw [wu_ne (by decide), ← hX0, wu_eq]
    · have s0 : zsame [266, 444, 1033] X (wu X0 1033 p z) := by
        rw [← hX0]
        exact same_u (by decide) (same_u (by decide) (same_m s1 (by decide)))
      refine ⟨iB_c h1 (same_g s0 (by decide)) rfl, iC_c h2 (same_g s0 (by decide)) rfl, iT_c h3 (same_g s0 (by decide)) rfl, iW_c h4 (same_g s0 (by decide)) (fun _ _ _ => rfl) hn, iF_c h5 (same_g s0 (by decide)), iO_c h6 (same_g s0 (by decide)), iD_c h7 (same_g s0 (by decide)) (by omega), iR_c h8 (same_g s0 (by decide)) rfl, iM_c h9 (same_g s0 (by decide)), ?_, iH_c h11 (same_g s0 (by decide)), iS_c h12 (same_g s0 (by decide)) rfl rfl hn4⟩
      unfold iV
      rw [x266]
      exact ⟨hvr, fun k k0 k1 => ⟨hvr2 k k0 k1, hvk k k0 k1⟩⟩
  · refine zcal_e 0 1 hI hY (by decide) (by decide) ?_ (by first | exact zd1_1 (by first | assumption | omega) (same_u (by decide) same_r) | exact zd2_1 (by first | assumption | omega) (same_u (by decide) same_r) | exact zd2_2 (by first | assumption | omega) (by first | assumption | omega) (same_u (by decide) same_r) | exact zd3_1 (by first | assumption | omega) (same_u (by decide) same_r) | exact zd3_2 (by first | assumption | omega) (by first | assumption | omega) (same_u (by decide) same_r) | exact zd3_3 (by first | assumption | omega) (by first | assumption | omega) (by first | assumption | omega) (same_u (by decide) same_r))
    · show ev_ G 176 0 _ [] _ = _
      rw [q_X11_cover_0, l_8, c_isIndex hp.1 hp.2 (by decide) (by decide), t_I, zB_0 g1, c_cIx0, t_Ve, t_x, t_w]
end ZK
