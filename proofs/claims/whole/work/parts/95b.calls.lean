/-! THE TWO SIDES, 71: a call on both sides: pass, weight, order, crimps -/
/-- a call: the class answers or throws, and the reference says the same -/
def zcal (ec : List (Nat × Int)) (t : Int) (Y : zLy) (n s : Nat) (X : zX) (cls : zW → zR) (rf : Nat → zW → zR) : Prop := ∃ (Y' : zLy) (n' s' : Nat) (X1 X2 : zX) (code ans : Int), ((code = 0 ∧ cls (wd Y n s X) = some (.inl (some (.int (zJ ans))), wd Y' n' s' X1)) ∨ (∃ E, (E, code) ∈ ec ∧ code ≠ 0 ∧ cls (wd Y n s X) = some (.inr E, wd Y' n' s' X1))) ∧ (∀ (Z : zLy) (m r : Nat), wM Z → ∃ a, (code = 0 → a = ans) ∧ rf (wA Z 14 0) (wd Z m r X1) = some (.inl (some (.int (zJ a))), wd Z m r X2)) ∧ X2 444 0 = code ∧ (0 ≤ code ∧ code < 100) ∧ wY Y' n' ∧ wle Y n Y' n' ∧ n' ≤ n + 30 ∧ s ≤ s' ∧ s' ≤ s + 500 ∧ iAll (t + 1) Y'.2.2.2.2 X2
theorem zB_T {i : Decidable True} : @zB True i = 1 := if_pos trivial
theorem zB_F {i : Decidable False} : @zB False i = 0 := if_neg id
section ZK
variable {Y : zLy} {n s : Nat} {X : zX} {G : Nat × Nat} {t p q r : Int}
theorem zcal_e {ec : List (Nat × Int)} {cls : zW → zR} {rf : Nat → zW → zR} (E : Nat) (code : Int) (hI : iAll t Y.2.2.2.2 X) (hY : wY Y n) (hec : (E, code) ∈ ec) (h0 : 0 < code ∧ code < 100) (hc : cls (wd Y n s X) = some (.inr E, wd Y (n + 1) (s + 6) X)) (hr : ∀ (Z : zLy) (m r : Nat), wM Z → rf (wA Z 14 0) (wd Z m r X) = zfl Z m r X code) : zcal ec t Y n s X cls rf := by
  refine ⟨Y, n + 1, s + 6, X, wu X 444 0 code, code, 0, .inr ⟨E, hec, by omega, hc⟩, fun Z m r hM => ⟨0, fun _ => rfl, hr Z m r hM⟩, wu_eq, by omega, ⟨wK_n hY.1 (Nat.le_succ _), hY.2⟩, ⟨Nat.le_succ _, rfl, fun _ _ _ _ h => ⟨h, rfl⟩, fun _ _ h => ⟨rfl, h⟩⟩, by omega, by omega, by omega, iAll_e hI hY.2.2.2.1.2 hY.2.2.2.2.2.1.2⟩
theorem zcal_0 {ec : List (Nat × Int)} {cls : zW → zR} {rf : Nat → zW → zR} {X1 X2 : zX} (ans : Int) (hY : wY Y n) (hc : cls (wd Y n s X) = some (.inl (some (.int (zJ ans))), wd Y n s X1)) (hr : ∀ (Z : zLy) (m r : Nat), wM Z → rf (wA Z 14 0) (wd Z m r X1) = some (.inl (some (.int (zJ ans))), wd Z m r X2)) (h0 : X2 444 0 = 0) (hI : iAll (t + 1) Y.2.2.2.2 X2) : zcal ec t Y n s X cls rf := by
  exact ⟨Y, n, s, X1, X2, 0, ans, .inl ⟨rfl, hc⟩, fun Z m r hM => ⟨ans, fun _ => rfl, hr Z m r hM⟩, h0, by omega, hY, wle_r, by omega, by omega, by omega, hI⟩
theorem wY_n (hY : wY Y n) : Y.2.2.2.2 0 2 ≤ 24 ∧ Y.2.2.2.2 0 4 ≤ 12 := ⟨hY.2.2.2.1.2, hY.2.2.2.2.2.1.2⟩
theorem k_pass (hY : wY Y n) (hI : iAll t Y.2.2.2.2 X) (hp : -2147483648 ≤ p ∧ p < 2147483648) : zcal [(1, 1), (2, 2)] t Y n s X (fun W => ev_ G 192 0 [.ref (wA Y 13 0), .int (zJ p)] [] W) (fun a W => ev_ G 194 0 [.ref a, .int (zJ p)] [] W) := by
  have hF := wY_F hY
  have h13 := hF.2.1
  have hIw := hF.1
  obtain ⟨hn, hn4⟩ := wY_n hY
  obtain ⟨h1, h2, h3, h4, h5, h6, h7, h8, h9, h10, h11, h12⟩ := id hI
  have z9 := h9
  unfold iM at z9
  by_cases g1 : 1 ≤ p ∧ p ≤ 999
  · by_cases g2 : X 267 0 + p ≤ 9999
    · have g3 : ¬9999 < X 267 0 + p := by omega
      have e1 : wu X 267 0 (X 267 0 + p) 424 0 = X 424 0 := wu_ne (by decide)
      refine zcal_0 (X1 := wu X 267 0 (X 267 0 + p)) (X2 := wu (wu (wu X 267 0 (X 267 0 + p)) 444 0 0) 424 0 (X 267 0 + p)) (X 267 0 + p) hY ?_ (fun Z m r hM => ?_) (by rw [wu_ne (by decide), wu_eq]) ?_
      · simp (disch := first | assumption | omega) only [q_X11_pass_0, q_X11_pass_28, c_isWithin, ↓reduceIte, zB_T, zB_F, zB_if, ite_not, z_10, z_00, i_10, i_00, if_true, if_false, c_cIx0, c_cIx1, c_cAr0, c_cAr1, c_cSt0, c_cSt1, l_0, l_1, l_2, l_3, l_4, l_5, l_6, l_7, l_8, l_9, l_10, l_12, l_16, l_24, l_31, l_32, l_48, l_96, l_99, l_100, l_150, l_180, l_200, l_240, l_255, l_260, l_384, l_400, l_999, l_5000, l_9999, l_1000000, l_1000000000, t_I, t_Ie, t_R, t_Re, t_N, t_Nn, t_V, t_Ve, t_b, t_x, t_w, e_0, e_1, e_2, e_3, zJ_lt, zJ_le, zJ_eq, zJ_add, zJ_sub, zJ_mul, zJ_neg, g1, and_self, g13_7, p13_7, g3, wu_eq]
      · have := (m_pass (G := G) (n := m) (s := r) (X := wu X 267 0 (X 267 0 + p)) hM hp (by rw [e1]; omega)).2.2 g1 (by rw [e1]; omega)
        rw [e1, z9.1] at this
        exact this
      · have s0 : zsame [267, 444, 424] X (wu (wu (wu X 267 0 (X 267 0 + p)) 444 0 0) 424 0 (X 267 0 + p)) := same_u (by decide) (same_u (by decide) (same_u (by decide) same_r))
        refine ⟨iB_c h1 (same_g s0 (by decide)) rfl, iC_c h2 (same_g s0 (by decide)) rfl, iT_c h3 (same_g s0 (by decide)) rfl, iW_c h4 (same_g s0 (by decide)) (fun _ _ _ => rfl) hn, iF_c h5 (same_g s0 (by decide)), iO_c h6 (same_g s0 (by decide)), iD_c h7 (same_g s0 (by decide)) (by omega), iR_c h8 (same_g s0 (by decide)) rfl, ?_, iV_c h10 (same_g s0 (by decide)), iH_c h11 (same_g s0 (by decide)), iS_c h12 (same_g s0 (by decide)) rfl rfl hn4⟩
        unfold iM
        rw [wu_eq, wu_ne (by decide), wu_ne (by decide), wu_eq]
        omega
    · have g3 : 9999 < X 267 0 + p := by omega
      refine zcal_e 2 2 hI hY (by decide) (by decide) ?_ (fun Z m r hM => ?_)
      · simp (disch := first | assumption | omega) only [q_X11_pass_0, q_X11_pass_28, c_isWithin, ↓reduceIte, zB_T, zB_F, zB_if, ite_not, z_10, z_00, i_10, i_00, if_true, if_false, c_cIx0, c_cIx1, c_cAr0, c_cAr1, c_cSt0, c_cSt1, l_0, l_1, l_2, l_3, l_4, l_5, l_6, l_7, l_8, l_9, l_10, l_12, l_16, l_24, l_31, l_32, l_48, l_96, l_99, l_100, l_150, l_180, l_200, l_240, l_255, l_260, l_384, l_400, l_999, l_5000, l_9999, l_1000000, l_1000000000, t_I, t_Ie, t_R, t_Re, t_N, t_Nn, t_V, t_Ve, t_b, t_x, t_w, e_0, e_1, e_2, e_3, zJ_lt, zJ_le, zJ_eq, zJ_add, zJ_sub, zJ_mul, zJ_neg, g1, and_self, g13_7, p13_7, g3]
      · exact (m_pass (G := G) (n := m) (s := r) (X := X) hM hp (by omega)).2.1 g1 (by omega)
  · refine zcal_e 1 1 hI hY (by decide) (by decide) ?_ (fun Z m r hM => ?_)
    · simp (disch := first | assumption | omega) only [q_X11_pass_0, c_isWithin, ↓reduceIte, zB_T, zB_F, zB_if, ite_not, z_10, z_00, i_10, i_00, if_true, if_false, c_cIx0, c_cIx1, c_cAr0, c_cAr1, c_cSt0, c_cSt1, l_0, l_1, l_2, l_3, l_4, l_5, l_6, l_7, l_8, l_9, l_10, l_12, l_16, l_24, l_31, l_32, l_48, l_96, l_99, l_100, l_150, l_180, l_200, l_240, l_255, l_260, l_384, l_400, l_999, l_5000, l_9999, l_1000000, l_1000000000, t_I, t_Ie, t_R, t_Re, t_N, t_Nn, t_V, t_Ve, t_b, t_x, t_w, e_0, e_1, e_2, e_3, g1]
    · exact (m_pass (G := G) (n := m) (s := r) (X := X) hM hp (by omega)).1 g1
theorem zb_k : ∀ o : Fin 256, ∀ v : Fin 8, zb2 (o.val : Int) (v.val : Int) = zbt (o.val : Int) (v.val : Int) := by decide +kernel
theorem zb_e {o v : Int} (h : 0 ≤ o ∧ o ≤ 255) (h' : 0 ≤ v ∧ v < 8) : zb2 o v = zbt o v := by
  obtain ⟨a, rfl⟩ := zJ_fin h.1 256 (by omega)
  obtain ⟨b, rfl⟩ := zJ_fin h'.1 8 (by omega)
  exact zb_k a b
/-- a wire's length on both sides -/
theorem zln_e {Q : zQs} {w : Int} (hB : iB Q X) (hw : iW1 Q X w) : zln1 X w = if X 246 w = 0 then X 245 w else 0 := by
  obtain ⟨a1, a2, a3, a4, a5, a6⟩ := hw
  unfold zln1
  rw [← a1.1, a6, a4.1]
  split
  · refine zsm_congr _ _ (fun j h1 h2 => ?_)
    have e := a5 (j - 16 * w) (by omega) (by omega)
    rw [show 16 * w + (j - 16 * w) = j by omega] at e
    rw [e.1]
    exact (hB.2 _ e.2.1 e.2.2).1.2.2.2.1
  · rfl
theorem zwt_e {Q : zQs} {o w : Int} (ho : 0 ≤ o ∧ o ≤ 255) (hB : iB Q X) (hw : iW1 Q X w) : zwg X o w = zwt X o w := by
  unfold zwg zwt
  rw [zln_e hB hw, ← hw.1.2.1, zb_e ho hw.1.2.2]
  by_cases h1 : zbt o (X 244 w) = true
  · rw [if_pos h1]
    by_cases h2 : X 246 w = 0
    · rw [if_pos h2, if_pos ⟨h2, h1⟩]
    · rw [if_neg h2, if_neg (fun g => h2 g.1)]
  · rw [if_neg h1, if_neg (fun g => h1 g.2)]
theorem zwts_e {Q : zQs} {o : Int} (ho : 0 ≤ o ∧ o ≤ 255) (hB : iB Q X) (hW : iW Q X) : zsm (zwg X o) 0 (X 410 0).toNat = zsm (zwt X o) 0 (Q 0 2).toNat := by
  rw [hW.1]
  exact zsm_congr _ _ (fun j h1 h2 => zwt_e ho hB (hW.2.2.2 j h1 (by omega)))
theorem iW_m {Q : zQs} (hW : iW Q X) (h : 0 ≤ Q 0 2 ∧ Q 0 2 ≤ 24) (hb : Q 0 0 ≤ 16) : wWm X := by
  unfold wWm
  rw [hW.1]
  refine ⟨h, fun w w1 w2 => ?_⟩
  obtain ⟨a1, a2, a3, a4, a5, a6⟩ := hW.2.2.2 w w1 w2
  refine ⟨by omega, hW.2.1 w w1 (by omega), fun k k1 k2 => ?_⟩
  have e := a5 (k - 16 * w) (by omega) (by omega)
  rw [show 16 * w + (k - 16 * w) = k by omega] at e
  omega
theorem same_444 {X' : zX} (h : wu X 444 0 0 = X') : zsame [444] X X' := by
  rw [← h]
  exact same_u (by decide) same_r
end ZK
