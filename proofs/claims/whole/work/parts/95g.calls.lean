/-! THE TWO SIDES, 76: calls on both sides: place, flaw, ship, ofSlot, recall -/
theorem zpk_x {h x m : Int} (hm : 1 ≤ m) (hh : 0 ≤ h ∧ h ≤ 1000) (hx : 0 ≤ x ∧ x ≤ 1000) : 0 ≤ x + (h - x) / m ∧ x + (h - x) / m ≤ 1000 := by
  have := zdv (d := h - x) hm
  by_cases g : 0 ≤ h - x
  · have := this.1 g
    omega
  · have := this.2 (by omega)
    omega
theorem zpk_r {h : Int → Int} {m : Int} (hm : 1 ≤ m) (hh : ∀ z, 0 ≤ z → z < 4 → 0 ≤ h z ∧ h z ≤ 1000) : ∀ (c : Nat) (k x p : Int), 0 ≤ k → c + k = 12 → 0 ≤ x ∧ x ≤ 1000 → 0 ≤ p ∧ p ≤ 1000 → 0 ≤ zpk h m c k x p ∧ zpk h m c k x p ≤ 1000 := by
  intro c
  induction c with
  | zero => intro k x p _ _ _ hp; exact hp
  | succ c ih =>
    intro k x p hk he hx hp
    have h1 := zpk_x hm (hh (k / 3) (by omega) (by omega)) hx
    exact ih (k + 1) _ _ (by omega) (by omega) h1 (by omega)
theorem zpk_c {h h' : Int → Int} {m : Int} (hh : ∀ z, 0 ≤ z → z < 4 → h z = h' z) : ∀ (c : Nat) (k x p : Int), 0 ≤ k → c + k = 12 → zpk h m c k x p = zpk h' m c k x p := by
  intro c
  induction c with
  | zero => intro k x p _ _; rfl
  | succ c ih =>
    intro k x p hk he
    show zpk h m c (k + 1) _ _ = zpk h' m c (k + 1) _ _
    rw [hh (k / 3) (by omega) (by omega)]
    exact ih (k + 1) _ _ (by omega) (by omega)
theorem zpk_1 {h : Int → Int} {m : Int} (hm : 1 ≤ m) (hh : ∀ z, 0 ≤ z → z < 4 → 0 ≤ h z ∧ h z ≤ 1000) : zpk h m 12 0 25 (-1) = zpk h m 12 0 25 0 := by
  have h1 := zpk_x (x := 25) hm (hh (0 / 3) (by decide) (by decide)) (by decide)
  show zpk h m 11 (0 + 1) _ (max (-1) (25 + (h (0 / 3) - 25) / m)) = zpk h m 11 (0 + 1) _ (max 0 (25 + (h (0 / 3) - 25) / m))
  rw [show max (-1) (25 + (h (0 / 3) - 25) / m) = max 0 (25 + (h (0 / 3) - 25) / m) by omega]
section ZK
variable {Y : zLy} {n s : Nat} {X : zX} {G : Nat × Nat} {t p q r u : Int}
/-- a call that gives nothing back -/
def zcaN (ec : List (Nat × Int)) (t : Int) (Y : zLy) (n s : Nat) (X : zX) (cls : zW → zR) (rf : Nat → zW → zR) : Prop := ∃ (Y' : zLy) (n' s' : Nat) (X1 X2 : zX) (code : Int), ((code = 0 ∧ cls (wd Y n s X) = some (.inl none, wd Y' n' s' X1)) ∨ (∃ E, (E, code) ∈ ec ∧ code ≠ 0 ∧ cls (wd Y n s X) = some (.inr E, wd Y' n' s' X1))) ∧ (∀ (Z : zLy) (m r : Nat), wM Z → rf (wA Z 14 0) (wd Z m r X1) = some (.inl none, wd Z m r X2)) ∧ X2 444 0 = code ∧ (0 ≤ code ∧ code < 100) ∧ wY Y' n' ∧ wle Y n Y' n' ∧ n' ≤ n + 30 ∧ s ≤ s' ∧ s' ≤ s + 500 ∧ iAll (t + 1) Y'.2.2.2.2 X2
theorem zcaN_e {ec : List (Nat × Int)} {cls : zW → zR} {rf : Nat → zW → zR} (E : Nat) (code : Int) (hI : iAll t Y.2.2.2.2 X) (hY : wY Y n) (hec : (E, code) ∈ ec) (h0 : 0 < code ∧ code < 100) (hc : cls (wd Y n s X) = some (.inr E, wd Y (n + 1) (s + 6) X)) (hr : ∀ (Z : zLy) (m r : Nat), wM Z → rf (wA Z 14 0) (wd Z m r X) = zfn Z m r X code) : zcaN ec t Y n s X cls rf := by
  exact ⟨Y, n + 1, s + 6, X, wu X 444 0 code, code, .inr ⟨E, hec, by omega, hc⟩, fun Z m r hM => hr Z m r hM, wu_eq, by omega, ⟨wK_n hY.1 (Nat.le_succ _), hY.2⟩, ⟨Nat.le_succ _, rfl, fun _ _ _ _ h => ⟨h, rfl⟩, fun _ _ h => ⟨rfl, h⟩⟩, by omega, by omega, by omega, iAll_e hI hY.2.2.2.1.2 hY.2.2.2.2.2.1.2⟩
theorem zcaN_0 {ec : List (Nat × Int)} {cls : zW → zR} {rf : Nat → zW → zR} {X1 X2 : zX} (hY : wY Y n) (hc : cls (wd Y n s X) = some (.inl none, wd Y n s X1)) (hr : ∀ (Z : zLy) (m r : Nat), wM Z → rf (wA Z 14 0) (wd Z m r X1) = some (.inl none, wd Z m r X2)) (h0 : X2 444 0 = 0) (hI : iAll (t + 1) Y.2.2.2.2 X2) : zcaN ec t Y n s X cls rf := by
  exact ⟨Y, n, s, X1, X2, 0, .inl ⟨rfl, hc⟩, fun Z m r hM => hr Z m r hM, h0, by omega, hY, wle_r, by omega, by omega, by omega, hI⟩
/-- ranges that the reference's calls want -/
theorem iS_m {Q : zQs} (h : iS Q X) : (∀ b, 0 ≤ b → b < 12 → (0 ≤ X 1035 b ∧ X 1035 b ≤ 1) ∧ (0 ≤ X 1037 b ∧ X 1037 b ≤ 1)) ∧ (∀ k, 0 ≤ k → k < 96 → -1 ≤ X 1038 k ∧ X 1038 k < 12) ∧ (∀ k, 0 ≤ k → k < 96 → 0 ≤ X 1041 k ∧ X 1041 k < 6 ∧ 0 ≤ X 1042 k ∧ X 1042 k ≤ 1) ∧ (∀ k, 0 ≤ k → k < 96 → 0 ≤ X 1043 k ∧ X 1043 k ≤ 1) ∧ (∀ k, 0 ≤ k → k < 96 → X 1042 k ≠ 0 → 0 ≤ X 1038 k) := by
  obtain ⟨c1, c2, c3, c4, c5, c6⟩ := h
  exact ⟨fun b b0 b1 => ⟨(c2 b b0 b1).1, (c2 b b0 b1).2.2⟩, fun k k0 k1 => (c4 k k0 k1).1, fun k k0 k1 => by have := c4 k k0 k1; omega, fun k k0 k1 => (c4 k k0 k1).2.2.2.1, fun k k0 k1 g => ((c4 k k0 k1).2.2.2.2 g).2⟩
theorem iR_m {Q : zQs} (h : iR Q X) : ∀ r, 0 ≤ r → r < 12 → (0 ≤ X 1026 r ∧ X 1026 r < 6) ∧ (-1 ≤ X 1029 r ∧ X 1029 r < 10000) ∧ (0 ≤ X 1028 r ∧ X 1028 r < 10000) ∧ (0 ≤ X 1027 r ∧ X 1027 r < 1000) := fun r r0 r1 => by
  have := h.2.1 r r0 r1
  omega
/-- a slot's part -/
theorem iS_p {Q : zQs} (hR : iR Q X) (h : iS Q X) (h4 : Q 0 4 ≤ 12) (h3 : Q 0 3 ≤ 12) {b k : Int} (hb : 0 ≤ b ∧ b < Q 0 4) (hk : 8 * b ≤ k ∧ k < 8 * b + 8) : (-1 ≤ X 220 k ∧ X 220 k < 6) ∧ (X 220 k = -1 ↔ X 1038 k = -1) := by
  obtain ⟨c1, c2, c3, c4, c5, c6⟩ := h
  obtain ⟨a1, a2, a3, a4, a5, a6, a7⟩ := (c6 b hb.1 hb.2).2.2 k hk.1 hk.2
  have d := (c4 k (by omega) (by omega)).1
  by_cases e : X 1038 k = -1
  · rw [if_pos e] at a3
    exact ⟨by omega, by omega⟩
  · rw [if_neg e] at a3
    have := hR.2.1 (X 1038 k) (by omega) (by omega)
    exact ⟨by omega, by omega⟩
theorem zpeak_r {b : Int} (hh : ∀ z, 0 ≤ z → z < 4 → 0 ≤ X (509 + b) z ∧ X (509 + b) z ≤ 1000) : 0 ≤ zpeak X b ∧ zpeak X b ≤ 1000 := zpk_r (by have := zmass_r X b; omega) hh 12 0 25 0 (by decide) (by decide) (by decide) (by decide)
theorem k_ofSlot (hY : wY Y n) (hI : iAll t Y.2.2.2.2 X) (hp : -2147483648 ≤ p ∧ p < 2147483648) (hq : -2147483648 ≤ q ∧ q < 2147483648) (hr : -2147483648 ≤ r ∧ r < 2147483648) : zcal [(0, 1)] t Y n s X (fun W => ev_ G 195 0 [.ref (wA Y 13 0), .int (zJ p), .int (zJ q), .int (zJ r), zU] [] W) (fun a W => ev_ G 197 0 [.ref a, .int (zJ p), .int (zJ q), .int (zJ r), zU] [] W) := by
  have hF := wY_F hY
  have h13 := hF.2.1
  have hIw := hF.1
  obtain ⟨hn, hn4⟩ := wY_n hY
  obtain ⟨h1, h2, h3, h4, h5, h6, h7, h8, h9, h10, h11, h12⟩ := id hI
  have hQ4 := hY.2.2.2.2.2.1
  have hm := iS_m h12
  have z1 := h12.1
  have hX0 : zsame [444] X (wu X 444 0 0) := same_444 rfl
  have hre : ∀ (Z : zLy) (m r' : Nat), wM Z → _ := fun Z m r' hM => m_ofSlot (G := G) (n := m) (s := r') (X := X) (Y := Z) (p := p) (q := q) (r := r) hM rfl hp hq hr (by rw [hX0 434 (by decide)]; omega) (fun k k0 k1 => by
    rw [hX0 1042 (by decide)]
    have := hm.2.2.1 k k0 k1
    omega) (fun k k0 k1 => by
    rw [hX0 1043 (by decide)]
    exact hm.2.2.2.1 k k0 k1)
  rw [hX0 434 (by decide), hX0 1038 (by decide), hX0 1039 (by decide), hX0 1041 (by decide), hX0 1042 (by decide), hX0 1043 (by decide), z1] at hre
  by_cases g1 : 0 ≤ p ∧ p < Y.2.2.2.2 0 4
  · have hV2 : wV Y 2 p := (wF_B hF g1.1 g1.2).1
    have hat := c_boardAt (G := G) (n := n) (s := s) (X := X) hF g1.1 g1.2
    by_cases g2 : 0 ≤ q ∧ q < 8
    · have hsl := c_slotAt (G := G) (n := n) (s := s) (X := X) hF g1.1 g1.2 g2.1 g2.2
      have hV11 : wV Y 11 (8 * p + q) := hF.2.2.2.2.2.2.2.2.2.2.2.2.2 _ (by omega) (by omega)
      obtain ⟨e1, e2, e3⟩ := h12.2.2.2.2.2 p g1.1 g1.2
      obtain ⟨a1, a2, a3, a4, a5, a6, a7⟩ := e3 (8 * p + q) (by omega) (by omega)
      have b4 := h12.2.2.2.1 (8 * p + q) (by omega) (by omega)
      by_cases g3 : 0 ≤ r ∧ r ≤ 3
      · refine zcal_0 (X1 := X) (X2 := wu X 444 0 0) (if r = 0 then X 1038 (8 * p + q) else if r = 1 then X 1039 (8 * p + q) else if r = 2 then (if X 1042 (8 * p + q) = 0 then 0 else X 1041 (8 * p + q)) else if X 1043 (8 * p + q) = 0 then 0 else 1) hY ?_ (fun Z m r' hM => ?_) wu_eq (iAll_e hI hn hn4)
        · show ev_ G 195 0 _ [] _ = _
          rw [q_X11_ofSlot_0, k13 h13, hat, t_R, k2 hV2, hsl, t_R]
          simp (disch := first | assumption | omega) only [c_isWithin, ↓reduceIte, zB_T, zB_F, zB_if, ite_not, z_10, z_00, i_10, i_00, if_true, if_false, c_cIx0, c_cIx1, c_cAr0, c_cAr1, c_cSt0, c_cSt1, l_0, l_1, l_2, l_3, l_4, l_5, l_6, l_7, l_8, l_9, l_10, l_12, l_16, l_24, l_31, l_32, l_48, l_96, l_99, l_100, l_150, l_180, l_200, l_240, l_255, l_260, l_384, l_400, l_999, l_5000, l_9999, l_1000000, l_1000000000, t_I, t_Ie, t_R, t_Re, t_N, t_Nn, t_V, t_Ve, t_b, t_x, t_w, e_0, e_1, e_2, e_3, zJ_lt, zJ_le, zJ_eq, g3, and_self, g11_1, g11_2, g11_3, g11_4, g11_5, a1]
          all_goals first | rfl | omega | ((repeat' split) <;> first | rfl | omega | (exfalso; omega) | contradiction)
        · exact (hre Z m r' hM).2 ⟨g1, g2, g3⟩
      · refine zcal_e 0 1 hI hY (by decide) (by decide) ?_ (fun Z m r' hM => ?_)
        · show ev_ G 195 0 _ [] _ = _
          rw [q_X11_ofSlot_0, k13 h13, hat, t_R, k2 hV2, hsl, t_R]
          simp (disch := first | assumption | omega) only [c_isWithin, ↓reduceIte, zB_T, zB_F, zB_if, ite_not, z_10, z_00, i_10, i_00, if_true, if_false, c_cIx0, c_cIx1, c_cAr0, c_cAr1, c_cSt0, c_cSt1, l_0, l_1, l_2, l_3, l_4, l_5, l_6, l_7, l_8, l_9, l_10, l_12, l_16, l_24, l_31, l_32, l_48, l_96, l_99, l_100, l_150, l_180, l_200, l_240, l_255, l_260, l_384, l_400, l_999, l_5000, l_9999, l_1000000, l_1000000000, t_I, t_Ie, t_R, t_Re, t_N, t_Nn, t_V, t_Ve, t_b, t_x, t_w, e_0, e_1, e_2, e_3, zJ_lt, zJ_le, zJ_eq, g3]
        · exact (hre Z m r' hM).1 (fun g => g3 g.2.2)
    · refine zcal_e 0 1 hI hY (by decide) (by decide) ?_ (fun Z m r' hM => ?_)
      · show ev_ G 195 0 _ [] _ = _
        rw [q_X11_ofSlot_0, k13 h13, hat, t_R, k2 hV2, c_slotAt_no hF g1.1 g1.2 hq.1 hq.2 g2, t_Re, t_x]
      · exact (hre Z m r' hM).1 (fun g => g2 g.2.1)
  · refine zcal_e 0 1 hI hY (by decide) (by decide) ?_ (fun Z m r' hM => ?_)
    · show ev_ G 195 0 _ [] _ = _
      rw [q_X11_ofSlot_0, k13 h13, c_boardAt_no hF hp.1 hp.2 g1, t_Re, t_x]
    · exact (hre Z m r' hM).1 (fun g => g1 g.1)
theorem k_jointAnew (hY : wY Y n) (hI : iAll t Y.2.2.2.2 X) (hp : -2147483648 ≤ p ∧ p < 2147483648) (hq : -2147483648 ≤ q ∧ q < 2147483648) : zcal [(0, 1)] t Y n s X (fun W => ev_ G 198 0 [.ref (wA Y 13 0), .int (zJ p), .int (zJ q), zU, zU] [] W) (fun a W => ev_ G 200 0 [.ref a, .int (zJ p), .int (zJ q)] [] W) := by
  have hF := wY_F hY
  have h13 := hF.2.1
  have hIw := hF.1
  obtain ⟨hn, hn4⟩ := wY_n hY
  obtain ⟨h1, h2, h3, h4, h5, h6, h7, h8, h9, h10, h11, h12⟩ := id hI
  have hQ4 := hY.2.2.2.2.2.1
  have hQ3 := hY.2.2.2.2.1
  have z1 := h12.1
  have hre : ∀ (Z : zLy) (m r' : Nat), wM Z → _ := fun Z m r' hM => m_jointAnew (G := G) (n := m) (s := r') (X := X) (Y := Z) (b := p) (sl := q) hM (by omega) hp hq
  rw [z1] at hre
  by_cases g1 : 0 ≤ p ∧ p < Y.2.2.2.2 0 4
  · have hB := wF_B hF g1.1 g1.2
    have hV2 : wV Y 2 p := hB.1
    have hat := c_boardAt (G := G) (n := n) (s := s) (X := X) hF g1.1 g1.2
    by_cases g2 : 0 ≤ q ∧ q < 8
    · have hsl := c_slotAt (G := G) (n := n) (s := s) (X := X) hF g1.1 g1.2 g2.1 g2.2
      have hV11 : wV Y 11 (8 * p + q) := hF.2.2.2.2.2.2.2.2.2.2.2.2.2 _ (by omega) (by omega)
      obtain ⟨e1, e2, e3⟩ := h12.2.2.2.2.2 p g1.1 g1.2
      obtain ⟨a1, a2, a3, a4, a5, a6, a7⟩ := e3 (8 * p + q) (by omega) (by omega)
      have b2 := h12.2.1 p g1.1 (by omega)
      have hpt := iS_p h8 h12 hQ4.2 hQ3.2 g1 (show 8 * p ≤ 8 * p + q ∧ 8 * p + q < 8 * p + 8 by omega)
      have hhp := c_hasPart (G := G) (n := n) (s := s) (X := X) hV11 hpt.1
      have hpk := c_peak (G := G) (n := n) (s := s) (X := X) hB g1.1 (by omega) (fun k k0 k1 => (iS_p h8 h12 hQ4.2 hQ3.2 g1 (show 8 * p ≤ 8 * p + k ∧ 8 * p + k < 8 * p + 8 by omega)).1) (fun z z0 z1 => by have := e2 z z0 z1; omega)
      have hpr : 0 ≤ zpeak X p ∧ zpeak X p ≤ 1000 := zpeak_r (fun z z0 z1 => by have := e2 z z0 z1; omega)
      have hjf := c_jointFor (G := G) (n := n) (s := s) (X := X) (p := zpeak X p) hV11 (by omega) (by omega) (by omega)
      refine zcal_0 (X1 := X) (X2 := wu X 444 0 0) (X 1040 (8 * p + q)) hY ?_ (fun Z m r' hM => (hre Z m r' hM).2 ⟨g1, g2⟩) wu_eq (iAll_e hI hn hn4)
      show ev_ G 198 0 _ [] _ = _
      rw [q_X11_jointAnew_0, k13 h13, hat, t_R, k2 hV2, hsl, t_R, a5]
      by_cases k1 : X 1035 p = 0
      · simp (disch := first | assumption | omega) only [g2_0, e1.1, k1, ↓reduceIte, zB_T, zB_F, zB_if, ite_not, z_10, z_00, i_10, i_00, if_true, if_false, c_cIx0, c_cIx1, c_cAr0, c_cAr1, c_cSt0, c_cSt1, l_0, l_1, l_2, l_3, l_4, l_5, l_6, l_7, l_8, l_9, l_10, l_12, l_16, l_24, l_31, l_32, l_48, l_96, l_99, l_100, l_150, l_180, l_200, l_240, l_255, l_260, l_384, l_400, l_999, l_5000, l_9999, l_1000000, l_1000000000, t_I, t_Ie, t_R, t_Re, t_N, t_Nn, t_V, t_Ve, t_b, t_x, t_w, e_0, e_1, e_2, e_3, zJ_lt, zJ_le, zJ_eq, zJ_add, zJ_sub, zJ_mul, zJ_neg, true_or]
      · by_cases k2' : X 220 (8 * p + q) = -1
        · have k3 := hpt.2.mp k2'
          simp (disch := first | assumption | omega) only [g2_0, e1.1, k1, k3, k2', ↓reduceIte, zB_T, zB_F, zB_if, ite_not, z_10, z_00, i_10, i_00, if_true, if_false, c_cIx0, c_cIx1, c_cAr0, c_cAr1, c_cSt0, c_cSt1, l_0, l_1, l_2, l_3, l_4, l_5, l_6, l_7, l_8, l_9, l_10, l_12, l_16, l_24, l_31, l_32, l_48, l_96, l_99, l_100, l_150, l_180, l_200, l_240, l_255, l_260, l_384, l_400, l_999, l_5000, l_9999, l_1000000, l_1000000000, t_I, t_Ie, t_R, t_Re, t_N, t_Nn, t_V, t_Ve, t_b, t_x, t_w, e_0, e_1, e_2, e_3, zJ_lt, zJ_le, zJ_eq, zJ_add, zJ_sub, zJ_mul, zJ_neg, or_true, k11 hV11, hhp, ne_eq, not_true_eq_false]
        · have k3 : ¬X 1038 (8 * p + q) = -1 := fun g => k2' (hpt.2.mpr g)
          simp (disch := first | assumption | omega) only [g2_0, e1.1, k1, k3, k2', ↓reduceIte, zB_T, zB_F, zB_if, ite_not, z_10, z_00, i_10, i_00, if_true, if_false, c_cIx0, c_cIx1, c_cAr0, c_cAr1, c_cSt0, c_cSt1, l_0, l_1, l_2, l_3, l_4, l_5, l_6, l_7, l_8, l_9, l_10, l_12, l_16, l_24, l_31, l_32, l_48, l_96, l_99, l_100, l_150, l_180, l_200, l_240, l_255, l_260, l_384, l_400, l_999, l_5000, l_9999, l_1000000, l_1000000000, t_I, t_Ie, t_R, t_Re, t_N, t_Nn, t_V, t_Ve, t_b, t_x, t_w, e_0, e_1, e_2, e_3, zJ_lt, zJ_le, zJ_eq, zJ_add, zJ_sub, zJ_mul, zJ_neg, or_self, k11 hV11, k2 hV2, hhp, hpk, hjf, ne_eq, not_false_eq_true]
    · refine zcal_e 0 1 hI hY (by decide) (by decide) ?_ (fun Z m r' hM => ?_)
      · show ev_ G 198 0 _ [] _ = _
        rw [q_X11_jointAnew_0, k13 h13, hat, t_R, k2 hV2, c_slotAt_no hF g1.1 g1.2 hq.1 hq.2 g2, t_Re, t_x]
      · exact (hre Z m r' hM).1 (fun g => g2 g.2)
  · refine zcal_e 0 1 hI hY (by decide) (by decide) ?_ (fun Z m r' hM => ?_)
    · show ev_ G 198 0 _ [] _ = _
      rw [q_X11_jointAnew_0, k13 h13, c_boardAt_no hF hp.1 hp.2 g1, t_Re, t_x]
    · exact (hre Z m r' hM).1 (fun g => g1 g.1)
end ZK
