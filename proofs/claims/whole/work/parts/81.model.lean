/-! THE TWO SIDES, 32: the reference lays a way: rooms; the chain of its nodes -/
section ZM
variable {Y : zLy} {n s : Nat} {X : zX} {G : Nat × Nat} {i j : Int}
theorem m_layR {w fr v : Int} (hM : wM Y) (hw : 0 ≤ w ∧ w < 24) : ∀ (k : Nat) (i : Int) (u u2 : Value) (X : zX), (0 ≤ X 1014 w ∧ X 1014 w ≤ 16) → (∀ k, 16 * w ≤ k → k < 16 * w + X 1014 w → 0 ≤ X 1015 k ∧ X 1015 k < 16) → 16 * w ≤ i → i + k = 16 * w + X 1014 w → ev_ G 74 142 [.ref (wA Y 14 0), .int (zJ w), .int (zJ fr), .int (zJ v), .int (zJ i), u, u2] [] (wd Y n s X) = some (.inl none, wd Y n s (zrm2 (-1) i k X)) := by
  have h14 := hM.2.1
  intro k
  induction k with
  | zero =>
    intro i u u2 X hm hb hi he
    rw [q_X12_lays_142]
    simp (disch := first | assumption | omega) only [l_0, l_1, l_2, l_3, l_4, l_5, l_6, l_7, l_8, l_9, l_10, l_12, l_16, l_24, l_31, l_32, l_48, l_96, l_99, l_100, l_150, l_180, l_200, l_240, l_255, l_260, l_384, l_400, l_999, l_5000, l_9999, l_1000000, l_1000000000, g14_14, t_I, t_Ie, t_R, t_Re, t_N, t_Nn, t_V, t_Ve, t_b, t_x, t_w, e_0, e_1, e_2, e_3]
    rw [ml_14 hM hw.1 hw.2, t_b]
    simp (disch := first | assumption | omega) only [zJ_add, zJ_sub, zJ_mul, zJ_neg, zJ_lt, zJ_le, zJ_eq]
    rw [if_pos (by omega)]
    rfl
  | succ k ih =>
    intro i u u2 X hm hb hi he
    have hbi := hb i hi (by omega)
    have e0 : ∀ v, wu X 1004 (X 1015 i) v 1014 w = X 1014 w := fun v => if_neg (by omega)
    have e1 : ∀ v k, wu X 1004 (X 1015 i) v 1015 k = X 1015 k := fun v k => if_neg (by omega)
    rw [q_X12_lays_142]
    simp (disch := first | assumption | omega) only [l_0, l_1, l_2, l_3, l_4, l_5, l_6, l_7, l_8, l_9, l_10, l_12, l_16, l_24, l_31, l_32, l_48, l_96, l_99, l_100, l_150, l_180, l_200, l_240, l_255, l_260, l_384, l_400, l_999, l_5000, l_9999, l_1000000, l_1000000000, g14_14, t_I, t_Ie, t_R, t_Re, t_N, t_Nn, t_V, t_Ve, t_b, t_x, t_w, e_0, e_1, e_2, e_3]
    rw [ml_14 hM hw.1 hw.2, t_b]
    simp (disch := first | assumption | omega) only [zJ_add, zJ_sub, zJ_mul, zJ_neg, zJ_lt, zJ_le, zJ_eq, g14_4, g14_15, t_I, t_Ie, t_R, t_Re, t_N, t_Nn, t_V, t_Ve, t_b, t_x, t_w, e_0, e_1, e_2, e_3]
    rw [if_neg (by omega), ml_15 hM (by omega) (by omega), t_b, ml_4 hM hbi.1 hbi.2, t_b, zJ_sub, ms_4 hM hbi.1 hbi.2, t_b, ih (i + 1) _ _ _ (by rw [e0]; exact hm) (fun k h1 h2 => by rw [e0] at h2; rw [e1]; exact hb k h1 h2) (by omega) (by rw [e0]; omega)]
    rfl
/-- the chain of nodes: v t is left by the bundle b t -/
def zch (X : zX) (c : Int → Int) (nb : Nat) (v b : Nat → Int) (L : Nat) : Prop := c (v L) ≤ 0 ∧ (0 ≤ v L ∧ v L < 8) ∧ ∀ t, t < L → 0 < c (v t) ∧ (0 ≤ v t ∧ v t < 8) ∧ b t = zlwm X c (v t) nb (-1) ∧ (0 ≤ b t ∧ b t < nb) ∧ v (t + 1) = zac (X 1001 (b t)) (X 1002 (b t)) (v t)
/-- the way's rows behind k steps -/
def zwy (w : Int) (b : Nat → Int) : Nat → Nat → zX → zX
  | _, 0, X => X
  | t, k + 1, X => zwy w b (t + 1) k (wu (wu X 1015 (16 * w + X 1014 w) (b t)) 1014 w (X 1014 w + 1))
theorem zlwm_c {X X' : zX} {c : Int → Int} {v : Int} (h1 : X' 1001 = X 1001) (h2 : X' 1002 = X 1002) (h3 : X' 1003 = X 1003) (h4 : X' 1004 = X 1004) : ∀ (m : Nat) (f : Int), zlwm X' c v m f = zlwm X c v m f := by
  intro m
  induction m with
  | zero => intro f; rfl
  | succ m ih =>
    intro f
    show zlwm X' c v m (if zonm X' c v m then _ else _) = zlwm X c v m (if zonm X c v m then _ else _)
    rw [ih]
    unfold zonm
    rw [h1, h2, h3, h4]
end ZM
