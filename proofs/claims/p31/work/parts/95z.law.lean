/-! THE LAW, 4: the shortest way by going through all -/
theorem php : ∀ (n : Nat) (f : Nat → Nat), (∀ i, i < n + 1 → f i < n) → ∃ i j, i < j ∧ j < n + 1 ∧ f i = f j := by
  intro n
  induction n with
  | zero => intro f h; exact absurd (h 0 (Nat.zero_lt_one)) (Nat.not_lt_zero _)
  | succ n ih =>
    intro f h
    by_cases k : ∃ i, i < n + 1 ∧ f i = f (n + 1)
    · obtain ⟨i, h1, h2⟩ := k
      exact ⟨i, n + 1, h1, Nat.lt_succ_self _, h2⟩
    · have hn : ∀ i, i < n + 1 → f i ≠ f (n + 1) := fun i h1 h2 => k ⟨i, h1, h2⟩
      have hl := h (n + 1) (Nat.lt_succ_self _)
      obtain ⟨i, j, h1, h2, h3⟩ := ih (fun i => if f i = n then f (n + 1) else f i) (fun i hi => by
        have a1 := h i (by omega)
        have a2 := hn i hi
        show (if f i = n then f (n + 1) else f i) < n
        split <;> omega)
      refine ⟨i, j, h1, by omega, ?_⟩
      have b1 := hn i (by omega)
      have b2 := hn j h2
      replace h3 : (if f i = n then f (n + 1) else f i) = (if f j = n then f (n + 1) else f j) := h3
      by_cases c1 : f i = n
      · by_cases c2 : f j = n
        · omega
        · rw [if_pos c1, if_neg c2] at h3
          exact absurd h3.symm b2
      · by_cases c2 : f j = n
        · rw [if_neg c1, if_pos c2] at h3
          exact absurd h3 b1
        · rw [if_neg c1, if_neg c2] at h3
          exact h3
def za (m : Nat) (f : Int → Int) : zE := zEi 0 m (fun j => zJ (f j))
def yW (Y : zLy) (a : Nat) (R N E S : Int → Int) : zLy := yB (yB (yB (yB Y a (za 8 R)) (a + 1) (za 9 N)) (a + 2) (za 9 E)) (a + 3) (za 9 S)
def zpu (f : Int → Int) (i v : Int) : Int → Int := fun j => if j = i then v else f j
theorem zpu_e {f : Int → Int} {i v : Int} : zpu f i v i = v := if_pos rfl
theorem zpu_n {f : Int → Int} {i v j : Int} (h : j ≠ i) : zpu f i v j = f j := if_neg h
section ZW
variable {Y : zLy} {n s a : Nat} {X : zX} {G : Nat × Nat} {R N E S : Int → Int} {gl best d nb i v k : Int} {fr : Int32}
theorem za_ld {b m : Nat} {f : Int → Int} (hD : (Y.2.2.1 b).1 = 0) (hB : Y.2.1 b = some (za m f)) (hm : m ≤ 1000) (h0 : 0 ≤ i) (h1 : i < m) : zld false (wd Y n s X) b (zJ i) = some (zJ (f i)) := by
  have h : (wd Y n s X).2.2 b = some (za m f) := (wdx_0 hD).trans hB
  unfold zld
  rw [h]
  show (if zoff (zJ i) m ∨ false ≠ decide ((0 : Nat) = 1) then none else some (zJ (f ((zJ i).toNatClampNeg : Nat)))) = _
  rw [if_neg (fun g => g.elim (zoff_not h0 h1 (by omega)) (fun g => g rfl)), zJ_clamp h0 (by omega), Int.toNat_of_nonneg h0]
theorem za_st {b m : Nat} {f : Int → Int} (hD : (Y.2.2.1 b).1 = 0) (hB : Y.2.1 b = some (za m f)) (hm : m ≤ 1000) (h0 : 0 ≤ i) (h1 : i < m) : zsto 0 (wd Y n s X) b (zJ i) (zJ v) = some (wd (yB Y b (za m (zpu f i v))) n s X) := by
  have h : (wd Y n s X).2.2 b = some (za m f) := (wdx_0 hD).trans hB
  unfold zsto
  rw [h]
  show (if zoff (zJ i) m ∨ (0 : Nat) ≠ 0 then none else some ((n, s, zup (wd Y n s X).2.2 b (zEi 0 m (upd (fun j => zJ (f j)) (zJ i).toNatClampNeg (zJ v)))) : zW)) = _
  rw [if_neg (fun g => g.elim (zoff_not h0 h1 (by omega)) (fun g => g rfl)), zJ_clamp h0 (by omega), ← wd_B hD]
  have : (upd (fun j : Nat => zJ (f j)) i.toNat (zJ v)) = (fun j : Nat => zJ (zpu f i v j)) := by
    funext x
    unfold upd zpu
    by_cases e : x = i.toNat
    · rw [if_pos e, if_pos (by omega)]
    · rw [if_neg e, if_neg (fun r => e (by omega))]
  rw [this]
  rfl
theorem yW_3 : (yW Y a R N E S).2.1 (a + 3) = some (za 9 S) := if_pos rfl
theorem yW_2 : (yW Y a R N E S).2.1 (a + 2) = some (za 9 E) := (if_neg (by omega)).trans (if_pos rfl)
theorem yW_1 : (yW Y a R N E S).2.1 (a + 1) = some (za 9 N) := (if_neg (by omega)).trans ((if_neg (by omega)).trans (if_pos rfl))
theorem yW_0 : (yW Y a R N E S).2.1 a = some (za 8 R) := (if_neg (by omega)).trans ((if_neg (by omega)).trans ((if_neg (by omega)).trans (if_pos rfl)))
theorem yW_c3 {S' : Int → Int} : yB (yW Y a R N E S) (a + 3) (za 9 S') = yW Y a R N E S' := yB_B
theorem yW_c2 {E' : Int → Int} : yB (yW Y a R N E S) (a + 2) (za 9 E') = yW Y a R N E' S := (yB_cm (by omega)).trans (congrArg (fun Z => yB Z (a + 3) (za 9 S)) yB_B)
theorem yW_c1 {N' : Int → Int} : yB (yW Y a R N E S) (a + 1) (za 9 N') = yW Y a R N' E S := (yB_cm (by omega)).trans (congrArg (fun Z => yB Z (a + 3) (za 9 S)) ((yB_cm (by omega)).trans (congrArg (fun Z => yB Z (a + 2) (za 9 E)) yB_B)))
theorem yW_c0 {R' : Int → Int} : yB (yW Y a R N E S) a (za 8 R') = yW Y a R' N E S := (yB_cm (by omega)).trans (congrArg (fun Z => yB Z (a + 3) (za 9 S)) ((yB_cm (by omega)).trans (congrArg (fun Z => yB Z (a + 2) (za 9 E)) ((yB_cm (by omega)).trans (congrArg (fun Z => yB Z (a + 1) (za 9 N)) yB_B)))))
/-- what the way's search rests on -/
def wWy (Y : zLy) (a : Nat) (X : zX) (nb gl : Int) : Prop := wL Y ∧ (∀ c, a ≤ c → (Y.2.2.1 c).1 = 0) ∧ X 1113 0 = nb ∧ (0 ≤ nb ∧ nb ≤ 16) ∧ (0 ≤ gl ∧ gl < 8) ∧ ∀ i, 0 ≤ i → i < nb → (X 1100 i = X 1001 i + 8 * X 1002 i + 64 * X 1003 i ∧ X 1101 i = X 1004 i) ∧ (0 ≤ X 1001 i ∧ X 1001 i < 8 ∧ 0 ≤ X 1002 i ∧ X 1002 i < 8 ∧ X 1001 i ≠ X 1002 i ∧ 1 ≤ X 1003 i ∧ X 1003 i ≤ 999)
theorem w_ld0 (h : wWy Y a X nb gl) (h0 : 0 ≤ i) (h1 : i < 8) : zld false (wd (yW Y a R N E S) n s X) a (zJ i) = some (zJ (R i)) := za_ld (h.2.1 a (Nat.le_refl _)) yW_0 (by decide) h0 h1
theorem w_ld1 (h : wWy Y a X nb gl) (h0 : 0 ≤ i) (h1 : i < 9) : zld false (wd (yW Y a R N E S) n s X) (a + 1) (zJ i) = some (zJ (N i)) := za_ld (h.2.1 (a + 1) (by omega)) yW_1 (by decide) h0 h1
theorem w_ld2 (h : wWy Y a X nb gl) (h0 : 0 ≤ i) (h1 : i < 9) : zld false (wd (yW Y a R N E S) n s X) (a + 2) (zJ i) = some (zJ (E i)) := za_ld (h.2.1 (a + 2) (by omega)) yW_2 (by decide) h0 h1
theorem w_ld3 (h : wWy Y a X nb gl) (h0 : 0 ≤ i) (h1 : i < 9) : zld false (wd (yW Y a R N E S) n s X) (a + 3) (zJ i) = some (zJ (S i)) := za_ld (h.2.1 (a + 3) (by omega)) yW_3 (by decide) h0 h1
theorem w_st0 (h : wWy Y a X nb gl) (h0 : 0 ≤ i) (h1 : i < 8) : zsto 0 (wd (yW Y a R N E S) n s X) a (zJ i) (zJ v) = some (wd (yW Y a (zpu R i v) N E S) n s X) := by
  rw [za_st (Y := yW Y a R N E S) (h.2.1 a (Nat.le_refl _)) yW_0 (by decide) h0 h1, yW_c0]
theorem w_st1 (h : wWy Y a X nb gl) (h0 : 0 ≤ i) (h1 : i < 9) : zsto 0 (wd (yW Y a R N E S) n s X) (a + 1) (zJ i) (zJ v) = some (wd (yW Y a R (zpu N i v) E S) n s X) := by
  rw [za_st (Y := yW Y a R N E S) (h.2.1 (a + 1) (by omega)) yW_1 (by decide) h0 h1, yW_c1]
theorem w_st2 (h : wWy Y a X nb gl) (h0 : 0 ≤ i) (h1 : i < 9) : zsto 0 (wd (yW Y a R N E S) n s X) (a + 2) (zJ i) (zJ v) = some (wd (yW Y a R N (zpu E i v) S) n s X) := by
  rw [za_st (Y := yW Y a R N E S) (h.2.1 (a + 2) (by omega)) yW_2 (by decide) h0 h1, yW_c2]
theorem w_st3 (h : wWy Y a X nb gl) (h0 : 0 ≤ i) (h1 : i < 9) : zsto 0 (wd (yW Y a R N E S) n s X) (a + 3) (zJ i) (zJ v) = some (wd (yW Y a R N E (zpu S i v)) n s X) := by
  rw [za_st (Y := yW Y a R N E S) (h.2.1 (a + 3) (by omega)) yW_3 (by decide) h0 h1, yW_c3]
theorem w_ldb (h : wWy Y a X nb gl) (h0 : 0 ≤ i) (h1 : i < 16) : zld false (wd (yW Y a R N E S) n s X) (wA Y 15 600) (zJ i) = some (zJ (X 1100 i)) := lb_ (Y := yW Y a R N E S) h.1 h0 h1
theorem w_ldu (h : wWy Y a X nb gl) (h0 : 0 ≤ i) (h1 : i < 17) : zld false (wd (yW Y a R N E S) n s X) (wA Y 15 601) (zJ i) = some (zJ (X 1101 i)) := lu_ (Y := yW Y a R N E S) h.1 h0 h1
theorem w_ldg (h : wWy Y a X nb gl) (h0 : 0 ≤ i) (h1 : i < 8) : zld false (wd (yW Y a R N E S) n s X) (wA Y 15 613) (zJ i) = some (zJ (X 1113 i)) := lg_ (Y := yW Y a R N E S) h.1 h0 h1
/-- the row of the best way -/
def zrwy (d k : Int) (E R : Int → Int) : Int → Int := fun j => if k ≤ j ∧ j < 8 then (if j < d then E j - 1 else -1) else R j
theorem zrwy_8 {d k : Int} (h : 8 ≤ k) : zrwy d k E R = R := by
  funext j
  exact if_neg (fun g => by omega)
theorem zrwy_s {d k : Int} (h0 : k < 8) : zrwy d (k + 1) E (zpu R k (if k < d then E k - 1 else -1)) = zrwy d k E R := by
  funext j
  show (if k + 1 ≤ j ∧ j < 8 then (if j < d then E j - 1 else -1) else if j = k then (if k < d then E k - 1 else -1) else R j) = (if k ≤ j ∧ j < 8 then (if j < d then E j - 1 else -1) else R j)
  by_cases g : k + 1 ≤ j ∧ j < 8
  · rw [if_pos g, if_pos (show k ≤ j ∧ j < 8 by omega)]
  · rw [if_neg g]
    by_cases g2 : j = k
    · rw [if_pos g2, if_pos (show k ≤ j ∧ j < 8 by omega), g2]
    · rw [if_neg g2, if_neg (by omega)]
theorem way_76 (h : wWy Y a X nb gl) (hd : 0 ≤ d ∧ d ≤ 8) {x11 : Int32} {u13 u14 u15 : Value} : ∀ (m : Nat) (k : Int) (R : Int → Int), 0 ≤ k → k + m = 8 → ev_ G 210 76 [.ref (wA Y 15 600), .ref (wA Y 15 601), .ref (wA Y 15 613), .int fr, .int (zJ gl), .ref a, .ref (a + 1), .ref (a + 2), .ref (a + 3), .int (zJ (best)), .int (zJ (d)), .int x11, .int (zJ k), u13, u14, u15] [] (wd (yW Y a R N E S) n s X) = ev_ G 210 112 [.ref (wA Y 15 600), .ref (wA Y 15 601), .ref (wA Y 15 613), .int fr, .int (zJ gl), .ref a, .ref (a + 1), .ref (a + 2), .ref (a + 3), .int (zJ (best)), .int (zJ (d)), .int x11, .int (zJ 8), u13, u14, u15] [] (wd (yW Y a (zrwy d k E R) N E S) n s X) := by
  intro m
  induction m with
  | zero =>
    intro k R h0 he
    have e : k = 8 := by omega
    subst e
    rw [q_L_way_76]
    simp (disch := first | assumption | omega) only [↓reduceIte, l_0, l_1, l_2, l_3, l_4, l_5, l_6, l_7, l_8, l_9, l_10, l_12, l_16, l_24, l_31, l_32, l_48, l_96, l_99, l_100, l_150, l_180, l_200, l_240, l_255, l_260, l_384, l_400, l_999, l_5000, l_9999, l_1000000, l_1000000000, l_11, l_13, l_14, l_15, l_17, l_18, l_19, l_20, l_21, l_22, l_23, l_25, l_26, l_28, l_30, l_34, l_38, l_42, l_44, l_54, l_60, l_64, l_81, l_90, l_101, l_103, l_110, l_120, l_128, l_140, l_256, l_401, l_403, l_450, l_512, l_853, l_983, l_1000, l_1001, l_2048, l_3000000, l_2000000, l_4096, l_5001, l_5002, l_10000, l_10001, l_32767, l_32768, l_60000, l_2147483647, zJ_lt, zJ_le, zJ_eq, zJ_add, zJ_sub, zJ_mul, zJ_neg, zJ_dv, t_I, t_Ie, t_R, t_Re, t_N, t_Nn, t_V, t_Ve, t_b, t_x, t_w, e_0, e_1, e_2, e_3, ↓t_0, ↓t_1, t_00, t_11, if_true, if_false, ite_not, not_false_eq_true, not_true_eq_false, Int.reduceEq, Int.reduceLT, Int.reduceLE, Int.reduceNeg, Nat.reduceEqDiff, Bool.false_eq_true, zrwy_8 (Int.le_refl _)]
  | succ m ih =>
    intro k R h0 he
    have e1 : ¬8 ≤ k := by omega
    rw [q_L_way_76, ← zrwy_s (by omega)]
    by_cases k1 : d ≤ k
    · simp (disch := first | assumption | omega) only [↓reduceIte, l_0, l_1, l_2, l_3, l_4, l_5, l_6, l_7, l_8, l_9, l_10, l_12, l_16, l_24, l_31, l_32, l_48, l_96, l_99, l_100, l_150, l_180, l_200, l_240, l_255, l_260, l_384, l_400, l_999, l_5000, l_9999, l_1000000, l_1000000000, l_11, l_13, l_14, l_15, l_17, l_18, l_19, l_20, l_21, l_22, l_23, l_25, l_26, l_28, l_30, l_34, l_38, l_42, l_44, l_54, l_60, l_64, l_81, l_90, l_101, l_103, l_110, l_120, l_128, l_140, l_256, l_401, l_403, l_450, l_512, l_853, l_983, l_1000, l_1001, l_2048, l_3000000, l_2000000, l_4096, l_5001, l_5002, l_10000, l_10001, l_32767, l_32768, l_60000, l_2147483647, zJ_lt, zJ_le, zJ_eq, zJ_add, zJ_sub, zJ_mul, zJ_neg, zJ_dv, t_I, t_Ie, t_R, t_Re, t_N, t_Nn, t_V, t_Ve, t_b, t_x, t_w, e_0, e_1, e_2, e_3, ↓t_0, ↓t_1, t_00, t_11, if_true, if_false, ite_not, not_false_eq_true, not_true_eq_false, Int.reduceEq, Int.reduceLT, Int.reduceLE, Int.reduceNeg, Nat.reduceEqDiff, Bool.false_eq_true, e1, k1, w_st0 h]
      rw [ih (k + 1) _ (by omega) (by omega), if_neg (by omega)]
    · simp (disch := first | assumption | omega) only [↓reduceIte, l_0, l_1, l_2, l_3, l_4, l_5, l_6, l_7, l_8, l_9, l_10, l_12, l_16, l_24, l_31, l_32, l_48, l_96, l_99, l_100, l_150, l_180, l_200, l_240, l_255, l_260, l_384, l_400, l_999, l_5000, l_9999, l_1000000, l_1000000000, l_11, l_13, l_14, l_15, l_17, l_18, l_19, l_20, l_21, l_22, l_23, l_25, l_26, l_28, l_30, l_34, l_38, l_42, l_44, l_54, l_60, l_64, l_81, l_90, l_101, l_103, l_110, l_120, l_128, l_140, l_256, l_401, l_403, l_450, l_512, l_853, l_983, l_1000, l_1001, l_2048, l_3000000, l_2000000, l_4096, l_5001, l_5002, l_10000, l_10001, l_32767, l_32768, l_60000, l_2147483647, zJ_lt, zJ_le, zJ_eq, zJ_add, zJ_sub, zJ_mul, zJ_neg, zJ_dv, t_I, t_Ie, t_R, t_Re, t_N, t_Nn, t_V, t_Ve, t_b, t_x, t_w, e_0, e_1, e_2, e_3, ↓t_0, ↓t_1, t_00, t_11, if_true, if_false, ite_not, not_false_eq_true, not_true_eq_false, Int.reduceEq, Int.reduceLT, Int.reduceLE, Int.reduceNeg, Nat.reduceEqDiff, Bool.false_eq_true, e1, k1, w_st0 h, w_ld2 h]
      rw [ih (k + 1) _ (by omega) (by omega), if_pos (by omega)]
/-- the way's search at a place of the stack -/
def zVs (N E S : Int → Int) (d : Int) : Prop := (∀ i, 0 ≤ i → i ≤ d → 0 ≤ N i ∧ N i < 8) ∧ (∀ i j, 0 ≤ i → i < j → j ≤ d → N i ≠ N j) ∧ (0 ≤ S d ∧ S d ≤ 999 * d) ∧ 0 ≤ E d
theorem zVs_7 (h : zVs N E S d) (h0 : 0 ≤ d) : d ≤ 7 := by
  by_cases g : d ≤ 7
  · exact g
  · obtain ⟨i, j, h1, h2, h3⟩ := php 8 (fun i => (N i).toNat) (fun i hi => by
      have := h.1 i (by omega) (by omega)
      show (N i).toNat < 8
      omega)
    have a1 := h.1 i (by omega) (by omega)
    have a2 := h.1 j (by omega) (by omega)
    have h3 : (N i).toNat = (N j).toNat := h3
    exact absurd (show N i = N j by omega) (h.2.1 i j (by omega) (by omega) (by omega))
theorem way_29 (h : wWy Y a X nb gl) (hv : zVs N E S d) (hd : 0 ≤ d ∧ d ≤ 7) (hb : -1 ≤ best ∧ best ≤ 100000) {u11 u12 u13 u14 u15 : Value} : ∃ u12' : Value, ev_ G 210 29 [.ref (wA Y 15 600), .ref (wA Y 15 601), .ref (wA Y 15 613), .int fr, .int (zJ gl), .ref a, .ref (a + 1), .ref (a + 2), .ref (a + 3), .int (zJ (best)), .int (zJ (d)), u11, u12, u13, u14, u15] [] (wd (yW Y a R N E S) n s X) = if N d = gl ∧ (best < 0 ∨ S d * 8 + d < best) then ev_ G 210 112 [.ref (wA Y 15 600), .ref (wA Y 15 601), .ref (wA Y 15 613), .int fr, .int (zJ gl), .ref a, .ref (a + 1), .ref (a + 2), .ref (a + 3), .int (zJ (S d * 8 + d)), .int (zJ (d)), .int (zJ (S d * 8 + d)), u12', u13, u14, u15] [] (wd (yW Y a (zrwy d 0 E R) N E S) n s X) else ev_ G 210 112 [.ref (wA Y 15 600), .ref (wA Y 15 601), .ref (wA Y 15 613), .int fr, .int (zJ gl), .ref a, .ref (a + 1), .ref (a + 2), .ref (a + 3), .int (zJ (best)), .int (zJ (d)), .int (zJ (S d * 8 + d)), u12', u13, u14, u15] [] (wd (yW Y a R N E S) n s X) := by
  have hN := hv.1 d hd.1 (Int.le_refl _)
  have hS := hv.2.2.1
  have hgl := h.2.2.2.2.1
  have e1 : ¬d < 0 := by omega
  by_cases k1 : N d = gl
  · by_cases k2 : best < 0
    · refine ⟨.int (zJ 8), ?_⟩
      rw [if_pos ⟨k1, .inl k2⟩, q_L_way_29]
      simp (disch := first | assumption | omega) only [↓reduceIte, l_0, l_1, l_2, l_3, l_4, l_5, l_6, l_7, l_8, l_9, l_10, l_12, l_16, l_24, l_31, l_32, l_48, l_96, l_99, l_100, l_150, l_180, l_200, l_240, l_255, l_260, l_384, l_400, l_999, l_5000, l_9999, l_1000000, l_1000000000, l_11, l_13, l_14, l_15, l_17, l_18, l_19, l_20, l_21, l_22, l_23, l_25, l_26, l_28, l_30, l_34, l_38, l_42, l_44, l_54, l_60, l_64, l_81, l_90, l_101, l_103, l_110, l_120, l_128, l_140, l_256, l_401, l_403, l_450, l_512, l_853, l_983, l_1000, l_1001, l_2048, l_3000000, l_2000000, l_4096, l_5001, l_5002, l_10000, l_10001, l_32767, l_32768, l_60000, l_2147483647, zJ_lt, zJ_le, zJ_eq, zJ_add, zJ_sub, zJ_mul, zJ_neg, zJ_dv, t_I, t_Ie, t_R, t_Re, t_N, t_Nn, t_V, t_Ve, t_b, t_x, t_w, e_0, e_1, e_2, e_3, ↓t_0, ↓t_1, t_00, t_11, if_true, if_false, ite_not, not_false_eq_true, not_true_eq_false, Int.reduceEq, Int.reduceLT, Int.reduceLE, Int.reduceNeg, Nat.reduceEqDiff, Bool.false_eq_true, e1, k1, k2, w_ld1 h, w_ld3 h]
      exact way_76 h (by omega) 8 0 R (by decide) (by decide)
    · by_cases k3 : best ≤ S d * 8 + d
      · refine ⟨u12, ?_⟩
        rw [if_neg (by omega), q_L_way_29]
        simp (disch := first | assumption | omega) only [↓reduceIte, l_0, l_1, l_2, l_3, l_4, l_5, l_6, l_7, l_8, l_9, l_10, l_12, l_16, l_24, l_31, l_32, l_48, l_96, l_99, l_100, l_150, l_180, l_200, l_240, l_255, l_260, l_384, l_400, l_999, l_5000, l_9999, l_1000000, l_1000000000, l_11, l_13, l_14, l_15, l_17, l_18, l_19, l_20, l_21, l_22, l_23, l_25, l_26, l_28, l_30, l_34, l_38, l_42, l_44, l_54, l_60, l_64, l_81, l_90, l_101, l_103, l_110, l_120, l_128, l_140, l_256, l_401, l_403, l_450, l_512, l_853, l_983, l_1000, l_1001, l_2048, l_3000000, l_2000000, l_4096, l_5001, l_5002, l_10000, l_10001, l_32767, l_32768, l_60000, l_2147483647, zJ_lt, zJ_le, zJ_eq, zJ_add, zJ_sub, zJ_mul, zJ_neg, zJ_dv, t_I, t_Ie, t_R, t_Re, t_N, t_Nn, t_V, t_Ve, t_b, t_x, t_w, e_0, e_1, e_2, e_3, ↓t_0, ↓t_1, t_00, t_11, if_true, if_false, ite_not, not_false_eq_true, not_true_eq_false, Int.reduceEq, Int.reduceLT, Int.reduceLE, Int.reduceNeg, Nat.reduceEqDiff, Bool.false_eq_true, e1, k1, k2, k3, w_ld1 h, w_ld3 h]
      · refine ⟨.int (zJ 8), ?_⟩
        rw [if_pos ⟨k1, .inr (by omega)⟩, q_L_way_29]
        simp (disch := first | assumption | omega) only [↓reduceIte, l_0, l_1, l_2, l_3, l_4, l_5, l_6, l_7, l_8, l_9, l_10, l_12, l_16, l_24, l_31, l_32, l_48, l_96, l_99, l_100, l_150, l_180, l_200, l_240, l_255, l_260, l_384, l_400, l_999, l_5000, l_9999, l_1000000, l_1000000000, l_11, l_13, l_14, l_15, l_17, l_18, l_19, l_20, l_21, l_22, l_23, l_25, l_26, l_28, l_30, l_34, l_38, l_42, l_44, l_54, l_60, l_64, l_81, l_90, l_101, l_103, l_110, l_120, l_128, l_140, l_256, l_401, l_403, l_450, l_512, l_853, l_983, l_1000, l_1001, l_2048, l_3000000, l_2000000, l_4096, l_5001, l_5002, l_10000, l_10001, l_32767, l_32768, l_60000, l_2147483647, zJ_lt, zJ_le, zJ_eq, zJ_add, zJ_sub, zJ_mul, zJ_neg, zJ_dv, t_I, t_Ie, t_R, t_Re, t_N, t_Nn, t_V, t_Ve, t_b, t_x, t_w, e_0, e_1, e_2, e_3, ↓t_0, ↓t_1, t_00, t_11, if_true, if_false, ite_not, not_false_eq_true, not_true_eq_false, Int.reduceEq, Int.reduceLT, Int.reduceLE, Int.reduceNeg, Nat.reduceEqDiff, Bool.false_eq_true, e1, k1, k2, k3, w_ld1 h, w_ld3 h]
        exact way_76 h (by omega) 8 0 R (by decide) (by decide)
  · refine ⟨u12, ?_⟩
    rw [if_neg (fun g => k1 g.1), q_L_way_29]
    simp (disch := first | assumption | omega) only [↓reduceIte, l_0, l_1, l_2, l_3, l_4, l_5, l_6, l_7, l_8, l_9, l_10, l_12, l_16, l_24, l_31, l_32, l_48, l_96, l_99, l_100, l_150, l_180, l_200, l_240, l_255, l_260, l_384, l_400, l_999, l_5000, l_9999, l_1000000, l_1000000000, l_11, l_13, l_14, l_15, l_17, l_18, l_19, l_20, l_21, l_22, l_23, l_25, l_26, l_28, l_30, l_34, l_38, l_42, l_44, l_54, l_60, l_64, l_81, l_90, l_101, l_103, l_110, l_120, l_128, l_140, l_256, l_401, l_403, l_450, l_512, l_853, l_983, l_1000, l_1001, l_2048, l_3000000, l_2000000, l_4096, l_5001, l_5002, l_10000, l_10001, l_32767, l_32768, l_60000, l_2147483647, zJ_lt, zJ_le, zJ_eq, zJ_add, zJ_sub, zJ_mul, zJ_neg, zJ_dv, t_I, t_Ie, t_R, t_Re, t_N, t_Nn, t_V, t_Ve, t_b, t_x, t_w, e_0, e_1, e_2, e_3, ↓t_0, ↓t_1, t_00, t_11, if_true, if_false, ite_not, not_false_eq_true, not_true_eq_false, Int.reduceEq, Int.reduceLT, Int.reduceLE, Int.reduceNeg, Nat.reduceEqDiff, Bool.false_eq_true, e1, k1, w_ld1 h, w_ld3 h]
theorem way_112 (h : wWy Y a X nb gl) (hv : zVs N E S d) (hd : 0 ≤ d ∧ d ≤ 7) (hE : E d ≤ nb) (hb : -1 ≤ best ∧ best ≤ 100000) {u12 u13 u14 u15 : Value} : ev_ G 210 112 [.ref (wA Y 15 600), .ref (wA Y 15 601), .ref (wA Y 15 613), .int fr, .int (zJ gl), .ref a, .ref (a + 1), .ref (a + 2), .ref (a + 3), .int (zJ (best)), .int (zJ (d)), .int (zJ (S d * 8 + d)), u12, u13, u14, u15] [] (wd (yW Y a R N E S) n s X) = if N d = gl ∨ E d = nb ∨ (0 ≤ best ∧ best ≤ S d * 8 + d) then ev_ G 210 29 [.ref (wA Y 15 600), .ref (wA Y 15 601), .ref (wA Y 15 613), .int fr, .int (zJ gl), .ref a, .ref (a + 1), .ref (a + 2), .ref (a + 3), .int (zJ (best)), .int (zJ (d + -1)), .int (zJ (S d * 8 + d)), u12, u13, u14, u15] [] (wd (yW Y a R N E S) n s X) else ev_ G 210 151 [.ref (wA Y 15 600), .ref (wA Y 15 601), .ref (wA Y 15 613), .int fr, .int (zJ gl), .ref a, .ref (a + 1), .ref (a + 2), .ref (a + 3), .int (zJ (best)), .int (zJ (d)), .int (zJ (S d * 8 + d)), u12, u13, u14, u15] [] (wd (yW Y a R N E S) n s X) := by
  have hN := hv.1 d hd.1 (Int.le_refl _)
  have hS := hv.2.2.1
  have hE0 := hv.2.2.2
  obtain ⟨-, -, hg, hnb, hgl, -⟩ := id h
  rw [q_L_way_112]
  by_cases k1 : N d = gl
  · simp (disch := first | assumption | omega) only [↓reduceIte, l_0, l_1, l_2, l_3, l_4, l_5, l_6, l_7, l_8, l_9, l_10, l_12, l_16, l_24, l_31, l_32, l_48, l_96, l_99, l_100, l_150, l_180, l_200, l_240, l_255, l_260, l_384, l_400, l_999, l_5000, l_9999, l_1000000, l_1000000000, l_11, l_13, l_14, l_15, l_17, l_18, l_19, l_20, l_21, l_22, l_23, l_25, l_26, l_28, l_30, l_34, l_38, l_42, l_44, l_54, l_60, l_64, l_81, l_90, l_101, l_103, l_110, l_120, l_128, l_140, l_256, l_401, l_403, l_450, l_512, l_853, l_983, l_1000, l_1001, l_2048, l_3000000, l_2000000, l_4096, l_5001, l_5002, l_10000, l_10001, l_32767, l_32768, l_60000, l_2147483647, zJ_lt, zJ_le, zJ_eq, zJ_add, zJ_sub, zJ_mul, zJ_neg, zJ_dv, t_I, t_Ie, t_R, t_Re, t_N, t_Nn, t_V, t_Ve, t_b, t_x, t_w, e_0, e_1, e_2, e_3, ↓t_0, ↓t_1, t_00, t_11, if_true, if_false, ite_not, not_false_eq_true, not_true_eq_false, Int.reduceEq, Int.reduceLT, Int.reduceLE, Int.reduceNeg, Nat.reduceEqDiff, Bool.false_eq_true, k1, w_ld1 h, true_or]
  · by_cases k2 : E d = nb
    · simp (disch := first | assumption | omega) only [↓reduceIte, l_0, l_1, l_2, l_3, l_4, l_5, l_6, l_7, l_8, l_9, l_10, l_12, l_16, l_24, l_31, l_32, l_48, l_96, l_99, l_100, l_150, l_180, l_200, l_240, l_255, l_260, l_384, l_400, l_999, l_5000, l_9999, l_1000000, l_1000000000, l_11, l_13, l_14, l_15, l_17, l_18, l_19, l_20, l_21, l_22, l_23, l_25, l_26, l_28, l_30, l_34, l_38, l_42, l_44, l_54, l_60, l_64, l_81, l_90, l_101, l_103, l_110, l_120, l_128, l_140, l_256, l_401, l_403, l_450, l_512, l_853, l_983, l_1000, l_1001, l_2048, l_3000000, l_2000000, l_4096, l_5001, l_5002, l_10000, l_10001, l_32767, l_32768, l_60000, l_2147483647, zJ_lt, zJ_le, zJ_eq, zJ_add, zJ_sub, zJ_mul, zJ_neg, zJ_dv, t_I, t_Ie, t_R, t_Re, t_N, t_Nn, t_V, t_Ve, t_b, t_x, t_w, e_0, e_1, e_2, e_3, ↓t_0, ↓t_1, t_00, t_11, if_true, if_false, ite_not, not_false_eq_true, not_true_eq_false, Int.reduceEq, Int.reduceLT, Int.reduceLE, Int.reduceNeg, Nat.reduceEqDiff, Bool.false_eq_true, k1, k2, w_ld1 h, w_ld2 h, w_ldg h, hg, true_or, or_true]
    · by_cases k3 : best < 0
      · have k4 : ¬0 ≤ best := by omega
        simp (disch := first | assumption | omega) only [↓reduceIte, l_0, l_1, l_2, l_3, l_4, l_5, l_6, l_7, l_8, l_9, l_10, l_12, l_16, l_24, l_31, l_32, l_48, l_96, l_99, l_100, l_150, l_180, l_200, l_240, l_255, l_260, l_384, l_400, l_999, l_5000, l_9999, l_1000000, l_1000000000, l_11, l_13, l_14, l_15, l_17, l_18, l_19, l_20, l_21, l_22, l_23, l_25, l_26, l_28, l_30, l_34, l_38, l_42, l_44, l_54, l_60, l_64, l_81, l_90, l_101, l_103, l_110, l_120, l_128, l_140, l_256, l_401, l_403, l_450, l_512, l_853, l_983, l_1000, l_1001, l_2048, l_3000000, l_2000000, l_4096, l_5001, l_5002, l_10000, l_10001, l_32767, l_32768, l_60000, l_2147483647, zJ_lt, zJ_le, zJ_eq, zJ_add, zJ_sub, zJ_mul, zJ_neg, zJ_dv, t_I, t_Ie, t_R, t_Re, t_N, t_Nn, t_V, t_Ve, t_b, t_x, t_w, e_0, e_1, e_2, e_3, ↓t_0, ↓t_1, t_00, t_11, if_true, if_false, ite_not, not_false_eq_true, not_true_eq_false, Int.reduceEq, Int.reduceLT, Int.reduceLE, Int.reduceNeg, Nat.reduceEqDiff, Bool.false_eq_true, k1, k2, k3, k4, w_ld1 h, w_ld2 h, w_ldg h, hg, or_self, false_and]
      · have k4 : 0 ≤ best := by omega
        by_cases k5 : S d * 8 + d < best
        · have k6 : ¬best ≤ S d * 8 + d := by omega
          simp (disch := first | assumption | omega) only [↓reduceIte, l_0, l_1, l_2, l_3, l_4, l_5, l_6, l_7, l_8, l_9, l_10, l_12, l_16, l_24, l_31, l_32, l_48, l_96, l_99, l_100, l_150, l_180, l_200, l_240, l_255, l_260, l_384, l_400, l_999, l_5000, l_9999, l_1000000, l_1000000000, l_11, l_13, l_14, l_15, l_17, l_18, l_19, l_20, l_21, l_22, l_23, l_25, l_26, l_28, l_30, l_34, l_38, l_42, l_44, l_54, l_60, l_64, l_81, l_90, l_101, l_103, l_110, l_120, l_128, l_140, l_256, l_401, l_403, l_450, l_512, l_853, l_983, l_1000, l_1001, l_2048, l_3000000, l_2000000, l_4096, l_5001, l_5002, l_10000, l_10001, l_32767, l_32768, l_60000, l_2147483647, zJ_lt, zJ_le, zJ_eq, zJ_add, zJ_sub, zJ_mul, zJ_neg, zJ_dv, t_I, t_Ie, t_R, t_Re, t_N, t_Nn, t_V, t_Ve, t_b, t_x, t_w, e_0, e_1, e_2, e_3, ↓t_0, ↓t_1, t_00, t_11, if_true, if_false, ite_not, not_false_eq_true, not_true_eq_false, Int.reduceEq, Int.reduceLT, Int.reduceLE, Int.reduceNeg, Nat.reduceEqDiff, Bool.false_eq_true, k1, k2, k3, k4, k5, k6, w_ld1 h, w_ld2 h, w_ldg h, hg, or_self, and_false]
        · have k6 : best ≤ S d * 8 + d := by omega
          simp (disch := first | assumption | omega) only [↓reduceIte, l_0, l_1, l_2, l_3, l_4, l_5, l_6, l_7, l_8, l_9, l_10, l_12, l_16, l_24, l_31, l_32, l_48, l_96, l_99, l_100, l_150, l_180, l_200, l_240, l_255, l_260, l_384, l_400, l_999, l_5000, l_9999, l_1000000, l_1000000000, l_11, l_13, l_14, l_15, l_17, l_18, l_19, l_20, l_21, l_22, l_23, l_25, l_26, l_28, l_30, l_34, l_38, l_42, l_44, l_54, l_60, l_64, l_81, l_90, l_101, l_103, l_110, l_120, l_128, l_140, l_256, l_401, l_403, l_450, l_512, l_853, l_983, l_1000, l_1001, l_2048, l_3000000, l_2000000, l_4096, l_5001, l_5002, l_10000, l_10001, l_32767, l_32768, l_60000, l_2147483647, zJ_lt, zJ_le, zJ_eq, zJ_add, zJ_sub, zJ_mul, zJ_neg, zJ_dv, t_I, t_Ie, t_R, t_Re, t_N, t_Nn, t_V, t_Ve, t_b, t_x, t_w, e_0, e_1, e_2, e_3, ↓t_0, ↓t_1, t_00, t_11, if_true, if_false, ite_not, not_false_eq_true, not_true_eq_false, Int.reduceEq, Int.reduceLT, Int.reduceLE, Int.reduceNeg, Nat.reduceEqDiff, Bool.false_eq_true, k1, k2, k3, k4, k5, k6, w_ld1 h, w_ld2 h, w_ldg h, hg, and_self, or_true]
theorem way_151 (h : wWy Y a X nb gl) (hv : zVs N E S d) (hd : 0 ≤ d ∧ d ≤ 7) (hE : E d < nb) {x11 : Int32} {u12 u13 u14 u15 : Value} : ev_ G 210 151 [.ref (wA Y 15 600), .ref (wA Y 15 601), .ref (wA Y 15 613), .int fr, .int (zJ gl), .ref a, .ref (a + 1), .ref (a + 2), .ref (a + 3), .int (zJ (best)), .int (zJ (d)), .int x11, u12, u13, u14, u15] [] (wd (yW Y a R N E S) n s X) = ev_ G 210 224 [.ref (wA Y 15 600), .ref (wA Y 15 601), .ref (wA Y 15 613), .int fr, .int (zJ gl), .ref a, .ref (a + 1), .ref (a + 2), .ref (a + 3), .int (zJ (best)), .int (zJ (d)), .int x11, .int (zJ (E d)), u13, u14, u15] [.int (zJ (zac (X 1001 (E d)) (X 1002 (E d)) (N d)))] (wd (yW Y a R N (zpu E d (E d + 1)) S) n s X) := by
  have hN := hv.1 d hd.1 (Int.le_refl _)
  have hE0 := hv.2.2.2
  obtain ⟨-, -, hg, hnb, hgl, hbs⟩ := id h
  obtain ⟨⟨b1, b2⟩, b3⟩ := hbs (E d) hE0 hE
  have e1 : X 1100 (E d) % 8 = X 1001 (E d) := by omega
  have e2 : X 1100 (E d) / 8 % 8 = X 1002 (E d) := by omega
  rw [q_L_way_151]
  unfold zac
  by_cases k1 : X 1001 (E d) = N d
  · rw [if_pos k1.symm]
    simp (disch := first | assumption | omega) only [↓reduceIte, l_0, l_1, l_2, l_3, l_4, l_5, l_6, l_7, l_8, l_9, l_10, l_12, l_16, l_24, l_31, l_32, l_48, l_96, l_99, l_100, l_150, l_180, l_200, l_240, l_255, l_260, l_384, l_400, l_999, l_5000, l_9999, l_1000000, l_1000000000, l_11, l_13, l_14, l_15, l_17, l_18, l_19, l_20, l_21, l_22, l_23, l_25, l_26, l_28, l_30, l_34, l_38, l_42, l_44, l_54, l_60, l_64, l_81, l_90, l_101, l_103, l_110, l_120, l_128, l_140, l_256, l_401, l_403, l_450, l_512, l_853, l_983, l_1000, l_1001, l_2048, l_3000000, l_2000000, l_4096, l_5001, l_5002, l_10000, l_10001, l_32767, l_32768, l_60000, l_2147483647, zJ_lt, zJ_le, zJ_eq, zJ_add, zJ_sub, zJ_mul, zJ_neg, zJ_dv, t_I, t_Ie, t_R, t_Re, t_N, t_Nn, t_V, t_Ve, t_b, t_x, t_w, e_0, e_1, e_2, e_3, ↓t_0, ↓t_1, t_00, t_11, if_true, if_false, ite_not, not_false_eq_true, not_true_eq_false, Int.reduceEq, Int.reduceLT, Int.reduceLE, Int.reduceNeg, Nat.reduceEqDiff, Bool.false_eq_true, zem, k1, e1, e2, w_ld1 h, w_ld2 h, w_st2 h, w_ldb h]
  · rw [if_neg (Ne.symm k1)]
    by_cases k2 : X 1002 (E d) = N d
    · rw [if_pos k2.symm]
      simp (disch := first | assumption | omega) only [↓reduceIte, l_0, l_1, l_2, l_3, l_4, l_5, l_6, l_7, l_8, l_9, l_10, l_12, l_16, l_24, l_31, l_32, l_48, l_96, l_99, l_100, l_150, l_180, l_200, l_240, l_255, l_260, l_384, l_400, l_999, l_5000, l_9999, l_1000000, l_1000000000, l_11, l_13, l_14, l_15, l_17, l_18, l_19, l_20, l_21, l_22, l_23, l_25, l_26, l_28, l_30, l_34, l_38, l_42, l_44, l_54, l_60, l_64, l_81, l_90, l_101, l_103, l_110, l_120, l_128, l_140, l_256, l_401, l_403, l_450, l_512, l_853, l_983, l_1000, l_1001, l_2048, l_3000000, l_2000000, l_4096, l_5001, l_5002, l_10000, l_10001, l_32767, l_32768, l_60000, l_2147483647, zJ_lt, zJ_le, zJ_eq, zJ_add, zJ_sub, zJ_mul, zJ_neg, zJ_dv, t_I, t_Ie, t_R, t_Re, t_N, t_Nn, t_V, t_Ve, t_b, t_x, t_w, e_0, e_1, e_2, e_3, ↓t_0, ↓t_1, t_00, t_11, if_true, if_false, ite_not, not_false_eq_true, not_true_eq_false, Int.reduceEq, Int.reduceLT, Int.reduceLE, Int.reduceNeg, Nat.reduceEqDiff, Bool.false_eq_true, zem, k1, k2, e1, e2, w_ld1 h, w_ld2 h, w_st2 h, w_ldb h]
    · rw [if_neg (Ne.symm k2)]
      simp (disch := first | assumption | omega) only [↓reduceIte, l_0, l_1, l_2, l_3, l_4, l_5, l_6, l_7, l_8, l_9, l_10, l_12, l_16, l_24, l_31, l_32, l_48, l_96, l_99, l_100, l_150, l_180, l_200, l_240, l_255, l_260, l_384, l_400, l_999, l_5000, l_9999, l_1000000, l_1000000000, l_11, l_13, l_14, l_15, l_17, l_18, l_19, l_20, l_21, l_22, l_23, l_25, l_26, l_28, l_30, l_34, l_38, l_42, l_44, l_54, l_60, l_64, l_81, l_90, l_101, l_103, l_110, l_120, l_128, l_140, l_256, l_401, l_403, l_450, l_512, l_853, l_983, l_1000, l_1001, l_2048, l_3000000, l_2000000, l_4096, l_5001, l_5002, l_10000, l_10001, l_32767, l_32768, l_60000, l_2147483647, zJ_lt, zJ_le, zJ_eq, zJ_add, zJ_sub, zJ_mul, zJ_neg, zJ_dv, t_I, t_Ie, t_R, t_Re, t_N, t_Nn, t_V, t_Ve, t_b, t_x, t_w, e_0, e_1, e_2, e_3, ↓t_0, ↓t_1, t_00, t_11, if_true, if_false, ite_not, not_false_eq_true, not_true_eq_false, Int.reduceEq, Int.reduceLT, Int.reduceLE, Int.reduceNeg, Nat.reduceEqDiff, Bool.false_eq_true, zem, k1, k2, e1, e2, w_ld1 h, w_ld2 h, w_st2 h, w_ldb h]
theorem way_224 (h : wWy Y a X nb gl) (hi : 0 ≤ i ∧ i < nb) (hv : -1 ≤ v ∧ v < 8) {x11 : Int32} {u13 u14 u15 : Value} : ev_ G 210 224 [.ref (wA Y 15 600), .ref (wA Y 15 601), .ref (wA Y 15 613), .int fr, .int (zJ gl), .ref a, .ref (a + 1), .ref (a + 2), .ref (a + 3), .int (zJ (best)), .int (zJ (d)), .int x11, .int (zJ i), u13, u14, u15] [.int (zJ v)] (wd (yW Y a R N E S) n s X) = ev_ G 210 248 [.ref (wA Y 15 600), .ref (wA Y 15 601), .ref (wA Y 15 613), .int fr, .int (zJ gl), .ref a, .ref (a + 1), .ref (a + 2), .ref (a + 3), .int (zJ (best)), .int (zJ (d)), .int x11, .int (zJ i), .int (zJ v), .int (zJ (if v < 0 then 0 else if zJ (X 1004 i) ≤ zJ 0 then 0 else 1)), .int (zJ 0)] [] (wd (yW Y a R N E S) n s X) := by
  obtain ⟨-, -, hg, hnb, hgl, hbs⟩ := id h
  obtain ⟨⟨b1, b2⟩, b3⟩ := hbs i hi.1 hi.2
  rw [q_L_way_224]
  by_cases k1 : v < 0
  · rw [if_pos (by rw [l_0, zJ_lt (by omega) (by omega) (by decide) (by decide)]; exact k1), if_pos k1]
    rfl
  · rw [if_neg (by rw [l_0, zJ_lt (by omega) (by omega) (by decide) (by decide)]; exact k1), if_neg k1, w_ldu h hi.1 (by omega), t_b, b2]
    by_cases k2 : zJ (X 1004 i) ≤ zJ 0
    · rw [if_pos (show zJ (X 1004 i) ≤ 0 from k2), if_pos k2]
      rfl
    · rw [if_neg (show ¬zJ (X 1004 i) ≤ 0 from k2), if_neg k2]
      rfl
theorem way_248z (h : wWy Y a X nb gl) (hd : 0 ≤ d ∧ d ≤ 7) {x11 x12 x13 : Int32} : ∀ (m : Nat) (k : Int), 0 ≤ k → k + m = d + 1 → ev_ G 210 248 [.ref (wA Y 15 600), .ref (wA Y 15 601), .ref (wA Y 15 613), .int fr, .int (zJ gl), .ref a, .ref (a + 1), .ref (a + 2), .ref (a + 3), .int (zJ (best)), .int (zJ (d)), .int x11, .int x12, .int x13, .int (zJ 0), .int (zJ k)] [] (wd (yW Y a R N E S) n s X) = ev_ G 210 29 [.ref (wA Y 15 600), .ref (wA Y 15 601), .ref (wA Y 15 613), .int fr, .int (zJ gl), .ref a, .ref (a + 1), .ref (a + 2), .ref (a + 3), .int (zJ (best)), .int (zJ (d)), .int x11, .int x12, .int x13, .int (zJ 0), .int (zJ (d + 1))] [] (wd (yW Y a R N E S) n s X) := by
  intro m
  induction m with
  | zero =>
    intro k h0 he
    have e : k = d + 1 := by omega
    subst e
    have e1 : d < d + 1 := by omega
    rw [q_L_way_248]
    simp (disch := first | assumption | omega) only [↓reduceIte, l_0, l_1, l_2, l_3, l_4, l_5, l_6, l_7, l_8, l_9, l_10, l_12, l_16, l_24, l_31, l_32, l_48, l_96, l_99, l_100, l_150, l_180, l_200, l_240, l_255, l_260, l_384, l_400, l_999, l_5000, l_9999, l_1000000, l_1000000000, l_11, l_13, l_14, l_15, l_17, l_18, l_19, l_20, l_21, l_22, l_23, l_25, l_26, l_28, l_30, l_34, l_38, l_42, l_44, l_54, l_60, l_64, l_81, l_90, l_101, l_103, l_110, l_120, l_128, l_140, l_256, l_401, l_403, l_450, l_512, l_853, l_983, l_1000, l_1001, l_2048, l_3000000, l_2000000, l_4096, l_5001, l_5002, l_10000, l_10001, l_32767, l_32768, l_60000, l_2147483647, zJ_lt, zJ_le, zJ_eq, zJ_add, zJ_sub, zJ_mul, zJ_neg, zJ_dv, t_I, t_Ie, t_R, t_Re, t_N, t_Nn, t_V, t_Ve, t_b, t_x, t_w, e_0, e_1, e_2, e_3, ↓t_0, ↓t_1, t_00, t_11, if_true, if_false, ite_not, not_false_eq_true, not_true_eq_false, Int.reduceEq, Int.reduceLT, Int.reduceLE, Int.reduceNeg, Nat.reduceEqDiff, Bool.false_eq_true, e1]
  | succ m ih =>
    intro k h0 he
    have e1 : ¬d < k := by omega
    rw [q_L_way_248]
    simp (disch := first | assumption | omega) only [↓reduceIte, l_0, l_1, l_2, l_3, l_4, l_5, l_6, l_7, l_8, l_9, l_10, l_12, l_16, l_24, l_31, l_32, l_48, l_96, l_99, l_100, l_150, l_180, l_200, l_240, l_255, l_260, l_384, l_400, l_999, l_5000, l_9999, l_1000000, l_1000000000, l_11, l_13, l_14, l_15, l_17, l_18, l_19, l_20, l_21, l_22, l_23, l_25, l_26, l_28, l_30, l_34, l_38, l_42, l_44, l_54, l_60, l_64, l_81, l_90, l_101, l_103, l_110, l_120, l_128, l_140, l_256, l_401, l_403, l_450, l_512, l_853, l_983, l_1000, l_1001, l_2048, l_3000000, l_2000000, l_4096, l_5001, l_5002, l_10000, l_10001, l_32767, l_32768, l_60000, l_2147483647, zJ_lt, zJ_le, zJ_eq, zJ_add, zJ_sub, zJ_mul, zJ_neg, zJ_dv, t_I, t_Ie, t_R, t_Re, t_N, t_Nn, t_V, t_Ve, t_b, t_x, t_w, e_0, e_1, e_2, e_3, ↓t_0, ↓t_1, t_00, t_11, if_true, if_false, ite_not, not_false_eq_true, not_true_eq_false, Int.reduceEq, Int.reduceLT, Int.reduceLE, Int.reduceNeg, Nat.reduceEqDiff, Bool.false_eq_true, e1]
    rw [ih (k + 1) (by omega) (by omega)]
/-- a bundle that leads on, to a node that isn't on the way -/
theorem way_248 (h : wWy Y a X nb gl) (hv : zVs N E S d) (hd : 0 ≤ d ∧ d ≤ 7) (hi : 0 ≤ i ∧ i < nb) (hv8 : 0 ≤ v ∧ v < 8) {x11 : Int32} : ∀ (m : Nat) (k : Int), 0 ≤ k → k + m = d + 1 → (∃ x : Value, (¬∀ j, k ≤ j → j ≤ d → N j ≠ v) ∧ ev_ G 210 248 [.ref (wA Y 15 600), .ref (wA Y 15 601), .ref (wA Y 15 613), .int fr, .int (zJ gl), .ref a, .ref (a + 1), .ref (a + 2), .ref (a + 3), .int (zJ (best)), .int (zJ (d)), .int x11, .int (zJ i), .int (zJ v), .int (zJ 1), .int (zJ k)] [] (wd (yW Y a R N E S) n s X) = ev_ G 210 29 [.ref (wA Y 15 600), .ref (wA Y 15 601), .ref (wA Y 15 613), .int fr, .int (zJ gl), .ref a, .ref (a + 1), .ref (a + 2), .ref (a + 3), .int (zJ (best)), .int (zJ (d)), .int x11, .int (zJ i), .int (zJ v), x, .int (zJ (d + 1))] [] (wd (yW Y a R N E S) n s X)) ∨ ((∀ j, k ≤ j → j ≤ d → N j ≠ v) ∧ ev_ G 210 248 [.ref (wA Y 15 600), .ref (wA Y 15 601), .ref (wA Y 15 613), .int fr, .int (zJ gl), .ref a, .ref (a + 1), .ref (a + 2), .ref (a + 3), .int (zJ (best)), .int (zJ (d)), .int x11, .int (zJ i), .int (zJ v), .int (zJ 1), .int (zJ k)] [] (wd (yW Y a R N E S) n s X) = ev_ G 210 29 [.ref (wA Y 15 600), .ref (wA Y 15 601), .ref (wA Y 15 613), .int fr, .int (zJ gl), .ref a, .ref (a + 1), .ref (a + 2), .ref (a + 3), .int (zJ (best)), .int (zJ (d + 1)), .int x11, .int (zJ i), .int (zJ v), .int (zJ 1), .int (zJ (d + 1))] [] (wd (yW Y a R (zpu N (d + 1) v) (zpu E (d + 1) 0) (zpu S (d + 1) (S d + X 1003 i))) n s X)) := by
  obtain ⟨-, -, hg, hnb, hgl, hbs⟩ := id h
  obtain ⟨⟨b1, b2⟩, b3⟩ := hbs i hi.1 hi.2
  have e2 : X 1100 i / 64 = X 1003 i := by omega
  intro m
  induction m with
  | zero =>
    intro k h0 he
    have e : k = d + 1 := by omega
    subst e
    have e1 : d < d + 1 := by omega
    refine .inr ⟨fun j a b => by omega, ?_⟩
    rw [q_L_way_248]
    simp (disch := first | assumption | omega) only [↓reduceIte, l_0, l_1, l_2, l_3, l_4, l_5, l_6, l_7, l_8, l_9, l_10, l_12, l_16, l_24, l_31, l_32, l_48, l_96, l_99, l_100, l_150, l_180, l_200, l_240, l_255, l_260, l_384, l_400, l_999, l_5000, l_9999, l_1000000, l_1000000000, l_11, l_13, l_14, l_15, l_17, l_18, l_19, l_20, l_21, l_22, l_23, l_25, l_26, l_28, l_30, l_34, l_38, l_42, l_44, l_54, l_60, l_64, l_81, l_90, l_101, l_103, l_110, l_120, l_128, l_140, l_256, l_401, l_403, l_450, l_512, l_853, l_983, l_1000, l_1001, l_2048, l_3000000, l_2000000, l_4096, l_5001, l_5002, l_10000, l_10001, l_32767, l_32768, l_60000, l_2147483647, zJ_lt, zJ_le, zJ_eq, zJ_add, zJ_sub, zJ_mul, zJ_neg, zJ_dv, t_I, t_Ie, t_R, t_Re, t_N, t_Nn, t_V, t_Ve, t_b, t_x, t_w, e_0, e_1, e_2, e_3, ↓t_0, ↓t_1, t_00, t_11, if_true, if_false, ite_not, not_false_eq_true, not_true_eq_false, Int.reduceEq, Int.reduceLT, Int.reduceLE, Int.reduceNeg, Nat.reduceEqDiff, Bool.false_eq_true, e1, w_ld3 h, w_ldb h, e2, w_st3 h, w_st1 h, w_st2 h]
  | succ m ih =>
    intro k h0 he
    have e1 : ¬d < k := by omega
    have hN := hv.1 k h0 (by omega)
    by_cases k1 : N k = v
    · refine .inl ⟨.int (zJ 0), fun g => g k (Int.le_refl _) (by omega) k1, ?_⟩
      rw [q_L_way_248]
      simp (disch := first | assumption | omega) only [↓reduceIte, l_0, l_1, l_2, l_3, l_4, l_5, l_6, l_7, l_8, l_9, l_10, l_12, l_16, l_24, l_31, l_32, l_48, l_96, l_99, l_100, l_150, l_180, l_200, l_240, l_255, l_260, l_384, l_400, l_999, l_5000, l_9999, l_1000000, l_1000000000, l_11, l_13, l_14, l_15, l_17, l_18, l_19, l_20, l_21, l_22, l_23, l_25, l_26, l_28, l_30, l_34, l_38, l_42, l_44, l_54, l_60, l_64, l_81, l_90, l_101, l_103, l_110, l_120, l_128, l_140, l_256, l_401, l_403, l_450, l_512, l_853, l_983, l_1000, l_1001, l_2048, l_3000000, l_2000000, l_4096, l_5001, l_5002, l_10000, l_10001, l_32767, l_32768, l_60000, l_2147483647, zJ_lt, zJ_le, zJ_eq, zJ_add, zJ_sub, zJ_mul, zJ_neg, zJ_dv, t_I, t_Ie, t_R, t_Re, t_N, t_Nn, t_V, t_Ve, t_b, t_x, t_w, e_0, e_1, e_2, e_3, ↓t_0, ↓t_1, t_00, t_11, if_true, if_false, ite_not, not_false_eq_true, not_true_eq_false, Int.reduceEq, Int.reduceLT, Int.reduceLE, Int.reduceNeg, Nat.reduceEqDiff, Bool.false_eq_true, e1, w_ld1 h, k1]
      exact way_248z h hd m (k + 1) (by omega) (by omega)
    · have hst : ev_ G 210 248 [.ref (wA Y 15 600), .ref (wA Y 15 601), .ref (wA Y 15 613), .int fr, .int (zJ gl), .ref a, .ref (a + 1), .ref (a + 2), .ref (a + 3), .int (zJ (best)), .int (zJ (d)), .int x11, .int (zJ i), .int (zJ v), .int (zJ 1), .int (zJ k)] [] (wd (yW Y a R N E S) n s X) = ev_ G 210 248 [.ref (wA Y 15 600), .ref (wA Y 15 601), .ref (wA Y 15 613), .int fr, .int (zJ gl), .ref a, .ref (a + 1), .ref (a + 2), .ref (a + 3), .int (zJ (best)), .int (zJ (d)), .int x11, .int (zJ i), .int (zJ v), .int (zJ 1), .int (zJ (k + 1))] [] (wd (yW Y a R N E S) n s X) := by
        rw [q_L_way_248]
        simp (disch := first | assumption | omega) only [↓reduceIte, l_0, l_1, l_2, l_3, l_4, l_5, l_6, l_7, l_8, l_9, l_10, l_12, l_16, l_24, l_31, l_32, l_48, l_96, l_99, l_100, l_150, l_180, l_200, l_240, l_255, l_260, l_384, l_400, l_999, l_5000, l_9999, l_1000000, l_1000000000, l_11, l_13, l_14, l_15, l_17, l_18, l_19, l_20, l_21, l_22, l_23, l_25, l_26, l_28, l_30, l_34, l_38, l_42, l_44, l_54, l_60, l_64, l_81, l_90, l_101, l_103, l_110, l_120, l_128, l_140, l_256, l_401, l_403, l_450, l_512, l_853, l_983, l_1000, l_1001, l_2048, l_3000000, l_2000000, l_4096, l_5001, l_5002, l_10000, l_10001, l_32767, l_32768, l_60000, l_2147483647, zJ_lt, zJ_le, zJ_eq, zJ_add, zJ_sub, zJ_mul, zJ_neg, zJ_dv, t_I, t_Ie, t_R, t_Re, t_N, t_Nn, t_V, t_Ve, t_b, t_x, t_w, e_0, e_1, e_2, e_3, ↓t_0, ↓t_1, t_00, t_11, if_true, if_false, ite_not, not_false_eq_true, not_true_eq_false, Int.reduceEq, Int.reduceLT, Int.reduceLE, Int.reduceNeg, Nat.reduceEqDiff, Bool.false_eq_true, e1, w_ld1 h, k1]
      rw [hst]
      rcases ih (k + 1) (by omega) (by omega) with ⟨x, c1, c2⟩ | ⟨c1, c2⟩
      · exact .inl ⟨x, fun g => c1 (fun j a b => g j (by omega) b), c2⟩
      · refine .inr ⟨fun j a b => ?_, c2⟩
        by_cases hj : j = k
        · rw [hj]; exact k1
        · exact c1 j (by omega) b
end ZW
