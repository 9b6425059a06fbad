/-! THE TWO SIDES, 8: the oven, the crimper, the orders' weights -/
section ZM
variable {Y : zLy} {n s : Nat} {X : zX} {G : Nat × Nat} {i j : Int}
theorem c_atI {r i : Int} (hV : wV Y 10 r) (hV2 : wV Y 15 r) (h0 : 0 ≤ r) (hk : wkd r = 0) (hi : 0 ≤ i) (hl : i < wln r) : ev_ G 54 0 [.ref (wA Y 10 r), .int (zJ i)] [] (wd Y n s X) = some (.inl (some (.int (zJ (X (500 + r) i)))), wd Y n s X) := by
  have := wln_le r
  rw [c_at hV hV2 h0 hk (by omega) (by omega), if_pos ⟨hi, hl⟩]
def zheat (X : zX) (b : Int) : zX := wu (fun f j => if f = 509 + b ∧ 0 ≤ j ∧ j < 4 then X 506 j else X f j) 40 b 1
theorem c_goThrough {b : Int} (hF : wF Y) (hb : 0 ≤ b) (hb' : b < Y.2.2.2.2 0 4) (hm : Y.2.2.2.2 0 4 ≤ 12) (hr : ∀ k, 0 ≤ k → k < 8 → -1 ≤ X 220 (8 * b + k) ∧ X 220 (8 * b + k) < 6) (hz : ∀ z, 0 ≤ z → z < 6 → 0 ≤ X 507 z ∧ X 507 z ≤ 1000 ∧ 0 ≤ X 508 z ∧ X 508 z ≤ 1000) (hh : ∀ z, 0 ≤ z → z < 4 → 0 ≤ X 506 z ∧ X 506 z ≤ 1000) (hp : 0 ≤ zpeak (zheat X b) b ∧ zpeak (zheat X b) b ≤ 1000) : ev_ G 166 0 [.ref (wA Y 2 b), .ref (wA Y 8 0), zU, zU, zU] [] (wd Y n s X) = some (.inl (some (.int (zJ (zpeak (zheat X b) b)))), wd Y n s (zgo (zheat X b) (zpeak (zheat X b) b) b 0)) := by
  have hB := wF_B hF hb hb'
  have h2 := hB.1
  have h10 := hB.2.2.2.1
  have h15 := hB.2.2.2.2.1
  have h8 := hF.2.2.2.2.2.1
  have hI := hF.1
  obtain ⟨a1, a2⟩ := hF.2.2.2.2.2.2.1 6 (by decide) (by decide)
  have hw := wln_b hb (by omega)
  have e1 : ∀ f j, f ≠ 40 → f < 509 → zheat X b f j = X f j := by
    intro f j h h'
    unfold zheat wu
    rw [if_neg (by omega)]
    exact if_neg (by omega)
  have e2 : ∀ z, 0 ≤ z → z < 4 → zheat X b (509 + b) z = X 506 z := by
    intro z h h'
    unfold zheat wu
    rw [if_neg (by omega)]
    exact if_pos ⟨rfl, h, h'⟩
  rw [q_X0_goThrough_0]
  simp only [t_0, t_1]
  simp (disch := first | assumption | omega) only [g2_4, g8_0, t_I, t_Ie, t_R, t_Re, t_N, t_Nn, t_V, t_Ve, t_b, t_x, t_w, e_0, e_1, e_2, e_3, k10, l_0, l_1, l_2, l_3, l_4, l_5, l_6, l_7, l_8, l_9, l_10, l_12, l_16, l_24, l_31, l_32, l_48, l_96, l_99, l_100, l_150, l_180, l_200, l_240, l_255, l_260, l_384, l_400, l_999, l_5000, l_9999, l_1000000, l_1000000000]
  rw [c_copy h10 h15 a1 a2 hI (by omega) (by decide) hw.2 rfl hw.1 (by omega), t_V, hw.1, show (500 : Int) + (9 + b) = 509 + b by omega, show (500 : Int) + 6 = 506 from rfl]
  simp (disch := first | assumption | omega) only [p2_0, t_I, t_Ie, t_R, t_Re, t_N, t_Nn, t_V, t_Ve, t_b, t_x, t_w, e_0, e_1, e_2, e_3, k2]
  show zthI (ev_ G 163 0 [.ref (wA Y 2 b)] [] (wd Y n s (zheat X b))) _ _ = _
  rw [c_peak hB hb (by omega) (fun k h h' => by rw [e1 _ _ (by decide) (by decide)]; exact hr k h h') (fun z h h' => by rw [e2 z h h']; exact hh z h h'), t_I, c_goR hF hB hp 8 0 zU _ (by decide) (by decide) (fun k h h' => by rw [e1 _ _ (by decide) (by decide)]; exact hr k h h') (fun z h h' => by rw [e1 _ _ (by decide) (by decide), e1 _ _ (by decide) (by decide)]; exact hz z h h')]
def zabs (a : Int) : Int := if 0 ≤ a then a else -a
def zjd (X : zX) (f : Int) : Prop := X 101 0 < 3 ∨ zabs (f - zwin X) * 10 ≤ zwin X
theorem c_judge32 {f : Int} (hF : wF Y) (r : 0 ≤ X 103 0 ∧ X 103 0 < 8) : ev_ G 118 32 [.ref (wA Y 5 0), .int (zJ f), zU] [.int (zJ 1)] (wd Y n s X) = some (.inl (some (.int (zJ 1))), wd Y n s (wu (wu (wu (wu X 100 0 (X 100 0 + 1)) 101 0 (X 101 0 + 1)) 505 (X 103 0) f) 103 0 (if 8 ≤ X 103 0 + 1 then 0 else X 103 0 + 1))) := by
  have h5 := hF.2.2.1
  have hI := hF.1
  obtain ⟨a1, a2⟩ := hF.2.2.2.2.2.2.1 5 (by decide) (by decide)
  have d1 : ∀ a b c : Int, wu (wu X 100 0 a) 101 0 b 103 c = X 103 c := fun a b c => by unfold wu; rw [if_neg (by omega), if_neg (by omega)]
  have d2 : ∀ a c : Int, wu X 100 0 a 101 c = X 101 c := fun a c => by unfold wu; rw [if_neg (by omega)]
  have d3 : ∀ a b d f c : Int, wu (wu (wu X 100 0 a) 101 0 b) 505 d f 103 c = X 103 c := fun a b d f c => by unfold wu; rw [if_neg (by omega), if_neg (by omega), if_neg (by omega)]
  rw [q_X3_judge_32]
  have e : zJ 1 &&& 1 = zJ 1 := by decide
  simp only [e, if_true]
  simp (disch := first | assumption | omega) only [g5_0, g5_1, g5_3, p5_0, p5_1, g5_2, t_I, t_Ie, t_R, t_Re, t_N, t_Nn, t_V, t_Ve, t_b, t_x, t_w, e_0, e_1, e_2, e_3, l_0, l_1, l_2, l_3, l_4, l_5, l_6, l_7, l_8, l_9, l_10, l_12, l_16, l_24, l_31, l_32, l_48, l_96, l_99, l_100, l_150, l_180, l_200, l_240, l_255, l_260, l_384, l_400, l_999, l_5000, l_9999, l_1000000, l_1000000000, zJ_add, zJ_sub, zJ_mul, zJ_neg, k10, d1, d2]
  rw [c_put a1 a2 hI (by decide) rfl (by omega) (by omega), t_V, if_pos ⟨r.1, by rw [ln_5]; omega⟩, show (500 : Int) + 5 = 505 from rfl]
  simp (disch := first | assumption | omega) only [g5_3, p5_3, t_I, t_Ie, t_R, t_Re, t_N, t_Nn, t_V, t_Ve, t_b, t_x, t_w, e_0, e_1, e_2, e_3, l_0, l_1, l_2, l_3, l_4, l_5, l_6, l_7, l_8, l_9, l_10, l_12, l_16, l_24, l_31, l_32, l_48, l_96, l_99, l_100, l_150, l_180, l_200, l_240, l_255, l_260, l_384, l_400, l_999, l_5000, l_9999, l_1000000, l_1000000000, zJ_add, zJ_sub, zJ_mul, zJ_neg, zJ_lt, zJ_le, zJ_eq, d3]
  split <;> rfl
theorem c_judge {f : Int} (hF : wF Y) (hg : 0 ≤ X 101 0 ∧ X 101 0 < 100000) (r : 0 ≤ X 103 0 ∧ X 103 0 < 8) (hf : 0 ≤ f ∧ f < 10000) (hw : 0 ≤ zwin X ∧ zwin X < 10000) (h1 : -2147483648 < zsm (X 505) 0 8) (h2 : zsm (X 505) 0 8 < 2147483648) : (zjd X f → ev_ G 118 0 [.ref (wA Y 5 0), .int (zJ f), zU] [] (wd Y n s X) = some (.inl (some (.int (zJ 1))), wd Y n s (wu (wu (wu (wu X 100 0 (X 100 0 + 1)) 101 0 (X 101 0 + 1)) 505 (X 103 0) f) 103 0 (if 8 ≤ X 103 0 + 1 then 0 else X 103 0 + 1)))) ∧ (¬zjd X f → ev_ G 118 0 [.ref (wA Y 5 0), .int (zJ f), zU] [] (wd Y n s X) = some (.inl (some (.int (zJ 0))), wd Y n s (wu X 100 0 (X 100 0 + 1)))) := by
  have h5 := hF.2.2.1
  have hI := hF.1
  rw [q_X3_judge_0]
  simp (disch := first | assumption | omega) only [g5_1, t_I, t_Ie, t_R, t_Re, t_N, t_Nn, t_V, t_Ve, t_b, t_x, t_w, e_0, e_1, e_2, e_3, l_0, l_1, l_2, l_3, l_4, l_5, l_6, l_7, l_8, l_9, l_10, l_12, l_16, l_24, l_31, l_32, l_48, l_96, l_99, l_100, l_150, l_180, l_200, l_240, l_255, l_260, l_384, l_400, l_999, l_5000, l_9999, l_1000000, l_1000000000, zJ_lt, zJ_le, zJ_eq, k5, c_window, c_abs, zJ_add, zJ_sub, zJ_mul, zJ_neg]
  have ha : (if 0 ≤ f - zwin X then f - zwin X else -(f - zwin X)) = zabs (f - zwin X) := rfl
  have hb : 0 ≤ zabs (f - zwin X) ∧ zabs (f - zwin X) < 10000 := by unfold zabs; split <;> omega
  rw [ha]
  unfold zjd
  constructor
  · intro h
    by_cases q : X 101 0 < 3
    · rw [if_pos q, c_judge32 hF r]
    · rw [if_neg q, if_neg (by omega), c_judge32 hF r]
  · intro h
    rw [if_neg (by omega), if_pos (by omega), q_X3_judge_32]
    simp (disch := first | assumption | omega) only [g5_0, p5_0, t_I, t_Ie, t_R, t_Re, t_N, t_Nn, t_V, t_Ve, t_b, t_x, t_w, e_0, e_1, e_2, e_3, l_0, l_1, l_2, l_3, l_4, l_5, l_6, l_7, l_8, l_9, l_10, l_12, l_16, l_24, l_31, l_32, l_48, l_96, l_99, l_100, l_150, l_180, l_200, l_240, l_255, l_260, l_384, l_400, l_999, l_5000, l_9999, l_1000000, l_1000000000, zJ_add, zJ_sub, zJ_mul, zJ_neg]
    rfl
/-- a wire is taken out -/
def zout (Y : zLy) (X : zX) (w : Int) : zX := zrm Y w 1 0 (Y.2.2.2.2 0 (5 + w)).toNat (wu (wu (wu X 246 w 1) 84 (Y.2.2.2.2 2 w) (zbC (X 84 (Y.2.2.2.2 2 w)) (X 241 w))) 84 (Y.2.2.2.2 3 w) (zbC (if Y.2.2.2.2 3 w = Y.2.2.2.2 2 w then zbC (X 84 (Y.2.2.2.2 2 w)) (X 241 w) else X 84 (Y.2.2.2.2 3 w)) (X 243 w)))
theorem c_takeOut {w : Int} (hF : wF Y) (hw : 0 ≤ w) (hw' : w < Y.2.2.2.2 0 2) (hm : Y.2.2.2.2 0 2 ≤ 24) (hb : ∀ t, 0 ≤ t → t < Y.2.2.2.2 0 (5 + w) → 0 ≤ Y.2.2.2.2 4 (16 * w + t) ∧ Y.2.2.2.2 4 (16 * w + t) < Y.2.2.2.2 0 0) (hc : 0 ≤ Y.2.2.2.2 2 w ∧ Y.2.2.2.2 2 w < Y.2.2.2.2 0 1) (hd : 0 ≤ Y.2.2.2.2 3 w ∧ Y.2.2.2.2 3 w < Y.2.2.2.2 0 1) : ev_ G 78 0 [.ref (wA Y 12 w), zU] [] (wd Y n s X) = some (.inl none, wd Y n s (zout Y X w)) := by
  have hI := hF.1
  obtain ⟨h12, hl⟩ := hF.2.2.2.2.2.2.2.2.2.2.1 w hw hw'
  have hcc := hF.2.2.2.2.2.2.2.2.2.1
  have v1 := hcc _ hc.1 hc.2
  have v2 := hcc _ hd.1 hd.2
  have b1 := hl.2.1
  have d1 : ∀ f j v, f ≠ 246 → wu X 246 w v f j = X f j := fun f j v h => if_neg (fun q => h q.1)
  have d2 : ∀ f j v a b, f ≠ 246 → f ≠ 84 → wu (wu X 246 w v) 84 a b f j = X f j := fun f j v a b h h' => by unfold wu; rw [if_neg (fun q => h' q.1), if_neg (fun q => h q.1)]
  rw [q_X10_takeOut_0]
  simp only [t_0, t_1]
  simp (disch := first | assumption | omega) only [l_0, l_1, l_2, l_3, l_4, l_5, l_6, l_7, l_8, l_9, l_10, l_12, l_16, l_24, l_31, l_32, l_48, l_96, l_99, l_100, l_150, l_180, l_200, l_240, l_255, l_260, l_384, l_400, l_999, l_5000, l_9999, l_1000000, l_1000000000, p12_6, t_I, t_Ie, t_R, t_Re, t_N, t_Nn, t_V, t_Ve, t_b, t_x, t_w, e_0, e_1, e_2, e_3, g12_0, g12_1, k4, c_release]
  rw [d1 241 w 1 (by decide), d1 84 _ 1 (by decide)]
  simp (disch := first | assumption | omega) only [g12_2, g12_3, t_I, t_Ie, t_R, t_Re, t_N, t_Nn, t_V, t_Ve, t_b, t_x, t_w, e_0, e_1, e_2, e_3, k4]
  rw [d2 243 w 1 _ _ (by decide) (by decide), c_release v2 hI, t_V, c_takeR hF hw hw' hm hb (Y.2.2.2.2 0 (5 + w)).toNat 0 _ (by decide) (by omega)]
  unfold zout
  have e : wu (wu X 246 w 1) 84 (Y.2.2.2.2 2 w) (zbC (X 84 (Y.2.2.2.2 2 w)) (X 241 w)) 84 (Y.2.2.2.2 3 w) = (if Y.2.2.2.2 3 w = Y.2.2.2.2 2 w then zbC (X 84 (Y.2.2.2.2 2 w)) (X 241 w) else X 84 (Y.2.2.2.2 3 w)) := by
    unfold wu
    by_cases q : Y.2.2.2.2 3 w = Y.2.2.2.2 2 w
    · rw [if_pos ⟨rfl, q⟩, if_pos q]
    · rw [if_neg (fun g => q g.2), if_neg q, if_neg (by omega)]
  rw [e]
-- weights of sets of orders
def zor (a b : Int) : Int := (zJ a ||| zJ b).toInt
theorem zor_e {a b : Int} : zJ a ||| zJ b = zJ (zor a b) := zJ_of _
def ztg (X : zX) (st : Int) : Int → Nat → Int → Int
  | _, 0, t => t
  | i, k + 1, t => ztg X st (i + 1) k (if zbt st i = true then zor t (X 501 i) else t)
def zw1 (X : zX) (nw st : Int) (no : Int) : Int := zsm (zwt X (ztg X st 0 no.toNat 0)) 0 nw.toNat * zsm (fun i => if zbt st i = true then X 502 i else 0) 0 no.toNat
theorem c_oneR {st : Int} (hF : wF Y) (hr : ∀ w, 0 ≤ w → w < Y.2.2.2.2 0 2 → 0 ≤ X 246 w ∧ X 246 w ≤ 1) (ho : 0 ≤ X 144 0 ∧ X 144 0 ≤ 5) : ∀ (k : Nat) (i t h : Int), 0 ≤ i → i + k = X 144 0 → ev_ G 99 8 [.ref (wA Y 7 0), .ref (wA Y 6 0), .int (zJ st), .int (zJ t), .int (zJ h), .int (zJ i)] [] (wd Y n s X) = some (.inl (some (.int (zJ (zsm (zwt X (ztg X st i k t)) 0 (Y.2.2.2.2 0 2).toNat * (h + zsm (fun i => if zbt st i = true then X 502 i else 0) i k))))), wd Y n s X) := by
  have h7 := hF.2.2.2.2.1
  have h6 := hF.2.2.2.1
  obtain ⟨a1, a2⟩ := hF.2.2.2.2.2.2.1 1 (by decide) (by decide)
  obtain ⟨b1, b2⟩ := hF.2.2.2.2.2.2.1 2 (by decide) (by decide)
  intro k
  induction k with
  | zero =>
    intro i t h hi he
    rw [q_X5_weightAsOne_8]
    simp (disch := first | assumption | omega) only [g7_4, t_I, t_Ie, t_R, t_Re, t_N, t_Nn, t_V, t_Ve, t_b, t_x, t_w, e_0, e_1, e_2, e_3, l_0, l_1, l_2, l_3, l_4, l_5, l_6, l_7, l_8, l_9, l_10, l_12, l_16, l_24, l_31, l_32, l_48, l_96, l_99, l_100, l_150, l_180, l_200, l_240, l_255, l_260, l_384, l_400, l_999, l_5000, l_9999, l_1000000, l_1000000000, zJ_lt, zJ_le, zJ_eq, k6]
    rw [if_pos (by omega), c_weight hF hr, t_I, zJ_mul]
    simp only [zsm, Int.add_zero, ztg]
  | succ k ih =>
    intro i t h hi he
    rw [q_X5_weightAsOne_8]
    simp (disch := first | assumption | omega) only [g7_4, g7_0, g7_1, t_I, t_Ie, t_R, t_Re, t_N, t_Nn, t_V, t_Ve, t_b, t_x, t_w, e_0, e_1, e_2, e_3, l_0, l_1, l_2, l_3, l_4, l_5, l_6, l_7, l_8, l_9, l_10, l_12, l_16, l_24, l_31, l_32, l_48, l_96, l_99, l_100, l_150, l_180, l_200, l_240, l_255, l_260, l_384, l_400, l_999, l_5000, l_9999, l_1000000, l_1000000000, zJ_lt, zJ_le, zJ_eq, k6, k10, zbt_e]
    rw [if_neg (by omega), c_atI a1 a2 (by decide) rfl hi (by rw [ln_1]; omega), t_I]
    simp (disch := first | assumption | omega) only [g7_1, t_I, t_Ie, t_R, t_Re, t_N, t_Nn, t_V, t_Ve, t_b, t_x, t_w, e_0, e_1, e_2, e_3, k10]
    rw [c_atI b1 b2 (by decide) rfl hi (by rw [ln_2]; omega), t_I]
    simp only [zJ_add, zJ_sub, zJ_mul, zJ_neg, zor_e]
    have hz : zsm (fun i => if zbt st i = true then X 502 i else 0) i (k + 1) = (if zbt st i = true then X 502 i else 0) + zsm (fun i => if zbt st i = true then X 502 i else 0) (i + 1) k := rfl
    have ht : ztg X st i (k + 1) t = ztg X st (i + 1) k (if zbt st i = true then zor t (X 501 i) else t) := rfl
    rw [hz, ht]
    cases hb : zbt st i with
    | false => rw [if_pos rfl, ih (i + 1) t h (by omega) (by omega), if_neg (by decide), if_neg (by decide), Int.zero_add]
    | true => rw [if_neg (by decide), ih (i + 1) _ _ (by omega) (by omega), if_pos rfl, if_pos rfl, Int.add_assoc]; rfl
theorem c_one {st : Int} (hF : wF Y) (hr : ∀ w, 0 ≤ w → w < Y.2.2.2.2 0 2 → 0 ≤ X 246 w ∧ X 246 w ≤ 1) (ho : 0 ≤ X 144 0 ∧ X 144 0 ≤ 5) : ev_ G 99 0 [.ref (wA Y 7 0), .ref (wA Y 6 0), .int (zJ st), zU, zU, zU] [] (wd Y n s X) = some (.inl (some (.int (zJ (zw1 X (Y.2.2.2.2 0 2) st (X 144 0))))), wd Y n s X) := by
  rw [q_X5_weightAsOne_0, l_0, c_oneR hF hr ho (X 144 0).toNat 0 0 0 (by decide) (by omega), Int.zero_add]
  rfl
end ZM
