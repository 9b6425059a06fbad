/-! THE TWO SIDES, 7: soldering, judging, pairs, taking out -/
section ZM
variable {Y : zLy} {n s : Nat} {X : zX} {G : Nat × Nat} {i j : Int}
/-- the joints of a slot with a part -/
def zjn (X : zX) (p k : Int) : zX := wu (wu (wu X 226 k (X 507 (X 220 k))) 227 k (X 508 (X 220 k))) 223 k (zjf (X 507 (X 220 k)) (X 508 (X 220 k)) p)
theorem c_join {k p : Int} (hF : wF Y) (hV : wV Y 11 k) (hr : 0 ≤ X 220 k ∧ X 220 k < 6) (h1 : ∀ z, 0 ≤ z → z < 6 → 0 ≤ X 507 z ∧ X 507 z ≤ 1000 ∧ 0 ≤ X 508 z ∧ X 508 z ≤ 1000) (hp : 0 ≤ p ∧ p ≤ 1000) : ev_ G 165 0 [.ref (wA Y 11 k), .ref (wA Y 8 0), .int (zJ p)] [] (wd Y n s X) = some (.inl none, wd Y n s (zjn X p k)) := by
  obtain ⟨hI, h13, h5, h6, h7, h8, hr_, -⟩ := hF
  obtain ⟨a1, a2⟩ := hr_ 7 (by decide) (by decide)
  obtain ⟨b1, b2⟩ := hr_ 8 (by decide) (by decide)
  have hx := h1 _ hr.1 hr.2
  have e1 : ∀ v, wu X 226 k v 220 k = X 220 k := fun v => if_neg (by omega)
  have e2 : ∀ v z, wu X 226 k v 508 z = X 508 z := fun v z => if_neg (by omega)
  rw [q_X9_join_0]
  simp (disch := first | assumption | omega) only [g8_1, g11_0, t_I, t_Ie, t_R, t_Re, t_N, t_Nn, t_V, t_Ve, t_b, t_x, t_w, e_0, e_1, e_2, e_3, k10]
  rw [c_at a1 a2 (by decide) rfl (by omega) (by omega), t_I, if_pos ⟨hr.1, by rw [ln_7]; omega⟩, show (500 : Int) + 7 = 507 from rfl]
  simp (disch := first | assumption | omega) only [g8_2, g11_0, p11_6, t_I, t_Ie, t_R, t_Re, t_N, t_Nn, t_V, t_Ve, t_b, t_x, t_w, e_0, e_1, e_2, e_3, k10, e1]
  rw [c_at b1 b2 (by decide) rfl (by omega) (by omega), t_I, if_pos ⟨hr.1, by rw [ln_8]; omega⟩, show (500 : Int) + 8 = 508 from rfl]
  simp (disch := first | assumption | omega) only [p11_7, t_I, t_Ie, t_R, t_Re, t_N, t_Nn, t_V, t_Ve, t_b, t_x, t_w, e_0, e_1, e_2, e_3, k11, e2]
  have e3 : wu (wu X 226 k (X 507 (X 220 k))) 227 k (X 508 (X 220 k)) 226 k = X 507 (X 220 k) := by unfold wu; rw [if_neg (by omega), if_pos ⟨rfl, rfl⟩]
  have e4 : wu (wu X 226 k (X 507 (X 220 k))) 227 k (X 508 (X 220 k)) 227 k = X 508 (X 220 k) := by unfold wu; rw [if_pos ⟨rfl, rfl⟩]
  rw [c_jointFor hV (by rw [e3]; omega) (by rw [e4]; omega) (by omega), t_I, e3, e4]
  simp (disch := first | assumption | omega) only [p11_3, t_I, t_Ie, t_R, t_Re, t_N, t_Nn, t_V, t_Ve, t_b, t_x, t_w, e_0, e_1, e_2, e_3]
  rfl
/-- the joints of a board's slots from the slot i on -/
def zgo (X : zX) (p b i : Int) : zX := fun f j => if 8 * b + i ≤ j ∧ j < 8 * b + 8 ∧ X 220 j ≠ -1 then zjn X p j f j else X f j
theorem c_goR {b p : Int} (hF : wF Y) (hB : wB Y b) (hp : 0 ≤ p ∧ p ≤ 1000) : ∀ (k : Nat) (i : Int) (u : Value) (X : zX), 0 ≤ i → i + k = 8 → (∀ k, 0 ≤ k → k < 8 → -1 ≤ X 220 (8 * b + k) ∧ X 220 (8 * b + k) < 6) → (∀ z, 0 ≤ z → z < 6 → 0 ≤ X 507 z ∧ X 507 z ≤ 1000 ∧ 0 ≤ X 508 z ∧ X 508 z ≤ 1000) → ev_ G 166 23 [.ref (wA Y 2 b), .ref (wA Y 8 0), .int (zJ p), .int (zJ i), u] [] (wd Y n s X) = some (.inl (some (.int (zJ p))), wd Y n s (zgo X p b i)) := by
  obtain ⟨h2, hl, hq, h10, h15, hs⟩ := hB
  have h1 := hl.1
  intro k
  induction k with
  | zero =>
    intro i u X hi he hr hz
    rw [q_X0_goThrough_23]
    simp (disch := first | assumption | omega) only [g2_3, t_I, t_Ie, t_R, t_Re, t_N, t_Nn, t_V, t_Ve, t_b, t_x, t_w, e_0, e_1, e_2, e_3, k1, c_size, l_0, l_1, l_2, l_3, l_4, l_5, l_6, l_7, l_8, l_9, l_10, l_12, l_16, l_24, l_31, l_32, l_48, l_96, l_99, l_100, l_150, l_180, l_200, l_240, l_255, l_260, l_384, l_400, l_999, l_5000, l_9999, l_1000000, l_1000000000, hq, zJ_lt, zJ_le, zJ_eq]
    rw [if_pos (by omega)]
    congr 3
    funext f j
    unfold zgo
    rw [if_neg (by omega)]
  | succ k ih =>
    intro i u X hi he hr hz
    obtain ⟨hv, hel⟩ := hs i hi (by omega)
    have hx := hr i hi (by omega)
    rw [q_X0_goThrough_23]
    simp (disch := first | assumption | omega) only [g2_3, t_I, t_Ie, t_R, t_Re, t_N, t_Nn, t_V, t_Ve, t_b, t_x, t_w, e_0, e_1, e_2, e_3, k1, c_size, l_0, l_1, l_2, l_3, l_4, l_5, l_6, l_7, l_8, l_9, l_10, l_12, l_16, l_24, l_31, l_32, l_48, l_96, l_99, l_100, l_150, l_180, l_200, l_240, l_255, l_260, l_384, l_400, l_999, l_5000, l_9999, l_1000000, l_1000000000, hq, zJ_lt, zJ_le, zJ_eq]
    rw [if_neg (by omega), c_get hl hi (by omega), t_R, hel, k11 hv, k11 hv, c_hasPart hv hx, t_I]
    simp only [zJ_add, zJ_sub, zJ_mul, zJ_neg]
    by_cases q : X 220 (8 * b + i) ≠ -1
    · rw [zB_1 q, e_3, k11 hv, c_join hF hv (by omega) hz hp, t_V]
      have e5 : ∀ f j, (f = 220 ∨ f = 507 ∨ f = 508) → zjn X p (8 * b + i) f j = X f j := by
        intro f j hf
        unfold zjn wu
        rw [if_neg (by omega), if_neg (by omega), if_neg (by omega)]
      rw [ih (i + 1) _ _ (by omega) (by omega) (fun k h h' => by rw [e5 _ _ (by omega)]; exact hr k h h') (fun z h h' => by rw [e5 _ _ (by omega), e5 _ _ (by omega)]; exact hz z h h')]
      congr 3
      funext f j
      unfold zgo
      by_cases e : j = 8 * b + i
      · subst e
        rw [if_neg (by omega), if_pos ⟨by omega, by omega, q⟩]
      · have e6 : ∀ f, zjn X p (8 * b + i) f j = X f j := by
          intro f
          unfold zjn wu
          rw [if_neg (by omega), if_neg (by omega), if_neg (by omega)]
        rw [e6, e6]
        by_cases w : 8 * b + i ≤ j ∧ j < 8 * b + 8 ∧ X 220 j ≠ -1
        · rw [if_pos w, if_pos ⟨by omega, w.2⟩]
          have a1 : ∀ x, zjn X p (8 * b + i) 220 x = X 220 x := fun x => e5 _ _ (Or.inl rfl)
          have a2 : ∀ x, zjn X p (8 * b + i) 507 x = X 507 x := fun x => e5 _ _ (Or.inr (Or.inl rfl))
          have a3 : ∀ x, zjn X p (8 * b + i) 508 x = X 508 x := fun x => e5 _ _ (Or.inr (Or.inr rfl))
          have a4 := e6 f
          generalize zjn X p (8 * b + i) = X1 at a1 a2 a3 a4 ⊢
          unfold zjn
          rw [a1, a2, a3]
          unfold wu
          rw [a4]
        · rw [if_neg w, if_neg (fun g => w ⟨by omega, g.2⟩)]
    · rw [zB_0 q, e_2, ih (i + 1) _ X (by omega) (by omega) hr hz]
      congr 3
      funext f j
      unfold zgo
      by_cases e : j = 8 * b + i
      · subst e
        rw [if_neg (by omega), if_neg (fun g => q g.2.2)]
      · have : (8 * b + (i + 1) ≤ j) = (8 * b + i ≤ j) := propext (by omega)
        simp only [this]
-- pairs that fit wrong
def zpr1 (X : zX) (a h : Int) : Int := zB ((X 81 a = X 81 h ∧ X 82 a = X 82 h) ∧ X 83 a ≠ h)
theorem c_pairs2 {a : Int} (hF : wF Y) (ha : 0 ≤ a) (ha' : a < Y.2.2.2.2 0 1) (hm : Y.2.2.2.2 0 1 ≤ 100) (hr : ∀ c, 0 ≤ c → c < Y.2.2.2.2 0 1 → 0 ≤ X 81 c ∧ X 81 c < 100 ∧ 0 ≤ X 82 c ∧ X 82 c < 100 ∧ -1 ≤ X 83 c ∧ X 83 c < 100) : ∀ (k : Nat) (i t : Int), 0 ≤ i → i + k = Y.2.2.2.2 0 1 → ev_ G 47 32 [.ref (wA Y 6 0), .int (zJ t), .int (zJ a), .ref (wA Y 4 a), .int (zJ i)] [] (wd Y n s X) = ev_ G 47 4 [.ref (wA Y 6 0), .int (zJ (t + zsm (zpr1 X a) i k)), .int (zJ (a + 1)), .ref (wA Y 4 a), .int (zJ (i + k))] [] (wd Y n s X) := by
  obtain ⟨hI, h13, h5, h6, h7, h8, hr_, hl, hb_, hc, -⟩ := hF
  have hl1 := hl 1 (by decide) (by decide)
  have h1 := hl1.1
  have hva := hc a ha ha'
  have hxa := hr a ha ha'
  intro k
  induction k with
  | zero =>
    intro i t hi he
    rw [q_X4_pairsThatFitWrong_32]
    simp (disch := first | assumption | omega) only [g6_1, t_I, t_Ie, t_R, t_Re, t_N, t_Nn, t_V, t_Ve, t_b, t_x, t_w, e_0, e_1, e_2, e_3, k1, c_size, l_0, l_1, l_2, l_3, l_4, l_5, l_6, l_7, l_8, l_9, l_10, l_12, l_16, l_24, l_31, l_32, l_48, l_96, l_99, l_100, l_150, l_180, l_200, l_240, l_255, l_260, l_384, l_400, l_999, l_5000, l_9999, l_1000000, l_1000000000, zJ_lt, zJ_le, zJ_eq, zJ_add, zJ_sub, zJ_mul, zJ_neg]
    rw [if_pos (by omega)]
    simp only [zsm, Int.add_zero, Int.natCast_zero]
  | succ k ih =>
    intro i t hi he
    have hv := hc i hi (by omega)
    have hx := hr i hi (by omega)
    have hel : wel Y 1 i = wA Y 4 i := rfl
    have hz : zsm (zpr1 X a) i (k + 1) = zB ((X 81 a = X 81 i ∧ X 82 a = X 82 i) ∧ X 83 a ≠ i) + zsm (zpr1 X a) (i + 1) k := rfl
    rw [q_X4_pairsThatFitWrong_32]
    simp (disch := first | assumption | omega) only [g6_1, t_I, t_Ie, t_R, t_Re, t_N, t_Nn, t_V, t_Ve, t_b, t_x, t_w, e_0, e_1, e_2, e_3, k1, c_size, l_0, l_1, l_2, l_3, l_4, l_5, l_6, l_7, l_8, l_9, l_10, l_12, l_16, l_24, l_31, l_32, l_48, l_96, l_99, l_100, l_150, l_180, l_200, l_240, l_255, l_260, l_384, l_400, l_999, l_5000, l_9999, l_1000000, l_1000000000, zJ_lt, zJ_le, zJ_eq, zJ_add, zJ_sub, zJ_mul, zJ_neg]
    rw [if_neg (by omega), c_get hl1 hi (by omega), t_R, hel, k4 hv, k4 hva, c_fits hva hv (by rintro b (rfl | rfl | rfl | rfl) <;> omega), t_I, hz]
    simp (disch := first | assumption | omega) only [g4_3, t_I, t_Ie, t_R, t_Re, t_N, t_Nn, t_V, t_Ve, t_b, t_x, t_w, e_0, e_1, e_2, e_3, zJ_lt, zJ_le, zJ_eq, zJ_add, zJ_sub, zJ_mul, zJ_neg]
    have hk : i + ((k + 1 : Nat) : Int) = i + 1 + k := by omega
    rw [hk]
    by_cases q : X 81 a = X 81 i ∧ X 82 a = X 82 i
    · rw [zB_1 q, e_3]
      by_cases q' : X 83 a = i
      · rw [if_pos q', ih (i + 1) t (by omega) (by omega), zB_0 (fun w => w.2 q'), Int.zero_add]
      · rw [if_neg q', ih (i + 1) _ (by omega) (by omega), zB_1 ⟨q, q'⟩, Int.add_assoc]
    · rw [zB_0 q, e_2, ih (i + 1) t (by omega) (by omega), zB_0 (fun w => q w.1), Int.zero_add]
def zprs (X : zX) (c : Int) (a : Int) : Int := zsm (zpr1 X a) (a + 1) (c - (a + 1)).toNat
theorem c_pairs1 (hF : wF Y) (hm : Y.2.2.2.2 0 1 ≤ 100) (hr : ∀ c, 0 ≤ c → c < Y.2.2.2.2 0 1 → 0 ≤ X 81 c ∧ X 81 c < 100 ∧ 0 ≤ X 82 c ∧ X 82 c < 100 ∧ -1 ≤ X 83 c ∧ X 83 c < 100) : ∀ (k : Nat) (i t : Int) (u v : Value), 0 ≤ i → i + k = Y.2.2.2.2 0 1 → ev_ G 47 4 [.ref (wA Y 6 0), .int (zJ t), .int (zJ i), u, v] [] (wd Y n s X) = some (.inl (some (.int (zJ (t + zsm (zprs X (Y.2.2.2.2 0 1)) i k)))), wd Y n s X) := by
  have h6 := hF.2.2.2.1
  have hl1 := hF.2.2.2.2.2.2.2.1 1 (by decide) (by decide)
  have h1 := hl1.1
  have hc := hF.2.2.2.2.2.2.2.2.2.1
  intro k
  induction k with
  | zero =>
    intro i t u v hi he
    rw [q_X4_pairsThatFitWrong_4]
    simp (disch := first | assumption | omega) only [g6_1, t_I, t_Ie, t_R, t_Re, t_N, t_Nn, t_V, t_Ve, t_b, t_x, t_w, e_0, e_1, e_2, e_3, k1, c_size, l_0, l_1, l_2, l_3, l_4, l_5, l_6, l_7, l_8, l_9, l_10, l_12, l_16, l_24, l_31, l_32, l_48, l_96, l_99, l_100, l_150, l_180, l_200, l_240, l_255, l_260, l_384, l_400, l_999, l_5000, l_9999, l_1000000, l_1000000000, zJ_lt, zJ_le, zJ_eq, zJ_add, zJ_sub, zJ_mul, zJ_neg]
    rw [if_pos (by omega)]
    simp only [zsm, Int.add_zero]
  | succ k ih =>
    intro i t u v hi he
    have hv := hc i hi (by omega)
    have hel : wel Y 1 i = wA Y 4 i := rfl
    have hz : zsm (zprs X (Y.2.2.2.2 0 1)) i (k + 1) = zprs X (Y.2.2.2.2 0 1) i + zsm (zprs X (Y.2.2.2.2 0 1)) (i + 1) k := rfl
    rw [q_X4_pairsThatFitWrong_4]
    simp (disch := first | assumption | omega) only [g6_1, t_I, t_Ie, t_R, t_Re, t_N, t_Nn, t_V, t_Ve, t_b, t_x, t_w, e_0, e_1, e_2, e_3, k1, c_size, l_0, l_1, l_2, l_3, l_4, l_5, l_6, l_7, l_8, l_9, l_10, l_12, l_16, l_24, l_31, l_32, l_48, l_96, l_99, l_100, l_150, l_180, l_200, l_240, l_255, l_260, l_384, l_400, l_999, l_5000, l_9999, l_1000000, l_1000000000, zJ_lt, zJ_le, zJ_eq, zJ_add, zJ_sub, zJ_mul, zJ_neg]
    rw [if_neg (by omega), c_get hl1 hi (by omega), t_R, hel, k4 hv, c_pairs2 hF hi (by omega) hm hr (Y.2.2.2.2 0 1 - (i + 1)).toNat (i + 1) t (by omega) (by omega), ih (i + 1) _ _ _ (by omega) (by omega), hz, Int.add_assoc]
    rfl
theorem c_pairs (hF : wF Y) (hm : Y.2.2.2.2 0 1 ≤ 100) (hr : ∀ c, 0 ≤ c → c < Y.2.2.2.2 0 1 → 0 ≤ X 81 c ∧ X 81 c < 100 ∧ 0 ≤ X 82 c ∧ X 82 c < 100 ∧ -1 ≤ X 83 c ∧ X 83 c < 100) : ev_ G 47 0 [.ref (wA Y 6 0), zU, zU, zU, zU] [] (wd Y n s X) = some (.inl (some (.int (zJ (zsm (zprs X (Y.2.2.2.2 0 1)) 0 (Y.2.2.2.2 0 1).toNat)))), wd Y n s X) := by
  have := (hF.2.2.2.2.2.2.2.1 1 (by decide) (by decide)).2.1
  rw [q_X4_pairsThatFitWrong_0, l_0, c_pairs1 hF hm hr (Y.2.2.2.2 0 1).toNat 0 0 _ _ (by omega) (by omega), Int.zero_add]
-- rooms along a way
def zrm (Y : zLy) (w d : Int) : Int → Nat → zX → zX
  | _, 0, X => X
  | i, k + 1, X => zrm Y w d (i + 1) k (wu X 64 (Y.2.2.2.2 4 (16 * w + i)) (X 64 (Y.2.2.2.2 4 (16 * w + i)) + d))
theorem c_takeR {w : Int} (hF : wF Y) (hw : 0 ≤ w) (hw' : w < Y.2.2.2.2 0 2) (hm : Y.2.2.2.2 0 2 ≤ 24) (hb : ∀ t, 0 ≤ t → t < Y.2.2.2.2 0 (5 + w) → 0 ≤ Y.2.2.2.2 4 (16 * w + t) ∧ Y.2.2.2.2 4 (16 * w + t) < Y.2.2.2.2 0 0) : ∀ (k : Nat) (i : Int) (X : zX), 0 ≤ i → i + k = Y.2.2.2.2 0 (5 + w) → ev_ G 78 29 [.ref (wA Y 12 w), .int (zJ i)] [] (wd Y n s X) = some (.inl none, wd Y n s (zrm Y w 1 i k X)) := by
  obtain ⟨hI, h13, h5, h6, h7, h8, hr_, hl_, hb_, hc, hw_, -⟩ := hF
  obtain ⟨h12, hl⟩ := hw_ w hw hw'
  have h1 := hl.1
  obtain ⟨-, b1, b2, b3, -⟩ := id hl
  intro k
  induction k with
  | zero =>
    intro i X hi he
    rw [q_X10_takeOut_29]
    simp (disch := first | assumption | omega) only [g12_7, t_I, t_Ie, t_R, t_Re, t_N, t_Nn, t_V, t_Ve, t_b, t_x, t_w, e_0, e_1, e_2, e_3, k1, c_size, l_0, l_1, l_2, l_3, l_4, l_5, l_6, l_7, l_8, l_9, l_10, l_12, l_16, l_24, l_31, l_32, l_48, l_96, l_99, l_100, l_150, l_180, l_200, l_240, l_255, l_260, l_384, l_400, l_999, l_5000, l_9999, l_1000000, l_1000000000, zJ_lt, zJ_le, zJ_eq]
    rw [if_pos (by omega)]
    rfl
  | succ k ih =>
    intro i X hi he
    have hbi := hb i hi (by omega)
    have hv := hb_ _ hbi.1 hbi.2
    have hel : wel Y (5 + w) i = wA Y 3 (Y.2.2.2.2 4 (16 * w + i)) := by
      unfold wel
      rw [if_neg (by omega), if_neg (by omega), if_neg (by omega), if_neg (by omega), if_neg (by omega), if_pos (by omega)]
      rw [show 5 + w - 5 = w by omega]
    rw [q_X10_takeOut_29]
    simp (disch := first | assumption | omega) only [g12_7, t_I, t_Ie, t_R, t_Re, t_N, t_Nn, t_V, t_Ve, t_b, t_x, t_w, e_0, e_1, e_2, e_3, k1, c_size, l_0, l_1, l_2, l_3, l_4, l_5, l_6, l_7, l_8, l_9, l_10, l_12, l_16, l_24, l_31, l_32, l_48, l_96, l_99, l_100, l_150, l_180, l_200, l_240, l_255, l_260, l_384, l_400, l_999, l_5000, l_9999, l_1000000, l_1000000000, zJ_lt, zJ_le, zJ_eq]
    rw [if_neg (by omega), c_get hl hi (by omega), t_R, hel, k3 hv]
    simp (disch := first | assumption | omega) only [g3_4, p3_4, t_I, t_Ie, t_R, t_Re, t_N, t_Nn, t_V, t_Ve, t_b, t_x, t_w, e_0, e_1, e_2, e_3, zJ_add, zJ_sub, zJ_mul, zJ_neg]
    rw [ih (i + 1) _ (by omega) (by omega)]
    rfl
end ZM
