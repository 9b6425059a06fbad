/-! THE TWO SIDES, 9: the least weights -/
def zan (a b : Int) : Int := (zJ a &&& (zJ b ^^^ zJ (-1))).toInt
def zad (a b : Int) : Int := (zJ a &&& zJ b).toInt
theorem zan_e {a b : Int} : zJ a &&& (zJ b ^^^ zJ (-1)) = zJ (zan a b) := zJ_of _
theorem zad_e {a b : Int} : zJ a &&& zJ b = zJ (zad a b) := zJ_of _
theorem zti (x : Int32) : -2147483648 ≤ x.toInt ∧ x.toInt < 2147483648 := ⟨Int32.le_toInt x, Int32.toInt_lt x⟩
theorem zan_r (a b : Int) : -2147483648 ≤ zan a b ∧ zan a b < 2147483648 := zti _
theorem zad_r (a b : Int) : -2147483648 ≤ zad a b ∧ zad a b < 2147483648 := zti _
theorem zJ_fin {a : Int} (h : 0 ≤ a) (m : Nat) (h' : a < m) : ∃ k : Fin m, a = ((k.val : Nat) : Int) := ⟨⟨a.toNat, by omega⟩, by show a = ((a.toNat : Nat) : Int); omega⟩
theorem zan_k : ∀ a b : Fin 32, 0 ≤ zan (a.val : Int) (b.val : Int) ∧ zan (a.val : Int) (b.val : Int) ≤ (a.val : Int) := by decide +kernel
theorem zan_s {a b : Int} (ha : 0 ≤ a) (ha' : a < 32) (hb : 0 ≤ b) (hb' : b < 32) : 0 ≤ zan a b ∧ zan a b ≤ a := by
  obtain ⟨x, rfl⟩ := zJ_fin ha 32 ha'
  obtain ⟨y, rfl⟩ := zJ_fin hb 32 hb'
  exact zan_k x y
theorem zlow_k : ∀ a : Fin 32, 0 < a.val → 1 ≤ zad (a.val : Int) (-(a.val : Int)) ∧ zad (a.val : Int) (-(a.val : Int)) ≤ (a.val : Int) := by decide +kernel
theorem zlow_s {a : Int} (ha : 0 < a) (ha' : a < 32) : 1 ≤ zad a (-a) ∧ zad a (-a) ≤ a := by
  obtain ⟨x, rfl⟩ := zJ_fin (Int.le_of_lt ha) 32 ha'
  exact zlow_k x (by omega)
def zall (c : Int) : Int := (2 : Int) ^ c.toNat - 1
theorem zall_e {c : Int} (h : 0 ≤ c) (h' : c ≤ 5) : zJ 1 <<< (zJ c &&& zJ 31) - zJ 1 = zJ (zall c) := by
  have : c = 0 ∨ c = 1 ∨ c = 2 ∨ c = 3 ∨ c = 4 ∨ c = 5 := by omega
  rcases this with rfl | rfl | rfl | rfl | rfl | rfl <;> decide
theorem zall_r {c : Int} (h : 0 ≤ c) (h' : c ≤ 5) : 0 ≤ zall c ∧ zall c ≤ 31 := by
  have : c = 0 ∨ c = 1 ∨ c = 2 ∨ c = 3 ∨ c = 4 ∨ c = 5 := by omega
  rcases this with rfl | rfl | rfl | rfl | rfl | rfl <;> decide
theorem zwt_c {X X' : zX} (h1 : X' 246 = X 246) (h2 : X' 244 = X 244) (h3 : X' 245 = X 245) (o : Int) : zwt X' o = zwt X o := by
  funext w
  unfold zwt
  rw [h1, h2, h3]
theorem ztg_c {X X' : zX} (h : X' 501 = X 501) (st : Int) : ∀ (k : Nat) (i t : Int), ztg X' st i k t = ztg X st i k t := by
  intro k
  induction k with
  | zero => intro i t; rfl
  | succ k ih =>
    intro i t
    show ztg X' st (i + 1) k _ = ztg X st (i + 1) k _
    rw [ih, h]
theorem zw1_c {X X' : zX} (h1 : X' 246 = X 246) (h2 : X' 244 = X 244) (h3 : X' 245 = X 245) (h4 : X' 501 = X 501) (h5 : X' 502 = X 502) (nw st no : Int) : zw1 X' nw st no = zw1 X nw st no := by
  unfold zw1
  rw [ztg_c h4, zwt_c h1 h2 h3, h5]
def zll (sub w : Int → Int) (rest low : Int) : Nat → Int → Int → Int
  | 0, _, t => t
  | k + 1, i, t => zll sub w rest low k (i + 1) (if zan i rest = 0 ∧ ¬zad i low = 0 then min t (w i + sub (zan rest i)) else t)
def zlr (w : Int → Int) : Nat → Int → Int → Int
  | 0, _, _ => 0
  | d + 1, rest, fam => if rest = 0 then 0 else if fam < 1 then 1000000000 else zll (fun r => zlr w d r (fam - 1)) w rest (zad rest (-rest)) (rest + 1 - zad rest (-rest)).toNat (zad rest (-rest)) 1000000000
theorem zll_r {sub w : Int → Int} {rest low : Int} (hs : ∀ r, 0 ≤ sub r) (hw : ∀ r, 0 ≤ w r) : ∀ (k : Nat) (i t : Int), 0 ≤ t → 0 ≤ zll sub w rest low k i t ∧ zll sub w rest low k i t ≤ t := by
  intro k
  induction k with
  | zero => intro i t h; exact ⟨h, Int.le_refl _⟩
  | succ k ih =>
    intro i t h
    have h1 := hs (zan rest i)
    have h2 := hw i
    have h3 : 0 ≤ (if zan i rest = 0 ∧ ¬zad i low = 0 then min t (w i + sub (zan rest i)) else t) ∧ (if zan i rest = 0 ∧ ¬zad i low = 0 then min t (w i + sub (zan rest i)) else t) ≤ t := by
      split <;> omega
    have h4 := ih (i + 1) _ h3.1
    show 0 ≤ zll sub w rest low k (i + 1) _ ∧ zll sub w rest low k (i + 1) _ ≤ t
    exact ⟨h4.1, Int.le_trans h4.2 h3.2⟩
theorem zlr_r {w : Int → Int} (hw : ∀ r, 0 ≤ w r) : ∀ (d : Nat) (rest fam : Int), 0 ≤ zlr w d rest fam ∧ zlr w d rest fam ≤ 1000000000 := by
  intro d
  induction d with
  | zero => intro rest fam; exact ⟨Int.le_refl _, by show (0 : Int) ≤ 1000000000; decide⟩
  | succ d ih =>
    intro rest fam
    unfold zlr
    split
    · omega
    · split
      · omega
      · exact zll_r (fun r => (ih r _).1) hw _ _ _ (by decide)
section ZM
variable {Y : zLy} {n s : Nat} {X : zX} {G : Nat × Nat} {i j : Int}
theorem c_all (hF : wF Y) (ho : 0 ≤ X 144 0 ∧ X 144 0 ≤ 5) : ev_ G 98 0 [.ref (wA Y 7 0)] [] (wd Y n s X) = some (.inl (some (.int (zJ (zall (X 144 0))))), wd Y n s X) := by
  have h7 := hF.2.2.2.2.1
  rw [q_X5_allOrders_0]
  simp (disch := first | assumption | omega) only [g7_4, t_I, t_Ie, t_R, t_Re, t_N, t_Nn, t_V, t_Ve, t_b, t_x, t_w, e_0, e_1, e_2, e_3, l_0, l_1, l_2, l_3, l_4, l_5, l_6, l_7, l_8, l_9, l_10, l_12, l_16, l_24, l_31, l_32, l_48, l_96, l_99, l_100, l_150, l_180, l_200, l_240, l_255, l_260, l_384, l_400, l_999, l_5000, l_9999, l_1000000, l_1000000000]
  rw [zall_e ho.1 ho.2]
def zws (X : zX) (nw i : Int) : zX := fun f j => if f = 503 ∧ i ≤ j ∧ j ≤ zall (X 144 0) then zw1 X nw j (X 144 0) else X f j
theorem c_setsR (hF : wF Y) : ∀ (k : Nat) (i : Int) (X : zX), (∀ w, 0 ≤ w → w < Y.2.2.2.2 0 2 → 0 ≤ X 246 w ∧ X 246 w ≤ 1) → 0 ≤ X 144 0 ∧ X 144 0 ≤ 5 → 0 ≤ i → i + k = zall (X 144 0) + 1 → ev_ G 100 7 [.ref (wA Y 7 0), .ref (wA Y 6 0), .int (zJ (zall (X 144 0))), .int (zJ i)] [] (wd Y n s X) = some (.inl none, wd Y n s (zws X (Y.2.2.2.2 0 2) i)) := by
  have h7 := hF.2.2.2.2.1
  have hI := hF.1
  obtain ⟨a1, a2⟩ := hF.2.2.2.2.2.2.1 3 (by decide) (by decide)
  intro k
  induction k with
  | zero =>
    intro i X hr ho hi he
    have hz := zall_r ho.1 ho.2
    rw [q_X5_weighSets_7]
    simp (disch := first | assumption | omega) only [zJ_lt, zJ_le, zJ_eq]
    rw [if_pos (by omega)]
    congr 3
    funext f j
    unfold zws
    rw [if_neg (by omega)]
  | succ k ih =>
    intro i X hr ho hi he
    have hz := zall_r ho.1 ho.2
    rw [q_X5_weighSets_7]
    simp (disch := first | assumption | omega) only [zJ_lt, zJ_le, zJ_eq, g7_2, t_I, t_Ie, t_R, t_Re, t_N, t_Nn, t_V, t_Ve, t_b, t_x, t_w, e_0, e_1, e_2, e_3, k7, k10]
    rw [if_neg (by omega), c_one hF hr ho, t_I, k10 a1, c_put a1 a2 hI (by decide) rfl (by omega) (by omega), t_V, if_pos ⟨hi, by rw [ln_3]; omega⟩, show (500 : Int) + 3 = 503 from rfl]
    simp only [l_0, l_1, l_2, l_3, l_4, l_5, l_6, l_7, l_8, l_9, l_10, l_12, l_16, l_24, l_31, l_32, l_48, l_96, l_99, l_100, l_150, l_180, l_200, l_240, l_255, l_260, l_384, l_400, l_999, l_5000, l_9999, l_1000000, l_1000000000, zJ_add, zJ_sub, zJ_mul, zJ_neg]
    have e : ∀ f j v, f ≠ 503 → wu X 503 i v f j = X f j := fun f j v h => if_neg (fun q => h q.1)
    have e' : ∀ f v, f ≠ 503 → wu X 503 i v f = X f := fun f v h => funext fun j => e f j v h
    generalize hv : zw1 X (Y.2.2.2.2 0 2) i (X 144 0) = v
    have hh := ih (i + 1) (wu X 503 i v) (fun w h h' => by rw [e _ _ _ (by decide)]; exact hr w h h') (by rw [e _ _ _ (by decide)]; exact ho) (by omega) (by rw [e _ _ _ (by decide)]; omega)
    rw [e _ _ _ (by decide)] at hh
    rw [hh]
    congr 3
    funext f j
    unfold zws
    rw [e 144 _ _ (by decide), zw1_c (e' _ _ (by decide)) (e' _ _ (by decide)) (e' _ _ (by decide)) (e' _ _ (by decide)) (e' _ _ (by decide))]
    by_cases w1 : f = 503 ∧ i + 1 ≤ j ∧ j ≤ zall (X 144 0)
    · rw [if_pos w1, if_pos ⟨w1.1, by omega, w1.2.2⟩]
    · rw [if_neg w1]
      by_cases w2 : f = 503 ∧ j = i
      · rw [if_pos ⟨w2.1, by omega, by omega⟩, w2.2, w2.1]
        unfold wu
        rw [if_pos ⟨rfl, rfl⟩, hv]
      · rw [if_neg (by omega)]
        unfold wu
        rw [if_neg w2]
theorem c_sets (hF : wF Y) (hr : ∀ w, 0 ≤ w → w < Y.2.2.2.2 0 2 → 0 ≤ X 246 w ∧ X 246 w ≤ 1) (ho : 0 ≤ X 144 0 ∧ X 144 0 ≤ 5) : ev_ G 100 0 [.ref (wA Y 7 0), .ref (wA Y 6 0), zU, zU] [] (wd Y n s X) = some (.inl none, wd Y n s (zws X (Y.2.2.2.2 0 2) 0)) := by
  have h7 := hF.2.2.2.2.1
  have hz := zall_r ho.1 ho.2
  rw [q_X5_weighSets_0, k7 h7, c_all hF ho, t_I, l_0, c_setsR hF (zall (X 144 0) + 1).toNat 0 X hr ho (by decide) (by omega)]
theorem c_lorR {rest low fam : Int} {d : Nat} (hF : wF Y) (hr : 0 < rest ∧ rest < 32) (hl : 1 ≤ low ∧ low ≤ rest) (hw : ∀ r, 0 ≤ X 503 r ∧ X 503 r ≤ 100000000) (sub : Int → Int) (hsub : ∀ r, 0 ≤ sub r ∧ sub r ≤ 1000000000) (hs : ∀ r, 0 ≤ r → r < 32 → ev_ G ((d + 1000) - 1) 0 [.ref (wA Y 10 3), .int (zJ r), .int (zJ (fam - 1)), zU, zU, zU, zU] [] (wd Y n s X) = some (.inl (some (.int (zJ (sub r)))), wd Y n s X)) : ∀ (k : Nat) (i t : Int) (u : Value), low ≤ i → i + k = rest + 1 → 0 ≤ t → t ≤ 1000000000 → ev_ G (d + 1000) 26 [.ref (wA Y 10 3), .int (zJ rest), .int (zJ fam), .int (zJ low), .int (zJ t), .int (zJ i), u] [] (wd Y n s X) = some (.inl (some (.int (zJ (zll sub (X 503) rest low k i t)))), wd Y n s X) := by
  obtain ⟨a1, a2⟩ := hF.2.2.2.2.2.2.1 3 (by decide) (by decide)
  intro k
  induction k with
  | zero =>
    intro i t u hi he ht ht'
    rw [q_X5_leastOfRest_26]
    simp (disch := first | assumption | omega) only [zJ_lt, zJ_le, zJ_eq]
    rw [if_pos (by omega)]
    rfl
  | succ k ih =>
    intro i t u hi he ht ht'
    have b1 := zan_r i rest
    have b2 := zad_r i low
    have b3 := zan_s (a := rest) (b := i) (by omega) (by omega) (by omega) (by omega)
    have b4 := hw i
    have b5 := hsub (zan rest i)
    rw [q_X5_leastOfRest_26]
    simp (disch := first | assumption | omega) only [zJ_lt, zJ_le, zJ_eq, l_0, l_1, l_2, l_3, l_4, l_5, l_6, l_7, l_8, l_9, l_10, l_12, l_16, l_24, l_31, l_32, l_48, l_96, l_99, l_100, l_150, l_180, l_200, l_240, l_255, l_260, l_384, l_400, l_999, l_5000, l_9999, l_1000000, l_1000000000, zJ_neg, zan_e, zad_e, zJ_add, zJ_sub, zJ_mul, zJ_neg]
    rw [if_neg (by omega)]
    have hz : zll sub (X 503) rest low (k + 1) i t = zll sub (X 503) rest low k (i + 1) (if zan i rest = 0 ∧ ¬zad i low = 0 then min t (X 503 i + sub (zan rest i)) else t) := rfl
    rw [hz]
    by_cases q : zan i rest = 0
    · rw [if_pos q]
      by_cases q' : zad i low = 0
      · rw [if_pos q', ih (i + 1) t _ (by omega) (by omega) ht ht', if_neg (fun w => w.2 q')]
      · rw [if_neg q', hs _ b3.1 (by omega), t_I, k10 a1, c_atI a1 a2 (by decide) rfl (by omega) (by rw [ln_3]; omega), t_I, show (500 : Int) + 3 = 503 from rfl, zJ_add, c_min (by omega) (by omega) (by omega) (by omega), t_I, ih (i + 1) _ _ (by omega) (by omega) (by omega) (by omega), if_pos ⟨q, q'⟩]
    · rw [if_neg q, ih (i + 1) t _ (by omega) (by omega) ht ht', if_neg (fun w => q w.1)]
theorem c_lor (hF : wF Y) (hw : ∀ r, 0 ≤ X 503 r ∧ X 503 r ≤ 100000000) : ∀ (d : Nat) (rest fam : Int), 0 ≤ rest → rest < 32 → 0 ≤ fam → fam ≤ d → d ≤ 100 → ev_ G (d + 1000) 0 [.ref (wA Y 10 3), .int (zJ rest), .int (zJ fam), zU, zU, zU, zU] [] (wd Y n s X) = some (.inl (some (.int (zJ (zlr (X 503) (d + 1) rest fam)))), wd Y n s X) := by
  intro d
  induction d with
  | zero =>
    intro rest fam h h' hf hf' hd
    rw [q_X5_leastOfRest_0]
    simp (disch := first | assumption | omega) only [zJ_lt, zJ_le, zJ_eq, l_0, l_1, l_2, l_3, l_4, l_5, l_6, l_7, l_8, l_9, l_10, l_12, l_16, l_24, l_31, l_32, l_48, l_96, l_99, l_100, l_150, l_180, l_200, l_240, l_255, l_260, l_384, l_400, l_999, l_5000, l_9999, l_1000000, l_1000000000]
    unfold zlr
    by_cases q : rest = 0
    · rw [if_pos q, if_pos q]
    · rw [if_neg q, if_neg q, if_neg (by omega), if_pos (by omega)]
  | succ d ih =>
    intro rest fam h h' hf hf' hd
    rw [q_X5_leastOfRest_0]
    simp (disch := first | assumption | omega) only [zJ_lt, zJ_le, zJ_eq, l_0, l_1, l_2, l_3, l_4, l_5, l_6, l_7, l_8, l_9, l_10, l_12, l_16, l_24, l_31, l_32, l_48, l_96, l_99, l_100, l_150, l_180, l_200, l_240, l_255, l_260, l_384, l_400, l_999, l_5000, l_9999, l_1000000, l_1000000000, zJ_neg, zad_e]
    unfold zlr
    by_cases q : rest = 0
    · rw [if_pos q, if_pos q]
    · rw [if_neg q, if_neg q]
      by_cases q' : 1 ≤ fam
      · have hl := zlow_s (a := rest) (by omega) h'
        rw [if_pos q', if_neg (by omega), c_lorR hF (by omega) hl hw (fun r => zlr (X 503) (d + 1) r (fam - 1)) (fun r => zlr_r (fun r => (hw r).1) _ _ _) (fun r hr hr' => ih r (fam - 1) hr hr' (by omega) (by omega) (by omega)) (rest + 1 - zad rest (-rest)).toNat _ _ _ (Int.le_refl _) (by omega) (by decide) (by decide)]
      · rw [if_neg q', if_pos (by omega)]
end ZM
