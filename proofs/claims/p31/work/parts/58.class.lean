/-! THE TWO SIDES, 10: the least weight by choice and by table -/
def zlw (w l : Int → Int) (st : Int) : Nat → Int → Int → Int
  | 0, _, t => t
  | k + 1, i, t => zlw w l st k (i + 1) (if zan i st = 0 then min t (w i + l (zan st i)) else t)
def zaf : Nat → zX → zX
  | 0, X => X
  | k + 1, X => zaf k (wu X 504 k (zlw (X 503) (X 504) k k 1 (X 504 k)))
theorem zlw_r {w l : Int → Int} {st : Int} (hw : ∀ r, 0 ≤ w r) (hl : ∀ r, 0 ≤ l r) : ∀ (k : Nat) (i t : Int), 0 ≤ t → 0 ≤ zlw w l st k i t ∧ zlw w l st k i t ≤ t := by
  intro k
  induction k with
  | zero => intro i t h; exact ⟨h, Int.le_refl _⟩
  | succ k ih =>
    intro i t h
    have h1 := hl (zan st i)
    have h2 := hw i
    have h3 : 0 ≤ (if zan i st = 0 then min t (w i + l (zan st i)) else t) ∧ (if zan i st = 0 then min t (w i + l (zan st i)) else t) ≤ t := by
      split <;> omega
    have h4 := ih (i + 1) _ h3.1
    exact ⟨h4.1, Int.le_trans h4.2 h3.2⟩
theorem zaf_f : ∀ (k : Nat) (X : zX) (f j : Int), f ≠ 504 → zaf k X f j = X f j := by
  intro k
  induction k with
  | zero => intro X f j h; rfl
  | succ k ih =>
    intro X f j h
    show zaf k _ f j = _
    rw [ih _ _ _ h]
    exact if_neg (fun q => h q.1)
theorem zaf_r : ∀ (k : Nat) (X : zX), (∀ r, 0 ≤ X 503 r) → (∀ r, 0 ≤ X 504 r ∧ X 504 r ≤ 1000000000) → ∀ r, 0 ≤ zaf k X 504 r ∧ zaf k X 504 r ≤ 1000000000 := by
  intro k
  induction k with
  | zero => intro X h1 h2; exact h2
  | succ k ih =>
    intro X h1 h2
    refine ih _ (fun r => ?_) (fun r => ?_)
    · have : wu X 504 k (zlw (X 503) (X 504) k k 1 (X 504 k)) 503 r = X 503 r := if_neg (by omega)
      rw [this]
      exact h1 r
    · unfold wu
      split
      · have h3 := zlw_r (st := (k : Int)) h1 (fun r => (h2 r).1) k 1 (X 504 k) (h2 k).1
        have h4 := h2 k
        omega
      · exact h2 r
def zafs : Nat → Nat → zX → zX
  | _, 0, X => X
  | k, c + 1, X => zafs k c (zaf k X)
section ZM
variable {Y : zLy} {n s : Nat} {X : zX} {G : Nat × Nat} {i j : Int}
theorem c_choice {fam : Int} (hF : wF Y) (hr : ∀ w, 0 ≤ w → w < Y.2.2.2.2 0 2 → 0 ≤ X 246 w ∧ X 246 w ≤ 1) (ho : 0 ≤ X 144 0 ∧ X 144 0 ≤ 5) (hf : 0 ≤ fam ∧ fam ≤ 5) (hw : ∀ r, 0 ≤ zws X (Y.2.2.2.2 0 2) 0 503 r ∧ zws X (Y.2.2.2.2 0 2) 0 503 r ≤ 100000000) : ev_ G 102 0 [.ref (wA Y 7 0), .ref (wA Y 6 0), .int (zJ fam)] [] (wd Y n s X) = some (.inl (some (.int (zJ (zlr (zws X (Y.2.2.2.2 0 2) 0 503) 7 (zall (X 144 0)) fam)))), wd Y n s (zws X (Y.2.2.2.2 0 2) 0)) := by
  have h7 := hF.2.2.2.2.1
  have hz := zall_r ho.1 ho.2
  have e : zws X (Y.2.2.2.2 0 2) 0 144 0 = X 144 0 := if_neg (by omega)
  rw [q_X5_leastByChoice_0]
  simp (disch := first | assumption | omega) only [k7, c_sets, t_I, t_Ie, t_R, t_Re, t_N, t_Nn, t_V, t_Ve, t_b, t_x, t_w, e_0, e_1, e_2, e_3, g7_2]
  rw [c_all hF (by rw [e]; exact ho), t_I, e, show (1006 : Nat) = 6 + 1000 from rfl, c_lor hF hw 6 _ fam hz.1 (by omega) hf.1 (by omega) (by decide), t_I]
theorem c_moreR {st : Int} (hF : wF Y) (hs : 0 ≤ st ∧ st < 32) (hw : ∀ r, 0 ≤ X 503 r ∧ X 503 r ≤ 100000000) (hl : ∀ r, 0 ≤ X 504 r ∧ X 504 r ≤ 1000000000) : ∀ (k : Nat) (i t : Int), 1 ≤ i → i + k = st + 1 → 0 ≤ t → t ≤ 1000000000 → ev_ G 108 11 [.ref (wA Y 7 0), .int (zJ st), .int (zJ t), .int (zJ i)] [] (wd Y n s X) = some (.inl (some (.int (zJ (zlw (X 503) (X 504) st k i t)))), wd Y n s X) := by
  have h7 := hF.2.2.2.2.1
  obtain ⟨a1, a2⟩ := hF.2.2.2.2.2.2.1 3 (by decide) (by decide)
  obtain ⟨b1, b2⟩ := hF.2.2.2.2.2.2.1 4 (by decide) (by decide)
  intro k
  induction k with
  | zero =>
    intro i t hi he ht ht'
    rw [q_X5_leastWithOneMore_11]
    simp (disch := first | assumption | omega) only [zJ_lt, zJ_le, zJ_eq]
    rw [if_pos (by omega)]
    rfl
  | succ k ih =>
    intro i t hi he ht ht'
    have c1 := zan_r i st
    have c3 := zan_s (a := st) (b := i) (by omega) (by omega) (by omega) (by omega)
    have c4 := hw i
    have c5 := hl (zan st i)
    rw [q_X5_leastWithOneMore_11]
    simp (disch := first | assumption | omega) only [zJ_lt, zJ_le, zJ_eq, l_0, l_1, l_2, l_3, l_4, l_5, l_6, l_7, l_8, l_9, l_10, l_12, l_16, l_24, l_31, l_32, l_48, l_96, l_99, l_100, l_150, l_180, l_200, l_240, l_255, l_260, l_384, l_400, l_999, l_5000, l_9999, l_1000000, l_1000000000, zJ_neg, zan_e, zJ_add, zJ_sub, zJ_mul, zJ_neg, g7_2, t_I, t_Ie, t_R, t_Re, t_N, t_Nn, t_V, t_Ve, t_b, t_x, t_w, e_0, e_1, e_2, e_3]
    rw [if_neg (by omega)]
    have hz : zlw (X 503) (X 504) st (k + 1) i t = zlw (X 503) (X 504) st k (i + 1) (if zan i st = 0 then min t (X 503 i + X 504 (zan st i)) else t) := rfl
    rw [hz]
    by_cases q : zan i st = 0
    · rw [if_pos q, k10 a1, c_atI a1 a2 (by decide) rfl (by omega) (by rw [ln_3]; omega), t_I]
      simp (disch := first | assumption | omega) only [g7_3, t_I, t_Ie, t_R, t_Re, t_N, t_Nn, t_V, t_Ve, t_b, t_x, t_w, e_0, e_1, e_2, e_3]
      rw [k10 b1, c_atI b1 b2 (by decide) rfl c3.1 (by rw [ln_4]; omega), t_I, show (500 : Int) + 3 = 503 from rfl, show (500 : Int) + 4 = 504 from rfl, zJ_add, c_min (by omega) (by omega) (by omega) (by omega), t_I, ih (i + 1) _ (by omega) (by omega) (by omega) (by omega), if_pos q]
    · rw [if_neg q, ih (i + 1) t (by omega) (by omega) ht ht', if_neg q]
theorem c_famR (hF : wF Y) : ∀ (k : Nat) (X : zX), k ≤ 32 → (∀ r, 0 ≤ X 503 r ∧ X 503 r ≤ 100000000) → (∀ r, 0 ≤ X 504 r ∧ X 504 r ≤ 1000000000) → ev_ G 109 5 [.ref (wA Y 7 0), .int (zJ ((k : Int) - 1))] [] (wd Y n s X) = some (.inl none, wd Y n s (zaf k X)) := by
  have h7 := hF.2.2.2.2.1
  have hI := hF.1
  obtain ⟨b1, b2⟩ := hF.2.2.2.2.2.2.1 4 (by decide) (by decide)
  intro k
  induction k with
  | zero =>
    intro X hk hw hl
    rw [q_X5_addFamily_5]
    simp (disch := first | assumption | omega) only [zJ_lt, zJ_le, zJ_eq, l_0, l_1, l_2, l_3, l_4, l_5, l_6, l_7, l_8, l_9, l_10, l_12, l_16, l_24, l_31, l_32, l_48, l_96, l_99, l_100, l_150, l_180, l_200, l_240, l_255, l_260, l_384, l_400, l_999, l_5000, l_9999, l_1000000, l_1000000000]
    rw [if_pos (by omega)]
    rfl
  | succ k ih =>
    intro X hk hw hl
    have ek : ((k + 1 : Nat) : Int) - 1 = k := by omega
    have hl' := hl k
    rw [ek, q_X5_addFamily_5]
    simp (disch := first | assumption | omega) only [zJ_lt, zJ_le, zJ_eq, l_0, l_1, l_2, l_3, l_4, l_5, l_6, l_7, l_8, l_9, l_10, l_12, l_16, l_24, l_31, l_32, l_48, l_96, l_99, l_100, l_150, l_180, l_200, l_240, l_255, l_260, l_384, l_400, l_999, l_5000, l_9999, l_1000000, l_1000000000, g7_3, t_I, t_Ie, t_R, t_Re, t_N, t_Nn, t_V, t_Ve, t_b, t_x, t_w, e_0, e_1, e_2, e_3, k7]
    rw [if_neg (by omega), q_X5_leastWithOneMore_0]
    simp (disch := first | assumption | omega) only [g7_3, t_I, t_Ie, t_R, t_Re, t_N, t_Nn, t_V, t_Ve, t_b, t_x, t_w, e_0, e_1, e_2, e_3, k10]
    rw [c_atI b1 b2 (by decide) rfl (by omega) (by rw [ln_4]; omega), t_I, show (500 : Int) + 4 = 504 from rfl, l_1, c_moreR hF (by omega) hw hl k 1 _ (by decide) (by omega) hl'.1 hl'.2, t_I]
    simp (disch := first | assumption | omega) only [k10]
    rw [c_put b1 b2 hI (by decide) rfl (by omega) (by omega), t_V, if_pos ⟨by omega, by rw [ln_4]; omega⟩, show (500 : Int) + 4 = 504 from rfl]
    simp only [zJ_add, zJ_sub, zJ_mul, zJ_neg]
    rw [show (k : Int) + -1 = (k : Int) - 1 by omega]
    refine ih _ (by omega) (fun r => ?_) (fun r => ?_)
    · have : wu X 504 k (zlw (X 503) (X 504) k k 1 (X 504 k)) 503 r = X 503 r := if_neg (by omega)
      rw [this]
      exact hw r
    · unfold wu
      split
      · have h3 := zlw_r (st := (k : Int)) (fun r => (hw r).1) (fun r => (hl r).1) k 1 (X 504 k) hl'.1
        omega
      · exact hl r
theorem c_famsR {fam : Int} (hF : wF Y) (hf : fam ≤ 5) : ∀ (c : Nat) (i : Int) (X : zX), 1 ≤ i → i + c = fam + 1 → (∀ r, 0 ≤ X 503 r ∧ X 503 r ≤ 100000000) → (∀ r, 0 ≤ X 504 r ∧ X 504 r ≤ 1000000000) → 0 ≤ X 144 0 ∧ X 144 0 ≤ 5 → ev_ G 110 25 [.ref (wA Y 7 0), .ref (wA Y 6 0), .int (zJ fam), .int (zJ i)] [] (wd Y n s X) = some (.inl (some (.int (zJ (zafs (zall (X 144 0) + 1).toNat c X 504 (zall (X 144 0)))))), wd Y n s (zafs (zall (X 144 0) + 1).toNat c X)) := by
  have h7 := hF.2.2.2.2.1
  obtain ⟨b1, b2⟩ := hF.2.2.2.2.2.2.1 4 (by decide) (by decide)
  intro c
  induction c with
  | zero =>
    intro i X hi he hw hl ho
    have hz := zall_r ho.1 ho.2
    rw [q_X5_leastByTable_25]
    simp (disch := first | assumption | omega) only [zJ_lt, zJ_le, zJ_eq, g7_3, t_I, t_Ie, t_R, t_Re, t_N, t_Nn, t_V, t_Ve, t_b, t_x, t_w, e_0, e_1, e_2, e_3, k7, c_all, k10]
    rw [if_pos (by omega), c_atI b1 b2 (by decide) rfl hz.1 (by rw [ln_4]; omega), t_I]
    rfl
  | succ c ih =>
    intro i X hi he hw hl ho
    have hz := zall_r ho.1 ho.2
    have e : zall (X 144 0) = ((zall (X 144 0) + 1).toNat : Int) - 1 := by omega
    have hh := c_famR (n := n) (s := s) (G := G) hF (zall (X 144 0) + 1).toNat X (by omega) hw hl
    rw [← e] at hh
    have e2 := zaf_f (zall (X 144 0) + 1).toNat X 144 0 (by decide)
    have h2 := ih (i + 1) (zaf (zall (X 144 0) + 1).toNat X) (by omega) (by omega) (fun r => by rw [zaf_f _ _ _ _ (by decide)]; exact hw r) (zaf_r _ _ (fun r => (hw r).1) hl) (by rw [e2]; exact ho)
    rw [e2] at h2
    rw [q_X5_leastByTable_25]
    simp (disch := first | assumption | omega) only [zJ_lt, zJ_le, zJ_eq, l_0, l_1, l_2, l_3, l_4, l_5, l_6, l_7, l_8, l_9, l_10, l_12, l_16, l_24, l_31, l_32, l_48, l_96, l_99, l_100, l_150, l_180, l_200, l_240, l_255, l_260, l_384, l_400, l_999, l_5000, l_9999, l_1000000, l_1000000000, zJ_add, zJ_sub, zJ_mul, zJ_neg]
    rw [if_neg (by omega), k7 h7, q_X5_addFamily_0, k7 h7, c_all hF ho, t_I, hh, t_V, h2]
    rfl
/-- the table at its beginning -/
def zt0 (X : zX) : zX := wu (fun f j => if f = 504 ∧ 0 ≤ j ∧ j < 32 then 1000000000 else X f j) 504 0 0
theorem c_table {fam : Int} (hF : wF Y) (hr : ∀ w, 0 ≤ w → w < Y.2.2.2.2 0 2 → 0 ≤ X 246 w ∧ X 246 w ≤ 1) (ho : 0 ≤ X 144 0 ∧ X 144 0 ≤ 5) (hf : 0 ≤ fam ∧ fam ≤ 5) (hw : ∀ r, 0 ≤ zws X (Y.2.2.2.2 0 2) 0 503 r ∧ zws X (Y.2.2.2.2 0 2) 0 503 r ≤ 100000000) (hl : ∀ r, 0 ≤ X 504 r ∧ X 504 r ≤ 1000000000) : ev_ G 110 0 [.ref (wA Y 7 0), .ref (wA Y 6 0), .int (zJ fam), zU] [] (wd Y n s X) = some (.inl (some (.int (zJ (zafs (zall (X 144 0) + 1).toNat fam.toNat (zt0 (zws X (Y.2.2.2.2 0 2) 0)) 504 (zall (X 144 0)))))), wd Y n s (zafs (zall (X 144 0) + 1).toNat fam.toNat (zt0 (zws X (Y.2.2.2.2 0 2) 0)))) := by
  have h7 := hF.2.2.2.2.1
  have hI := hF.1
  obtain ⟨b1, b2⟩ := hF.2.2.2.2.2.2.1 4 (by decide) (by decide)
  have d : ∀ X f j, f ≠ 504 → zt0 X f j = X f j := by
    intro X f j h
    unfold zt0 wu
    rw [if_neg (fun q => h q.1)]
    exact if_neg (fun q => h q.1)
  have e : zt0 (zws X (Y.2.2.2.2 0 2) 0) 144 0 = X 144 0 := by
    rw [d _ _ _ (by decide)]
    exact if_neg (by omega)
  have hh := c_famsR (n := n) (s := s) (G := G) hF hf.2 fam.toNat 1 (zt0 (zws X (Y.2.2.2.2 0 2) 0)) (by decide) (by omega) (fun r => by rw [d _ _ _ (by decide)]; exact hw r) (fun r => by
    unfold zt0 wu
    split
    · omega
    · dsimp only
      split
      · omega
      · have : zws X (Y.2.2.2.2 0 2) 0 504 r = X 504 r := if_neg (by omega)
        rw [this]
        exact hl r) (by rw [e]; exact ho)
  rw [e] at hh
  rw [q_X5_leastByTable_0]
  simp (disch := first | assumption | omega) only [k7, c_sets, t_I, t_Ie, t_R, t_Re, t_N, t_Nn, t_V, t_Ve, t_b, t_x, t_w, e_0, e_1, e_2, e_3, g7_3, k10, l_0, l_1, l_2, l_3, l_4, l_5, l_6, l_7, l_8, l_9, l_10, l_12, l_16, l_24, l_31, l_32, l_48, l_96, l_99, l_100, l_150, l_180, l_200, l_240, l_255, l_260, l_384, l_400, l_999, l_5000, l_9999, l_1000000, l_1000000000, c_fill]
  rw [c_fill b1 b2 hI (by decide) rfl, t_V, ln_4, show (500 : Int) + 4 = 504 from rfl]
  simp (disch := first | assumption | omega) only [t_I, t_Ie, t_R, t_Re, t_N, t_Nn, t_V, t_Ve, t_b, t_x, t_w, e_0, e_1, e_2, e_3, g7_3, k10]
  rw [c_put b1 b2 hI (by decide) rfl (by decide) (by decide), t_V, if_pos ⟨by decide, by rw [ln_4]; decide⟩, show (500 : Int) + 4 = 504 from rfl]
  exact hh
end ZM
