/-! THE TWO SIDES, 11: the cheapest ways -/
def zrw (X : zX) (c : Int → Int) : zX := fun f j => if f = 500 then c j else X f j
theorem zrw_f {X : zX} {c : Int → Int} {f j : Int} (h : f ≠ 500) : zrw X c f j = X f j := if_neg h
theorem zrw_c {X : zX} {c : Int → Int} {j : Int} : zrw X c 500 j = c j := if_pos rfl
theorem zrw_u {X : zX} {c : Int → Int} {v x : Int} : wu (zrw X c) 500 v x = zrw X (fun j => if j = v then x else c j) := by
  funext f j
  unfold wu zrw
  by_cases h : f = 500
  · by_cases h' : j = v
    · rw [if_pos ⟨h, h'⟩, if_pos h]
      exact (if_pos h').symm
    · rw [if_neg (fun q => h' q.2), if_pos h, if_pos h]
      exact (if_neg h').symm
  · rw [if_neg (fun q => h q.1), if_neg h, if_neg h]
/-- one bundle's step, with its cost -/
def zst1 (e o k : Int) (c : Int → Int) : Int → Int := fun j => if j = e then min (c e) (k + c o) else c j
def zst (X : zX) (i : Int) (c : Int → Int) : Int → Int := if zJ (X 64 i) ≤ zJ 0 then c else zst1 (X 62 i) (X 61 i) (X 63 i * 16 + 1) (zst1 (X 61 i) (X 62 i) (X 63 i * 16 + 1) c)
def zrd (X : zX) : Nat → Int → (Int → Int) → Int → Int
  | 0, _, c => c
  | k + 1, i, c => zrd X k (i + 1) (zst X i c)
def zrds (X : zX) (nb : Nat) : Nat → (Int → Int) → Int → Int
  | 0, c => c
  | k + 1, c => zrds X nb k (zrd X nb 0 c)
/-- bounds of costs -/
def zcb (c : Int → Int) : Prop := ∀ j, 0 ≤ c j ∧ c j ≤ 1000000
theorem zst1_b {e o k : Int} {c : Int → Int} (hk : 0 ≤ k) (h : zcb c) : zcb (zst1 e o k c) := by
  intro j
  have h1 := h j
  have h2 := h e
  have h3 := h o
  unfold zst1
  split <;> omega
/-- what bundles are -/
def wBu (Y : zLy) (X : zX) : Prop := Y.2.2.2.2 0 0 ≤ 16 ∧ ∀ i, 0 ≤ i → i < Y.2.2.2.2 0 0 → 0 ≤ X 61 i ∧ X 61 i < 8 ∧ 0 ≤ X 62 i ∧ X 62 i < 8 ∧ X 61 i ≠ X 62 i ∧ 1 ≤ X 63 i ∧ X 63 i ≤ 999
theorem zst_b {X : zX} {i : Int} {c : Int → Int} (hk : 0 ≤ X 63 i) (h : zcb c) : zcb (zst X i c) := by
  unfold zst
  split
  · exact h
  · exact zst1_b (by omega) (zst1_b (by omega) h)
section ZM
variable {Y : zLy} {n s : Nat} {X : zX} {G : Nat × Nat} {i j : Int}
theorem c_lower {c : Int → Int} {v o : Int} (hF : wF Y) (hV : wV Y 3 i) (hk : 1 ≤ X 63 i ∧ X 63 i ≤ 999) (h1 : 0 ≤ X 61 i ∧ X 61 i < 8) (h2 : 0 ≤ X 62 i ∧ X 62 i < 8) (hv : 0 ≤ v ∧ v < 8) (ho : zac (X 61 i) (X 62 i) v = o) (ho' : 0 ≤ o ∧ o < 8) (hc : zcb c) : ev_ G 57 0 [.ref (wA Y 6 0), .int (zJ v), .ref (wA Y 3 i)] [] (wd Y n s (zrw X c)) = some (.inl none, wd Y n s (zrw X (zst1 v o (X 63 i * 16 + 1) c))) := by
  have h6 := hF.2.2.2.1
  have hI := hF.1
  obtain ⟨a1, a2⟩ := hF.2.2.2.2.2.2.1 0 (by decide) (by decide)
  have b1 := hc v
  have b2 := hc o
  have e61 : zrw X c 61 i = X 61 i := zrw_f (by decide)
  have e62 : zrw X c 62 i = X 62 i := zrw_f (by decide)
  have e63 : zrw X c 63 i = X 63 i := zrw_f (by decide)
  have hac := c_across (G := G) (n := n) (s := s) (X := zrw X c) (j := v) hV (by rw [e61]; exact h1) (by rw [e62]; exact h2) (by omega)
  rw [e61, e62, ho] at hac
  have hco := c_cost (G := G) (n := n) (s := s) (X := zrw X c) hV
  rw [e63] at hco
  rw [q_X4_lowerCost_0]
  simp (disch := first | assumption | omega) only [g6_3, t_I, t_Ie, t_R, t_Re, t_N, t_Nn, t_V, t_Ve, t_b, t_x, t_w, e_0, e_1, e_2, e_3, k10]
  rw [c_atI a1 a2 (by decide) rfl hv.1 (by rw [ln_0]; omega), t_I, k3 hV, hco, t_I]
  simp (disch := first | assumption | omega) only [g6_3, t_I, t_Ie, t_R, t_Re, t_N, t_Nn, t_V, t_Ve, t_b, t_x, t_w, e_0, e_1, e_2, e_3, k10]
  rw [k3 hV, hac, t_I, k10 a1, c_atI a1 a2 (by decide) rfl ho'.1 (by rw [ln_0]; omega), t_I, show (500 : Int) + 0 = 500 from rfl, zrw_c, zrw_c, zJ_add, c_min (by omega) (by omega) (by omega) (by omega), t_I, k10 a1, c_put a1 a2 hI (by decide) rfl (by omega) (by omega), t_V, if_pos ⟨hv.1, by rw [ln_0]; omega⟩, show (500 : Int) + 0 = 500 from rfl, zrw_u]
  rfl
theorem c_roundR {goal rd : Int} (hF : wF Y) (hb : wBu Y X) : ∀ (k : Nat) (i : Int) (c : Int → Int) (u : Value), 0 ≤ i → i + k = Y.2.2.2.2 0 0 → zcb c → ∃ u', ev_ G 58 28 [.ref (wA Y 6 0), .int (zJ goal), .int (zJ rd), .int (zJ i), u] [] (wd Y n s (zrw X c)) = ev_ G 58 20 [.ref (wA Y 6 0), .int (zJ goal), .int (zJ (rd + 1)), .int (zJ (i + k)), u'] [] (wd Y n s (zrw X (zrd X k i c))) := by
  have h6 := hF.2.2.2.1
  have hl0 := hF.2.2.2.2.2.2.2.1 0 (by decide) (by decide)
  have h1 := hl0.1
  have hbv := hF.2.2.2.2.2.2.2.2.1
  have hm := hb.1
  intro k
  induction k with
  | zero =>
    intro i c u hi he hc
    refine ⟨u, ?_⟩
    rw [q_X4_findCosts_28]
    simp (disch := first | assumption | omega) only [g6_0, t_I, t_Ie, t_R, t_Re, t_N, t_Nn, t_V, t_Ve, t_b, t_x, t_w, e_0, e_1, e_2, e_3, k1, c_size, l_0, l_1, l_2, l_3, l_4, l_5, l_6, l_7, l_8, l_9, l_10, l_12, l_16, l_24, l_31, l_32, l_48, l_96, l_99, l_100, l_150, l_180, l_200, l_240, l_255, l_260, l_384, l_400, l_999, l_5000, l_9999, l_1000000, l_1000000000, zJ_lt, zJ_le, zJ_eq, zJ_add, zJ_sub, zJ_mul, zJ_neg]
    rw [if_pos (by omega)]
    simp only [Int.natCast_zero, Int.add_zero]
    rfl
  | succ k ih =>
    intro i c u hi he hc
    have hv := hbv i hi (by omega)
    obtain ⟨r1, r2, r3, r4, r5, r6, r7⟩ := hb.2 i hi (by omega)
    have hel : wel Y 0 i = wA Y 3 i := rfl
    obtain ⟨u', hh⟩ := ih (i + 1) (zst X i c) (.ref (wA Y 3 i)) (by omega) (by omega) (zst_b (by omega) hc)
    refine ⟨u', ?_⟩
    have hk : i + ((k + 1 : Nat) : Int) = i + 1 + k := by omega
    rw [q_X4_findCosts_28]
    simp (disch := first | assumption | omega) only [g6_0, t_I, t_Ie, t_R, t_Re, t_N, t_Nn, t_V, t_Ve, t_b, t_x, t_w, e_0, e_1, e_2, e_3, k1, c_size, l_0, l_1, l_2, l_3, l_4, l_5, l_6, l_7, l_8, l_9, l_10, l_12, l_16, l_24, l_31, l_32, l_48, l_96, l_99, l_100, l_150, l_180, l_200, l_240, l_255, l_260, l_384, l_400, l_999, l_5000, l_9999, l_1000000, l_1000000000, zJ_lt, zJ_le, zJ_eq, zJ_add, zJ_sub, zJ_mul, zJ_neg]
    rw [if_neg (by omega), c_get hl0 hi (by omega), t_R, hel, k3 hv]
    simp (disch := first | assumption | omega) only [g3_4, g3_1, t_I, t_Ie, t_R, t_Re, t_N, t_Nn, t_V, t_Ve, t_b, t_x, t_w, e_0, e_1, e_2, e_3, k6]
    rw [zrw_f (by decide), zrw_f (by decide), hk]
    have hz : zrd X (k + 1) i c = zrd X k (i + 1) (zst X i c) := rfl
    rw [hz]
    by_cases q : zJ (X 64 i) ≤ zJ 0
    · rw [if_pos q]
      have : zst X i c = c := if_pos q
      rw [this] at hh ⊢
      exact hh
    · rw [if_neg q, c_lower hF hv ⟨r6, r7⟩ ⟨r1, r2⟩ ⟨r3, r4⟩ ⟨r1, r2⟩ (show zac (X 61 i) (X 62 i) (X 61 i) = X 62 i from if_pos rfl) ⟨r3, r4⟩ hc, t_V]
      simp (disch := first | assumption | omega) only [g3_2, t_I, t_Ie, t_R, t_Re, t_N, t_Nn, t_V, t_Ve, t_b, t_x, t_w, e_0, e_1, e_2, e_3, k6]
      rw [zrw_f (by decide), c_lower hF hv ⟨r6, r7⟩ ⟨r1, r2⟩ ⟨r3, r4⟩ ⟨r3, r4⟩ (show zac (X 61 i) (X 62 i) (X 62 i) = X 61 i from by unfold zac; rw [if_neg (Ne.symm r5), if_pos rfl]) ⟨r1, r2⟩ (zst1_b (by omega) hc), t_V]
      have : zst X i c = zst1 (X 62 i) (X 61 i) (X 63 i * 16 + 1) (zst1 (X 61 i) (X 62 i) (X 63 i * 16 + 1) c) := if_neg q
      rw [this] at hh ⊢
      exact hh
theorem zrd_b {X : zX} : ∀ (k : Nat) (i : Int) (c : Int → Int), (∀ j, i ≤ j → j < i + k → 0 ≤ X 63 j) → zcb c → zcb (zrd X k i c) := by
  intro k
  induction k with
  | zero => intro i c _ h; exact h
  | succ k ih => intro i c hk h; exact ih (i + 1) _ (fun j h1 h2 => hk j (by omega) (by omega)) (zst_b (hk i (by omega) (by omega)) h)
theorem c_roundsR {goal : Int} (hF : wF Y) (hb : wBu Y X) : ∀ (k : Nat) (rd : Int) (c : Int → Int) (u v : Value), 1 ≤ rd → rd + k = 8 → zcb c → ev_ G 58 20 [.ref (wA Y 6 0), .int (zJ goal), .int (zJ rd), u, v] [] (wd Y n s (zrw X c)) = some (.inl none, wd Y n s (zrw X (zrds X (Y.2.2.2.2 0 0).toNat k c))) := by
  have hl0 := hF.2.2.2.2.2.2.2.1 0 (by decide) (by decide)
  have h0 := hl0.2.1
  intro k
  induction k with
  | zero =>
    intro rd c u v hr he hc
    rw [q_X4_findCosts_20]
    simp (disch := first | assumption | omega) only [l_0, l_1, l_2, l_3, l_4, l_5, l_6, l_7, l_8, l_9, l_10, l_12, l_16, l_24, l_31, l_32, l_48, l_96, l_99, l_100, l_150, l_180, l_200, l_240, l_255, l_260, l_384, l_400, l_999, l_5000, l_9999, l_1000000, l_1000000000, zJ_lt, zJ_le, zJ_eq]
    rw [if_pos (by omega)]
    rfl
  | succ k ih =>
    intro rd c u v hr he hc
    obtain ⟨u', hh⟩ := c_roundR (G := G) (n := n) (s := s) (goal := goal) (rd := rd) hF hb (Y.2.2.2.2 0 0).toNat 0 c v (by decide) (by omega) hc
    rw [q_X4_findCosts_20]
    simp (disch := first | assumption | omega) only [l_0, l_1, l_2, l_3, l_4, l_5, l_6, l_7, l_8, l_9, l_10, l_12, l_16, l_24, l_31, l_32, l_48, l_96, l_99, l_100, l_150, l_180, l_200, l_240, l_255, l_260, l_384, l_400, l_999, l_5000, l_9999, l_1000000, l_1000000000, zJ_lt, zJ_le, zJ_eq]
    rw [if_neg (by omega), hh, ih (rd + 1) _ _ _ (by omega) (by omega) (zrd_b _ _ _ (fun j h1 h2 => by have := hb.2 j (by omega) (by omega); omega) hc)]
    rfl
/-- the costs at first -/
def zc0 (X : zX) (goal : Int) : Int → Int := fun j => if j = goal then 0 else if 0 ≤ j ∧ j < 8 then 1000000 else X 500 j
def zcst (X : zX) (nb goal : Int) : Int → Int := zrds X nb.toNat 7 (zc0 X goal)
theorem zc0_b {X : zX} {goal : Int} (h : zcb (X 500)) : zcb (zc0 X goal) := by
  intro j
  have := h j
  unfold zc0
  split
  · omega
  · split <;> omega
theorem zrds_b {X : zX} {nb : Nat} (hk : ∀ j, 0 ≤ j → j < (nb : Int) → 0 ≤ X 63 j) : ∀ (k : Nat) (c : Int → Int), zcb c → zcb (zrds X nb k c) := by
  intro k
  induction k with
  | zero => intro c h; exact h
  | succ k ih => intro c h; exact ih _ (zrd_b _ _ _ (fun j h1 h2 => hk j (by omega) (by omega)) h)
theorem c_findCosts {goal : Int} (hF : wF Y) (hb : wBu Y X) (hg : 0 ≤ goal ∧ goal < 8) (hc : zcb (X 500)) : ev_ G 58 0 [.ref (wA Y 6 0), .int (zJ goal), zU, zU, zU] [] (wd Y n s X) = some (.inl none, wd Y n s (zrw X (zcst X (Y.2.2.2.2 0 0) goal))) := by
  have h6 := hF.2.2.2.1
  have hI := hF.1
  obtain ⟨a1, a2⟩ := hF.2.2.2.2.2.2.1 0 (by decide) (by decide)
  rw [q_X4_findCosts_0]
  simp (disch := first | assumption | omega) only [g6_3, t_I, t_Ie, t_R, t_Re, t_N, t_Nn, t_V, t_Ve, t_b, t_x, t_w, e_0, e_1, e_2, e_3, k10, l_0, l_1, l_2, l_3, l_4, l_5, l_6, l_7, l_8, l_9, l_10, l_12, l_16, l_24, l_31, l_32, l_48, l_96, l_99, l_100, l_150, l_180, l_200, l_240, l_255, l_260, l_384, l_400, l_999, l_5000, l_9999, l_1000000, l_1000000000]
  rw [c_fill a1 a2 hI (by decide) rfl, t_V]
  simp (disch := first | assumption | omega) only [g6_3, t_I, t_Ie, t_R, t_Re, t_N, t_Nn, t_V, t_Ve, t_b, t_x, t_w, e_0, e_1, e_2, e_3, k10]
  rw [c_put a1 a2 hI (by decide) rfl (by omega) (by omega), t_V, if_pos ⟨hg.1, by rw [ln_0]; omega⟩, show (500 : Int) + 0 = 500 from rfl, ln_0]
  have e : wu (fun f j => if f = 500 ∧ 0 ≤ j ∧ j < ((8 : Nat) : Int) then 1000000 else X f j) 500 goal 0 = zrw X (zc0 X goal) := by
    funext f j
    unfold wu zrw zc0
    by_cases h : f = 500
    · subst h
      by_cases h' : j = goal
      · rw [if_pos ⟨rfl, h'⟩, if_pos rfl, if_pos h']
      · rw [if_neg (fun q => h' q.2), if_pos rfl, if_neg h']
        by_cases q : 0 ≤ j ∧ j < 8
        · rw [if_pos q]
          exact if_pos ⟨rfl, q.1, q.2⟩
        · rw [if_neg q]
          exact if_neg (fun w => q ⟨w.2.1, w.2.2⟩)
    · rw [if_neg (fun q => h q.1), if_neg h]
      exact if_neg (fun q => h q.1)
  rw [e, c_roundsR hF hb 7 1 _ _ _ (by decide) (by decide) (zc0_b hc)]
  rfl
theorem zcst_b {goal : Int} (hF : wF Y) (hb : wBu Y X) (hc : zcb (X 500)) : zcb (zcst X (Y.2.2.2.2 0 0) goal) := by
  have h0 := (hF.2.2.2.2.2.2.2.1 0 (by decide) (by decide)).2.1
  refine zrds_b (fun j h1 h2 => ?_) _ _ (zc0_b hc)
  have := hb.2 j h1 (by omega)
  omega
theorem c_hasWay {fr goal : Int} (hF : wF Y) (hb : wBu Y X) (hg : 0 ≤ goal ∧ goal < 8) (hf : 0 ≤ fr ∧ fr < 8) (hc : zcb (X 500)) : ev_ G 59 0 [.ref (wA Y 6 0), .int (zJ fr), .int (zJ goal)] [] (wd Y n s X) = some (.inl (some (.int (zJ (zB (zcst X (Y.2.2.2.2 0 0) goal fr < 1000000))))), wd Y n s (zrw X (zcst X (Y.2.2.2.2 0 0) goal))) := by
  have h6 := hF.2.2.2.1
  obtain ⟨a1, a2⟩ := hF.2.2.2.2.2.2.1 0 (by decide) (by decide)
  have hb' := zcst_b (goal := goal) hF hb hc fr
  rw [q_X4_hasWay_0]
  simp only [t_0, t_1]
  rw [k6 h6, c_findCosts hF hb hg hc, t_V]
  simp (disch := first | assumption | omega) only [g6_3, t_I, t_Ie, t_R, t_Re, t_N, t_Nn, t_V, t_Ve, t_b, t_x, t_w, e_0, e_1, e_2, e_3, k10]
  rw [c_atI a1 a2 (by decide) rfl hf.1 (by rw [ln_0]; omega), t_I, show (500 : Int) + 0 = 500 from rfl, zrw_c]
  simp (disch := first | assumption | omega) only [l_0, l_1, l_2, l_3, l_4, l_5, l_6, l_7, l_8, l_9, l_10, l_12, l_16, l_24, l_31, l_32, l_48, l_96, l_99, l_100, l_150, l_180, l_200, l_240, l_255, l_260, l_384, l_400, l_999, l_5000, l_9999, l_1000000, l_1000000000, zJ_lt, zJ_le, zJ_eq]
  unfold zB
  split
  · rw [if_neg (by omega)]
  · rw [if_pos (by omega)]
/-- whether a bundle goes on from a node, by the costs -/
def zon (X : zX) (c : Int → Int) (v i : Int) : Prop := ¬zJ (X 64 i) ≤ zJ 0 ∧ zac (X 61 i) (X 62 i) v ≠ -1 ∧ X 63 i * 16 + 1 + c (zac (X 61 i) (X 62 i) v) = c v
theorem c_onR {c : Int → Int} {v : Int} (hF : wF Y) (hb : wBu Y X) (hv : 0 ≤ v ∧ v < 8) (hc : zcb c) : ∀ (k : Nat) (i : Int) (u u2 : Value), 0 ≤ i → i + k = Y.2.2.2.2 0 0 → ((∀ j, i ≤ j → j < i + k → ¬zon X c v j) → ev_ G 63 2 [.ref (wA Y 6 0), .int (zJ v), .int (zJ i), u, u2] [] (wd Y n s (zrw X c)) = some (.inl (some .null), wd Y n s (zrw X c))) ∧ (∀ j, i ≤ j → j < i + k → zon X c v j → (∀ m, i ≤ m → m < j → ¬zon X c v m) → ev_ G 63 2 [.ref (wA Y 6 0), .int (zJ v), .int (zJ i), u, u2] [] (wd Y n s (zrw X c)) = some (.inl (some (.ref (wA Y 3 j))), wd Y n s (zrw X c))) := by
  have h6 := hF.2.2.2.1
  have hl0 := hF.2.2.2.2.2.2.2.1 0 (by decide) (by decide)
  have h1 := hl0.1
  have hbv := hF.2.2.2.2.2.2.2.2.1
  have hm := hb.1
  obtain ⟨a1, a2⟩ := hF.2.2.2.2.2.2.1 0 (by decide) (by decide)
  intro k
  induction k with
  | zero =>
    intro i u u2 hi he
    refine ⟨fun _ => ?_, fun j h1 h2 => by omega⟩
    rw [q_X4_lowestOnward_2]
    simp (disch := first | assumption | omega) only [g6_0, t_I, t_Ie, t_R, t_Re, t_N, t_Nn, t_V, t_Ve, t_b, t_x, t_w, e_0, e_1, e_2, e_3, k1, c_size, l_0, l_1, l_2, l_3, l_4, l_5, l_6, l_7, l_8, l_9, l_10, l_12, l_16, l_24, l_31, l_32, l_48, l_96, l_99, l_100, l_150, l_180, l_200, l_240, l_255, l_260, l_384, l_400, l_999, l_5000, l_9999, l_1000000, l_1000000000, zJ_lt, zJ_le, zJ_eq, zJ_add, zJ_sub, zJ_mul, zJ_neg]
    rw [if_pos (by omega)]
  | succ k ih =>
    intro i u u2 hi he
    have hvi := hbv i hi (by omega)
    obtain ⟨r1, r2, r3, r4, r5, r6, r7⟩ := hb.2 i hi (by omega)
    have hel : wel Y 0 i = wA Y 3 i := rfl
    have e61 : zrw X c 61 i = X 61 i := zrw_f (by decide)
    have e62 : zrw X c 62 i = X 62 i := zrw_f (by decide)
    have e63 : zrw X c 63 i = X 63 i := zrw_f (by decide)
    have hac := c_across (G := G) (n := n) (s := s) (X := zrw X c) (j := v) hvi (by rw [e61]; exact ⟨r1, r2⟩) (by rw [e62]; exact ⟨r3, r4⟩) (by omega)
    rw [e61, e62] at hac
    have hco := c_cost (G := G) (n := n) (s := s) (X := zrw X c) hvi
    rw [e63] at hco
    have hr : -1 ≤ zac (X 61 i) (X 62 i) v ∧ zac (X 61 i) (X 62 i) v < 8 := by
      unfold zac
      repeat' split
      all_goals omega
    have hstep : (¬zon X c v i → ∃ u3 u4, ev_ G 63 2 [.ref (wA Y 6 0), .int (zJ v), .int (zJ i), u, u2] [] (wd Y n s (zrw X c)) = ev_ G 63 2 [.ref (wA Y 6 0), .int (zJ v), .int (zJ (i + 1)), u3, u4] [] (wd Y n s (zrw X c))) ∧ (zon X c v i → ev_ G 63 2 [.ref (wA Y 6 0), .int (zJ v), .int (zJ i), u, u2] [] (wd Y n s (zrw X c)) = some (.inl (some (.ref (wA Y 3 i))), wd Y n s (zrw X c))) := by
      rw [q_X4_lowestOnward_2]
      simp (disch := first | assumption | omega) only [g6_0, t_I, t_Ie, t_R, t_Re, t_N, t_Nn, t_V, t_Ve, t_b, t_x, t_w, e_0, e_1, e_2, e_3, k1, c_size, l_0, l_1, l_2, l_3, l_4, l_5, l_6, l_7, l_8, l_9, l_10, l_12, l_16, l_24, l_31, l_32, l_48, l_96, l_99, l_100, l_150, l_180, l_200, l_240, l_255, l_260, l_384, l_400, l_999, l_5000, l_9999, l_1000000, l_1000000000, zJ_lt, zJ_le, zJ_eq, zJ_add, zJ_sub, zJ_mul, zJ_neg]
      rw [if_neg (by omega), c_get hl0 hi (by omega), t_R, hel, k3 hvi, k3 hvi, hac, t_I]
      simp (disch := first | assumption | omega) only [g3_4, t_I, t_Ie, t_R, t_Re, t_N, t_Nn, t_V, t_Ve, t_b, t_x, t_w, e_0, e_1, e_2, e_3, zJ_neg, zJ_lt, zJ_le, zJ_eq]
      rw [zrw_f (by decide)]
      unfold zon
      by_cases q : zJ (X 64 i) ≤ zJ 0
      · rw [if_pos q]
        exact ⟨fun _ => ⟨_, _, rfl⟩, fun h => absurd q h.1⟩
      · rw [if_neg q]
        by_cases q2 : zac (X 61 i) (X 62 i) v = -1
        · rw [if_pos q2]
          exact ⟨fun _ => ⟨_, _, rfl⟩, fun h => absurd q2 h.2.1⟩
        · have b1 := hc (zac (X 61 i) (X 62 i) v)
          have b2 := hc v
          rw [if_neg q2, k3 hvi, hco, t_I]
          simp (disch := first | assumption | omega) only [g6_3, t_I, t_Ie, t_R, t_Re, t_N, t_Nn, t_V, t_Ve, t_b, t_x, t_w, e_0, e_1, e_2, e_3, k10]
          rw [c_atI a1 a2 (by decide) rfl (by omega) (by rw [ln_0]; omega), t_I]
          simp (disch := first | assumption | omega) only [g6_3, t_I, t_Ie, t_R, t_Re, t_N, t_Nn, t_V, t_Ve, t_b, t_x, t_w, e_0, e_1, e_2, e_3, k10]
          rw [c_atI a1 a2 (by decide) rfl (by omega) (by rw [ln_0]; omega), t_I, show (500 : Int) + 0 = 500 from rfl, zrw_c, zrw_c]
          simp (disch := first | assumption | omega) only [zJ_add, zJ_sub, zJ_mul, zJ_neg, zJ_lt, zJ_le, zJ_eq]
          by_cases q3 : X 63 i * 16 + 1 + c (zac (X 61 i) (X 62 i) v) = c v
          · rw [if_pos q3]
            exact ⟨fun h => absurd ⟨q, q2, q3⟩ h, fun _ => rfl⟩
          · rw [if_neg q3]
            exact ⟨fun _ => ⟨_, _, rfl⟩, fun h => absurd h.2.2 q3⟩
    refine ⟨fun h => ?_, fun j hj hj' ho hn => ?_⟩
    · obtain ⟨u3, u4, hs⟩ := hstep.1 (h i (Int.le_refl _) (by omega))
      rw [hs]
      exact (ih (i + 1) u3 u4 (by omega) (by omega)).1 (fun j h1 h2 => h j (by omega) (by omega))
    · by_cases hij : j = i
      · subst hij
        exact hstep.2 ho
      · obtain ⟨u3, u4, hs⟩ := hstep.1 (hn i (Int.le_refl _) (by omega))
        rw [hs]
        exact (ih (i + 1) u3 u4 (by omega) (by omega)).2 j (by omega) (by omega) ho (fun m h1 h2 => hn m (by omega) h2)
end ZM
