/-! THE TWO SIDES, 25: the reference's costs -/
def zrf (X : zX) (c : Int → Int) : zX := fun f j => if f = 1016 then c j else X f j
theorem zrf_f {X : zX} {c : Int → Int} {f j : Int} (h : f ≠ 1016) : zrf X c f j = X f j := if_neg h
theorem zrf_c {X : zX} {c : Int → Int} {j : Int} : zrf X c 1016 j = c j := if_pos rfl
theorem zrf_u {X : zX} {c : Int → Int} {v x : Int} : wu (zrf X c) 1016 v x = zrf X (fun j => if j = v then x else c j) := by
  funext f j
  unfold wu zrf
  by_cases h : f = 1016
  · by_cases h' : j = v
    · rw [if_pos ⟨h, h'⟩, if_pos h]
      exact (if_pos h').symm
    · rw [if_neg (fun q => h' q.2), if_pos h, if_pos h]
      exact (if_neg h').symm
  · rw [if_neg (fun q => h q.1), if_neg h, if_neg h]
def zst2 (e o k : Int) (c : Int → Int) : Int → Int := fun j => if j = e then min (c e) (k + c o) else if j = o then min (c o) (k + c e) else c j
def zstm (X : zX) (i : Int) (c : Int → Int) : Int → Int := if zJ (X 1004 i) ≤ zJ 0 then c else zst2 (X 1001 i) (X 1002 i) (100 * X 1003 i + 1) c
def zrdm (X : zX) : Nat → Int → (Int → Int) → Int → Int
  | 0, _, c => c
  | k + 1, i, c => zrdm X k (i + 1) (zstm X i c)
def zrdsm (X : zX) (nb : Nat) : Nat → (Int → Int) → Int → Int
  | 0, c => c
  | k + 1, c => zrdsm X nb k (zrdm X nb 0 c)
def zcbm (c : Int → Int) : Prop := ∀ j, 0 ≤ c j ∧ c j ≤ 1000000000
theorem zst2_b {e o k : Int} {c : Int → Int} (hk : 0 ≤ k) (h : zcbm c) : zcbm (zst2 e o k c) := by
  intro j
  have h1 := h j
  have h2 := h e
  have h3 := h o
  unfold zst2
  split
  · omega
  · split <;> omega
def wBm (X : zX) (nb : Int) : Prop := nb ≤ 16 ∧ ∀ i, 0 ≤ i → i < nb → 0 ≤ X 1001 i ∧ X 1001 i < 8 ∧ 0 ≤ X 1002 i ∧ X 1002 i < 8 ∧ X 1001 i ≠ X 1002 i ∧ 1 ≤ X 1003 i ∧ X 1003 i ≤ 999
theorem zstm_b {X : zX} {i : Int} {c : Int → Int} (hk : 0 ≤ X 1003 i) (h : zcbm c) : zcbm (zstm X i c) := by
  unfold zstm
  split
  · exact h
  · exact zst2_b (by omega) h
theorem zrdm_b {X : zX} : ∀ (k : Nat) (i : Int) (c : Int → Int), (∀ j, i ≤ j → j < i + k → 0 ≤ X 1003 j) → zcbm c → zcbm (zrdm X k i c) := by
  intro k
  induction k with
  | zero => intro i c _ h; exact h
  | succ k ih => intro i c hk h; exact ih (i + 1) _ (fun j h1 h2 => hk j (by omega) (by omega)) (zstm_b (hk i (by omega) (by omega)) h)
section ZM
variable {Y : zLy} {n s : Nat} {X : zX} {G : Nat × Nat} {i j : Int}
theorem m_138 {goal rd x4 x5 v : Int} {c : Int → Int} (hM : wM Y) (hb : wBm X (X 400 0)) (hi : 0 ≤ i) (hi' : i < X 400 0) (hc : zcbm c) (hx : 0 ≤ x5 ∧ x5 ≤ 2000000000) : ev_ G 71 138 [.ref (wA Y 14 0), .int (zJ goal), .int (zJ rd), .int (zJ i), .int (zJ x4), .int (zJ x5)] [.int (zJ v), .int (zJ (X 1002 i)), .ref (wA Y 15 516)] (wd Y n s (zrf X c)) = ev_ G 71 41 [.ref (wA Y 14 0), .int (zJ goal), .int (zJ rd), .int (zJ (i + 1)), .int (zJ x4), .int (zJ x5)] [] (wd Y n s (zrf X (fun j => if j = X 1001 i then min (c (X 1001 i)) x5 else if j = X 1002 i then v else c j))) := by
  have h14 := hM.2.1
  obtain ⟨r1, r2, r3, r4, r5, r6, r7⟩ := hb.2 i hi hi'
  have hm := hb.1
  have b1 := hc (X 1001 i)
  rw [q_X12_finds_138, ms_16 hM r3 r4, t_b, zrf_u]
  simp (disch := first | assumption | omega) only [g14_16, g14_1, t_I, t_Ie, t_R, t_Re, t_N, t_Nn, t_V, t_Ve, t_b, t_x, t_w, e_0, e_1, e_2, e_3]
  rw [ml_1 hM hi (by omega), t_b, zrf_f (by decide)]
  simp (disch := first | assumption | omega) only [g14_16, g14_1, t_I, t_Ie, t_R, t_Re, t_N, t_Nn, t_V, t_Ve, t_b, t_x, t_w, e_0, e_1, e_2, e_3]
  rw [ml_16 hM r1 r2, t_b, zrf_c]
  have e1 : (if X 1001 i = X 1002 i then v else c (X 1001 i)) = c (X 1001 i) := if_neg r5
  rw [e1]
  simp (disch := first | assumption | omega) only [zJ_lt, zJ_le, zJ_eq]
  by_cases q : c (X 1001 i) ≤ x5
  · rw [if_pos q]
    simp (disch := first | assumption | omega) only [g14_16, g14_1, t_I, t_Ie, t_R, t_Re, t_N, t_Nn, t_V, t_Ve, t_b, t_x, t_w, e_0, e_1, e_2, e_3]
    rw [ms_16 hM r1 r2, t_b, zrf_u, l_1, zJ_add, show min (c (X 1001 i)) x5 = c (X 1001 i) by omega]
  · rw [if_neg q, ms_16 hM r1 r2, t_b, zrf_u, l_1, zJ_add, show min (c (X 1001 i)) x5 = x5 by omega]
theorem m_roundR {goal rd : Int} (hM : wM Y) (hb : wBm X (X 400 0)) (hn : 0 ≤ X 400 0) : ∀ (k : Nat) (i : Int) (c : Int → Int) (u v : Value), 0 ≤ i → i + k = X 400 0 → zcbm c → ∃ u' v', ev_ G 71 41 [.ref (wA Y 14 0), .int (zJ goal), .int (zJ rd), .int (zJ i), u, v] [] (wd Y n s (zrf X c)) = ev_ G 71 33 [.ref (wA Y 14 0), .int (zJ goal), .int (zJ (rd + 1)), .int (zJ (i + k)), u', v'] [] (wd Y n s (zrf X (zrdm X k i c))) := by
  have h14 := hM.2.1
  have hm := hb.1
  intro k
  induction k with
  | zero =>
    intro i c u v hi he hc
    refine ⟨u, v, ?_⟩
    rw [q_X12_finds_41]
    simp (disch := first | assumption | omega) only [g14_0, t_I, t_Ie, t_R, t_Re, t_N, t_Nn, t_V, t_Ve, t_b, t_x, t_w, e_0, e_1, e_2, e_3]
    rw [zrf_f (by decide)]
    simp (disch := first | assumption | omega) only [l_0, l_1, l_2, l_3, l_4, l_5, l_6, l_7, l_8, l_9, l_10, l_12, l_16, l_24, l_31, l_32, l_48, l_96, l_99, l_100, l_150, l_180, l_200, l_240, l_255, l_260, l_384, l_400, l_999, l_5000, l_9999, l_1000000, l_1000000000, zJ_lt, zJ_le, zJ_eq, zJ_add, zJ_sub, zJ_mul, zJ_neg]
    rw [if_pos (by omega)]
    simp only [Int.natCast_zero, Int.add_zero]
    rfl
  | succ k ih =>
    intro i c u v hi he hc
    obtain ⟨r1, r2, r3, r4, r5, r6, r7⟩ := hb.2 i hi (by omega)
    have hk : i + ((k + 1 : Nat) : Int) = i + 1 + k := by omega
    have b1 := hc (X 1001 i)
    have b2 := hc (X 1002 i)
    have hz : zrdm X (k + 1) i c = zrdm X k (i + 1) (zstm X i c) := rfl
    rw [hk, hz]
    rw [q_X12_finds_41]
    simp (disch := first | assumption | omega) only [g14_0, t_I, t_Ie, t_R, t_Re, t_N, t_Nn, t_V, t_Ve, t_b, t_x, t_w, e_0, e_1, e_2, e_3]
    rw [zrf_f (by decide)]
    simp (disch := first | assumption | omega) only [l_0, l_1, l_2, l_3, l_4, l_5, l_6, l_7, l_8, l_9, l_10, l_12, l_16, l_24, l_31, l_32, l_48, l_96, l_99, l_100, l_150, l_180, l_200, l_240, l_255, l_260, l_384, l_400, l_999, l_5000, l_9999, l_1000000, l_1000000000, zJ_lt, zJ_le, zJ_eq, zJ_add, zJ_sub, zJ_mul, zJ_neg, g14_4, t_I, t_Ie, t_R, t_Re, t_N, t_Nn, t_V, t_Ve, t_b, t_x, t_w, e_0, e_1, e_2, e_3]
    rw [if_neg (by omega), ml_4 hM hi (by omega), t_b, zrf_f (by decide)]
    by_cases q : zJ (X 1004 i) ≤ zJ 0
    · rw [if_pos q]
      have : zstm X i c = c := if_pos q
      rw [this]
      exact ih (i + 1) c u v (by omega) (by omega) hc
    · rw [if_neg q]
      have hco := m_costOf (G := G) (n := n) (s := s) (X := zrf X c) hM hi (by omega)
      rw [zrf_f (by decide)] at hco
      have L1 : zld false (wd Y n s (zrf X c)) (wA Y 15 501) (zJ i) = some (zJ (X 1001 i)) := by rw [ml_1 hM hi (by omega), zrf_f (by decide)]
      have L2 : zld false (wd Y n s (zrf X c)) (wA Y 15 502) (zJ i) = some (zJ (X 1002 i)) := by rw [ml_2 hM hi (by omega), zrf_f (by decide)]
      have L3 : zld false (wd Y n s (zrf X c)) (wA Y 15 516) (zJ (X 1001 i)) = some (zJ (c (X 1001 i))) := by rw [ml_16 hM r1 r2, zrf_c]
      have L4 : zld false (wd Y n s (zrf X c)) (wA Y 15 516) (zJ (X 1002 i)) = some (zJ (c (X 1002 i))) := by rw [ml_16 hM r3 r4, zrf_c]
      simp (disch := first | assumption | omega) only [g14_16, g14_1, g14_2, t_I, t_Ie, t_R, t_Re, t_N, t_Nn, t_V, t_Ve, t_b, t_x, t_w, e_0, e_1, e_2, e_3, L1, L2, L3, L4, k14, hco, zJ_add, zJ_sub, zJ_mul, zJ_neg, zJ_lt, zJ_le, zJ_eq]
      have hs : zstm X i c = (fun j => if j = X 1001 i then min (c (X 1001 i)) (c (X 1002 i) + (100 * X 1003 i + 1)) else if j = X 1002 i then min (c (X 1002 i)) (c (X 1001 i) + (100 * X 1003 i + 1)) else c j) := by
        unfold zstm
        rw [if_neg q]
        funext j
        unfold zst2
        rw [Int.add_comm (100 * X 1003 i + 1), Int.add_comm (100 * X 1003 i + 1)]
      have hcc := zstm_b (X := X) (i := i) (by omega) hc
      rw [hs] at hcc ⊢
      by_cases q2 : c (X 1002 i) ≤ c (X 1001 i) + (100 * X 1003 i + 1)
      · rw [if_pos q2, m_138 hM hb hi (by omega) hc (by omega)]
        rw [show min (c (X 1002 i)) (c (X 1001 i) + (100 * X 1003 i + 1)) = c (X 1002 i) by omega] at hcc ⊢
        exact ih (i + 1) _ _ _ (by omega) (by omega) hcc
      · rw [if_neg q2, m_138 hM hb hi (by omega) hc (by omega)]
        rw [show min (c (X 1002 i)) (c (X 1001 i) + (100 * X 1003 i + 1)) = c (X 1001 i) + (100 * X 1003 i + 1) by omega] at hcc ⊢
        exact ih (i + 1) _ _ _ (by omega) (by omega) hcc
theorem m_roundsR {goal : Int} (hM : wM Y) (hb : wBm X (X 400 0)) (hn : 0 ≤ X 400 0) : ∀ (k : Nat) (rd : Int) (c : Int → Int) (u v w : Value), 0 ≤ rd → rd + k = 8 → zcbm c → ev_ G 71 33 [.ref (wA Y 14 0), .int (zJ goal), .int (zJ rd), u, v, w] [] (wd Y n s (zrf X c)) = some (.inl none, wd Y n s (zrf X (zrdsm X (X 400 0).toNat k c))) := by
  intro k
  induction k with
  | zero =>
    intro rd c u v w hr he hc
    rw [q_X12_finds_33]
    simp (disch := first | assumption | omega) only [l_0, l_1, l_2, l_3, l_4, l_5, l_6, l_7, l_8, l_9, l_10, l_12, l_16, l_24, l_31, l_32, l_48, l_96, l_99, l_100, l_150, l_180, l_200, l_240, l_255, l_260, l_384, l_400, l_999, l_5000, l_9999, l_1000000, l_1000000000, zJ_lt, zJ_le, zJ_eq]
    rw [if_pos (by omega)]
    rfl
  | succ k ih =>
    intro rd c u v w hr he hc
    obtain ⟨u', v', hh⟩ := m_roundR (G := G) (n := n) (s := s) (goal := goal) (rd := rd) hM hb hn (X 400 0).toNat 0 c v w (by decide) (by omega) hc
    rw [q_X12_finds_33]
    simp (disch := first | assumption | omega) only [l_0, l_1, l_2, l_3, l_4, l_5, l_6, l_7, l_8, l_9, l_10, l_12, l_16, l_24, l_31, l_32, l_48, l_96, l_99, l_100, l_150, l_180, l_200, l_240, l_255, l_260, l_384, l_400, l_999, l_5000, l_9999, l_1000000, l_1000000000, zJ_lt, zJ_le, zJ_eq]
    rw [if_neg (by omega), hh, ih (rd + 1) _ _ _ _ (by omega) (by omega) (zrdm_b _ _ _ (fun j h1 h2 => by have := hb.2 j (by omega) (by omega); omega) hc)]
    rfl
end ZM
