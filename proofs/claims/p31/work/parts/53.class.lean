/-! THE TWO SIDES, 5: the class's boards and reels -/
section ZM
variable {Y : zLy} {n s : Nat} {X : zX} {G : Nat × Nat} {i j : Int}
/-- what a board's slots are -/
def wB (Y : zLy) (b : Int) : Prop := wV Y 2 b ∧ wLs Y (29 + b) ∧ Y.2.2.2.2 0 (29 + b) = 8 ∧ wV Y 10 (9 + b) ∧ wV Y 15 (9 + b) ∧ ∀ k : Int, 0 ≤ k → k < 8 → wV Y 11 (8 * b + k) ∧ wel Y (29 + b) k = wA Y 11 (8 * b + k)
theorem wF_B {b : Int} (hF : wF Y) (hb : 0 ≤ b) (hb' : b < Y.2.2.2.2 0 4) : wB Y b := by
  obtain ⟨hI, h13, h5, h6, h7, h8, hr, hl, hb_, hc, hw, hre, hbo, hs⟩ := hF
  obtain ⟨h2, hl1, hq, h10, h15⟩ := hbo b hb hb'
  refine ⟨h2, hl1, hq, h10, h15, fun k hk hk' => ⟨hs _ (by omega) (by omega), ?_⟩⟩
  unfold wel
  rw [if_neg (by omega), if_neg (by omega), if_neg (by omega), if_neg (by omega), if_neg (by omega), if_neg (by omega)]
  congr 1
  omega
theorem c_massR {b : Int} (hB : wB Y b) (hr : ∀ k, 0 ≤ k → k < 8 → -1 ≤ X 220 (8 * b + k) ∧ X 220 (8 * b + k) < 6) : ∀ (k : Nat) (i t : Int), 0 ≤ i → i + k = 8 → ev_ G 161 4 [.ref (wA Y 2 b), .int (zJ t), .int (zJ i)] [] (wd Y n s X) = some (.inl (some (.int (zJ (t + zsm (fun m => zB (X 220 (8 * b + m) ≠ -1)) i k)))), wd Y n s X) := by
  obtain ⟨h2, hl, hq, h10, h15, hs⟩ := hB
  have h1 := hl.1
  intro k
  induction k with
  | zero =>
    intro i t hi he
    rw [q_X0_mass_4]
    simp (disch := first | assumption | omega) only [g2_3, t_I, t_Ie, t_R, t_Re, t_N, t_Nn, t_V, t_Ve, t_b, t_x, t_w, e_0, e_1, e_2, e_3, k1, c_size, l_0, l_1, l_2, l_3, l_4, l_5, l_6, l_7, l_8, l_9, l_10, l_12, l_16, l_24, l_31, l_32, l_48, l_96, l_99, l_100, l_150, l_180, l_200, l_240, l_255, l_260, l_384, l_400, l_999, l_5000, l_9999, l_1000000, l_1000000000, hq, zJ_lt, zJ_le, zJ_eq]
    rw [if_pos (by omega)]
    simp only [zsm, Int.add_zero]
  | succ k ih =>
    intro i t hi he
    obtain ⟨hv, hel⟩ := hs i hi (by omega)
    have hx := hr i hi (by omega)
    have hz : zsm (fun m => zB (X 220 (8 * b + m) ≠ -1)) i (k + 1) = zB (X 220 (8 * b + i) ≠ -1) + zsm (fun m => zB (X 220 (8 * b + m) ≠ -1)) (i + 1) k := rfl
    rw [q_X0_mass_4]
    simp (disch := first | assumption | omega) only [g2_3, t_I, t_Ie, t_R, t_Re, t_N, t_Nn, t_V, t_Ve, t_b, t_x, t_w, e_0, e_1, e_2, e_3, k1, c_size, l_0, l_1, l_2, l_3, l_4, l_5, l_6, l_7, l_8, l_9, l_10, l_12, l_16, l_24, l_31, l_32, l_48, l_96, l_99, l_100, l_150, l_180, l_200, l_240, l_255, l_260, l_384, l_400, l_999, l_5000, l_9999, l_1000000, l_1000000000, hq, zJ_lt, zJ_le, zJ_eq]
    rw [if_neg (by omega), c_get hl hi (by omega), t_R, hel, hz]
    simp (disch := first | assumption | omega) only [k11, c_hasPart, t_I, t_Ie, t_R, t_Re, t_N, t_Nn, t_V, t_Ve, t_b, t_x, t_w, e_0, e_1, e_2, e_3, l_0, l_1, l_2, l_3, l_4, l_5, l_6, l_7, l_8, l_9, l_10, l_12, l_16, l_24, l_31, l_32, l_48, l_96, l_99, l_100, l_150, l_180, l_200, l_240, l_255, l_260, l_384, l_400, l_999, l_5000, l_9999, l_1000000, l_1000000000, zJ_add, zJ_sub, zJ_mul, zJ_neg]
    by_cases q : X 220 (8 * b + i) ≠ -1
    · rw [zB_1 q, e_3, ih (i + 1) _ (by omega) (by omega), Int.add_assoc]
    · rw [zB_0 q, e_2, ih (i + 1) _ (by omega) (by omega), Int.zero_add]
def zmass (X : zX) (b : Int) : Int := 2 + zsm (fun m => zB (X 220 (8 * b + m) ≠ -1)) 0 8
theorem c_mass {b : Int} (hB : wB Y b) (hr : ∀ k, 0 ≤ k → k < 8 → -1 ≤ X 220 (8 * b + k) ∧ X 220 (8 * b + k) < 6) : ev_ G 161 0 [.ref (wA Y 2 b), zU, zU] [] (wd Y n s X) = some (.inl (some (.int (zJ (zmass X b)))), wd Y n s X) := by
  rw [q_X0_mass_0, l_0, l_2, c_massR hB hr 8 0 2 (by decide) (by decide)]
  rfl
theorem c_foundR {b f : Int} (hB : wB Y b) (hr : ∀ k, 0 ≤ k → k < 8 → 0 ≤ X 223 (8 * b + k) ∧ X 223 (8 * b + k) < 6 ∧ 0 ≤ X 224 (8 * b + k) ∧ X 224 (8 * b + k) ≤ 1) (hf : 0 ≤ f ∧ f ≤ 1) : ∀ (k : Nat) (i t : Int) (u : Value), 0 ≤ i → i + k = 8 → ev_ G 180 4 [.ref (wA Y 2 b), .int (zJ f), .int (zJ t), .int (zJ i), u] [] (wd Y n s X) = some (.inl (some (.int (zJ (t + zsm (fun m => zB (X 223 (8 * b + m) ≠ 0 ∧ X 224 (8 * b + m) = f)) i k)))), wd Y n s X) := by
  obtain ⟨h2, hl, hq, h10, h15, hs⟩ := hB
  have h1 := hl.1
  intro k
  induction k with
  | zero =>
    intro i t u hi he
    rw [q_X0_faultsFound_4]
    simp (disch := first | assumption | omega) only [g2_3, t_I, t_Ie, t_R, t_Re, t_N, t_Nn, t_V, t_Ve, t_b, t_x, t_w, e_0, e_1, e_2, e_3, k1, c_size, l_0, l_1, l_2, l_3, l_4, l_5, l_6, l_7, l_8, l_9, l_10, l_12, l_16, l_24, l_31, l_32, l_48, l_96, l_99, l_100, l_150, l_180, l_200, l_240, l_255, l_260, l_384, l_400, l_999, l_5000, l_9999, l_1000000, l_1000000000, hq, zJ_lt, zJ_le, zJ_eq]
    rw [if_pos (by omega)]
    simp only [zsm, Int.add_zero]
  | succ k ih =>
    intro i t u hi he
    obtain ⟨hv, hel⟩ := hs i hi (by omega)
    have hx := hr i hi (by omega)
    have hz : zsm (fun m => zB (X 223 (8 * b + m) ≠ 0 ∧ X 224 (8 * b + m) = f)) i (k + 1) = zB (X 223 (8 * b + i) ≠ 0 ∧ X 224 (8 * b + i) = f) + zsm (fun m => zB (X 223 (8 * b + m) ≠ 0 ∧ X 224 (8 * b + m) = f)) (i + 1) k := rfl
    rw [q_X0_faultsFound_4]
    simp (disch := first | assumption | omega) only [g2_3, t_I, t_Ie, t_R, t_Re, t_N, t_Nn, t_V, t_Ve, t_b, t_x, t_w, e_0, e_1, e_2, e_3, k1, c_size, l_0, l_1, l_2, l_3, l_4, l_5, l_6, l_7, l_8, l_9, l_10, l_12, l_16, l_24, l_31, l_32, l_48, l_96, l_99, l_100, l_150, l_180, l_200, l_240, l_255, l_260, l_384, l_400, l_999, l_5000, l_9999, l_1000000, l_1000000000, hq, zJ_lt, zJ_le, zJ_eq]
    rw [if_neg (by omega), c_get hl hi (by omega), t_R, hel, hz]
    simp (disch := first | assumption | omega) only [k11, g11_3, g11_4, t_I, t_Ie, t_R, t_Re, t_N, t_Nn, t_V, t_Ve, t_b, t_x, t_w, e_0, e_1, e_2, e_3, l_0, l_1, l_2, l_3, l_4, l_5, l_6, l_7, l_8, l_9, l_10, l_12, l_16, l_24, l_31, l_32, l_48, l_96, l_99, l_100, l_150, l_180, l_200, l_240, l_255, l_260, l_384, l_400, l_999, l_5000, l_9999, l_1000000, l_1000000000, zJ_add, zJ_sub, zJ_mul, zJ_neg, zJ_lt, zJ_le, zJ_eq]
    by_cases q : X 223 (8 * b + i) = 0
    · rw [if_pos q, zB_0 (fun w => w.1 q), ih (i + 1) _ _ (by omega) (by omega), Int.zero_add]
    · rw [if_neg q]
      by_cases q' : X 224 (8 * b + i) = f
      · rw [if_pos q', zB_1 ⟨q, q'⟩, ih (i + 1) _ _ (by omega) (by omega), Int.add_assoc]
      · rw [if_neg q', zB_0 (fun w => q' w.2), ih (i + 1) _ _ (by omega) (by omega), Int.zero_add]
def zfnd (X : zX) (b f : Int) : Int := zsm (fun m => zB (X 223 (8 * b + m) ≠ 0 ∧ X 224 (8 * b + m) = f)) 0 8
theorem c_found {b f : Int} (hB : wB Y b) (hr : ∀ k, 0 ≤ k → k < 8 → 0 ≤ X 223 (8 * b + k) ∧ X 223 (8 * b + k) < 6 ∧ 0 ≤ X 224 (8 * b + k) ∧ X 224 (8 * b + k) ≤ 1) (hf : 0 ≤ f ∧ f ≤ 1) : ev_ G 180 0 [.ref (wA Y 2 b), .int (zJ f), zU, zU, zU] [] (wd Y n s X) = some (.inl (some (.int (zJ (zfnd X b f)))), wd Y n s X) := by
  rw [q_X0_faultsFound_0, l_0, c_foundR hB hr hf 8 0 0 zU (by decide) (by decide), Int.zero_add]
  rfl
/-- the slots' faults found under the covered slots -/
def zff (X : zX) (b c i : Int) : zX := fun f j => if f = 224 ∧ 8 * b + i ≤ j ∧ j < 8 * b + 8 ∧ zbt c (j - 8 * b) = true ∧ X 223 j ≠ 0 then 1 else X f j
theorem c_testR {b c : Int} (hI : wI Y) (hB : wB Y b) : ∀ (k : Nat) (i : Int) (u : Value) (X : zX), 0 ≤ i → i + k = 8 → (∀ k, 0 ≤ k → k < 8 → 0 ≤ X 223 (8 * b + k) ∧ X 223 (8 * b + k) < 6) → ev_ G 179 7 [.ref (wA Y 2 b), .int (zJ c), .int (zJ i), u] [] (wd Y n s X) = some (.inl none, wd Y n s (zff X b c i)) := by
  obtain ⟨h2, hl, hq, h10, h15, hs⟩ := hB
  have h1 := hl.1
  intro k
  induction k with
  | zero =>
    intro i u X hi he hr
    rw [q_X0_findFaults_7]
    simp (disch := first | assumption | omega) only [g2_3, t_I, t_Ie, t_R, t_Re, t_N, t_Nn, t_V, t_Ve, t_b, t_x, t_w, e_0, e_1, e_2, e_3, k1, c_size, l_0, l_1, l_2, l_3, l_4, l_5, l_6, l_7, l_8, l_9, l_10, l_12, l_16, l_24, l_31, l_32, l_48, l_96, l_99, l_100, l_150, l_180, l_200, l_240, l_255, l_260, l_384, l_400, l_999, l_5000, l_9999, l_1000000, l_1000000000, hq, zJ_lt, zJ_le, zJ_eq]
    rw [if_pos (by omega)]
    congr 3
    funext f j
    unfold zff
    rw [if_neg (by omega)]
  | succ k ih =>
    intro i u X hi he hr
    obtain ⟨hv, hel⟩ := hs i hi (by omega)
    have hx := hr i hi (by omega)
    rw [q_X0_findFaults_7]
    simp only [t_0, t_1]
    simp (disch := first | assumption | omega) only [g2_3, t_I, t_Ie, t_R, t_Re, t_N, t_Nn, t_V, t_Ve, t_b, t_x, t_w, e_0, e_1, e_2, e_3, k1, c_size, l_0, l_1, l_2, l_3, l_4, l_5, l_6, l_7, l_8, l_9, l_10, l_12, l_16, l_24, l_31, l_32, l_48, l_96, l_99, l_100, l_150, l_180, l_200, l_240, l_255, l_260, l_384, l_400, l_999, l_5000, l_9999, l_1000000, l_1000000000, hq, zJ_lt, zJ_le, zJ_eq]
    rw [if_neg (by omega), c_get hl hi (by omega), t_R, hel]
    simp (disch := first | assumption | omega) only [k11, g11_3, p11_4, t_I, t_Ie, t_R, t_Re, t_N, t_Nn, t_V, t_Ve, t_b, t_x, t_w, e_0, e_1, e_2, e_3, l_0, l_1, l_2, l_3, l_4, l_5, l_6, l_7, l_8, l_9, l_10, l_12, l_16, l_24, l_31, l_32, l_48, l_96, l_99, l_100, l_150, l_180, l_200, l_240, l_255, l_260, l_384, l_400, l_999, l_5000, l_9999, l_1000000, l_1000000000, zJ_add, zJ_sub, zJ_mul, zJ_neg, zJ_lt, zJ_le, zJ_eq, zbt_e]
    by_cases q : zbt c i = false
    · rw [if_pos q, ih (i + 1) _ X (by omega) (by omega) hr]
      congr 3
      funext f j
      unfold zff
      by_cases e : j = 8 * b + i
      · have e2 : j - 8 * b = i := by omega
        rw [if_neg (by omega), if_neg]
        rintro ⟨-, -, -, q2, -⟩
        rw [e2, q] at q2
        exact absurd q2 (by decide)
      · have : (8 * b + (i + 1) ≤ j) = (8 * b + i ≤ j) := propext (by omega)
        simp only [this]
    · rw [if_neg q]
      by_cases q' : X 223 (8 * b + i) = 0
      · rw [if_pos q', ih (i + 1) _ X (by omega) (by omega) hr]
        congr 3
        funext f j
        unfold zff
        by_cases e : j = 8 * b + i
        · rw [if_neg (by omega), if_neg]
          rintro ⟨-, -, -, -, q2⟩
          rw [e] at q2
          exact q2 q'
        · have : (8 * b + (i + 1) ≤ j) = (8 * b + i ≤ j) := propext (by omega)
          simp only [this]
      · rw [if_neg q', ih (i + 1) _ _ (by omega) (by omega) (fun k h h' => by unfold wu; rw [if_neg (by omega)]; exact hr k h h')]
        congr 3
        funext f j
        unfold zff wu
        by_cases e : j = 8 * b + i
        · subst e
          have e2 : 8 * b + i - 8 * b = i := by omega
          rw [if_neg (by omega)]
          by_cases e3 : f = 224
          · rw [if_pos ⟨e3, rfl⟩, if_pos]
            refine ⟨e3, by omega, by omega, ?_, q'⟩
            rw [e2]
            simpa using q
          · rw [if_neg (fun w => e3 w.1), if_neg (fun w => e3 w.1)]
        · have : (8 * b + (i + 1) ≤ j) = (8 * b + i ≤ j) := propext (by omega)
          simp only [this]
          rw [if_neg (show ¬(f = 224 ∧ j = 8 * b + i) from fun w => e w.2)]
          simp only [if_neg (show ¬((223 : Int) = 224 ∧ j = 8 * b + i) by omega)]
theorem c_hasOfR {b r : Int} (hB : wB Y b) (hr : ∀ k, 0 ≤ k → k < 8 → -1 ≤ X 221 (8 * b + k) ∧ X 221 (8 * b + k) < 100) (hf : 0 ≤ r ∧ r < 100) : ∀ (k : Nat) (i : Int), 0 ≤ i → i + k = 8 → ev_ G 201 2 [.ref (wA Y 2 b), .int (zJ r), .int (zJ i)] [] (wd Y n s X) = some (.inl (some (.int (zJ (zB (0 < zsm (fun m => zB (X 221 (8 * b + m) = r)) i k))))), wd Y n s X) := by
  obtain ⟨h2, hl, hq, h10, h15, hs⟩ := hB
  have h1 := hl.1
  have hp : ∀ (k : Nat) (i : Int), 0 ≤ zsm (fun m => zB (X 221 (8 * b + m) = r)) i k := by
    intro k
    induction k with
    | zero => intro i; exact Int.le_refl _
    | succ k ih =>
      intro i
      have := ih (i + 1)
      show 0 ≤ zB _ + zsm _ _ _
      unfold zB at *
      split <;> omega
  intro k
  induction k with
  | zero =>
    intro i hi he
    rw [q_X0_hasPartOf_2]
    simp only [t_0, t_1]
    simp (disch := first | assumption | omega) only [g2_3, t_I, t_Ie, t_R, t_Re, t_N, t_Nn, t_V, t_Ve, t_b, t_x, t_w, e_0, e_1, e_2, e_3, k1, c_size, l_0, l_1, l_2, l_3, l_4, l_5, l_6, l_7, l_8, l_9, l_10, l_12, l_16, l_24, l_31, l_32, l_48, l_96, l_99, l_100, l_150, l_180, l_200, l_240, l_255, l_260, l_384, l_400, l_999, l_5000, l_9999, l_1000000, l_1000000000, hq, zJ_lt, zJ_le, zJ_eq]
    rw [if_pos (by omega)]
    rfl
  | succ k ih =>
    intro i hi he
    obtain ⟨hv, hel⟩ := hs i hi (by omega)
    have hx := hr i hi (by omega)
    have hz : zsm (fun m => zB (X 221 (8 * b + m) = r)) i (k + 1) = zB (X 221 (8 * b + i) = r) + zsm (fun m => zB (X 221 (8 * b + m) = r)) (i + 1) k := rfl
    have hp' := hp k (i + 1)
    rw [q_X0_hasPartOf_2]
    simp only [t_0, t_1]
    simp (disch := first | assumption | omega) only [g2_3, t_I, t_Ie, t_R, t_Re, t_N, t_Nn, t_V, t_Ve, t_b, t_x, t_w, e_0, e_1, e_2, e_3, k1, c_size, l_0, l_1, l_2, l_3, l_4, l_5, l_6, l_7, l_8, l_9, l_10, l_12, l_16, l_24, l_31, l_32, l_48, l_96, l_99, l_100, l_150, l_180, l_200, l_240, l_255, l_260, l_384, l_400, l_999, l_5000, l_9999, l_1000000, l_1000000000, hq, zJ_lt, zJ_le, zJ_eq]
    rw [if_neg (by omega), c_get hl hi (by omega), t_R, hel, hz]
    simp (disch := first | assumption | omega) only [k11, g11_1, t_I, t_Ie, t_R, t_Re, t_N, t_Nn, t_V, t_Ve, t_b, t_x, t_w, e_0, e_1, e_2, e_3, l_0, l_1, l_2, l_3, l_4, l_5, l_6, l_7, l_8, l_9, l_10, l_12, l_16, l_24, l_31, l_32, l_48, l_96, l_99, l_100, l_150, l_180, l_200, l_240, l_255, l_260, l_384, l_400, l_999, l_5000, l_9999, l_1000000, l_1000000000, zJ_add, zJ_sub, zJ_mul, zJ_neg, zJ_lt, zJ_le, zJ_eq]
    by_cases q : X 221 (8 * b + i) = r
    · rw [if_pos q, zB_1 (p := X 221 (8 * b + i) = r) q, zB_1 (by omega)]
    · rw [if_neg q, ih (i + 1) (by omega) (by omega), zB_0 (p := X 221 (8 * b + i) = r) q, Int.zero_add]
end ZM
