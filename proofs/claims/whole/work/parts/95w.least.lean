/-! THE TWO SIDES, 91: the reference's enumeration is the least over divisions -/
def zdd (fs : Int) : Nat → Int → Int
  | 0, c => c % fs
  | i + 1, c => zdd fs i (c / fs)
theorem zdd_r {fs : Int} (h : 0 < fs) : ∀ (i : Nat) (c : Int), 0 ≤ zdd fs i c ∧ zdd fs i c < fs := by
  intro i
  induction i with
  | zero => intro c; exact ⟨Int.emod_nonneg c (by omega), Int.emod_lt_of_pos c h⟩
  | succ i ih => intro c; exact ih _
theorem zdg_o {fs : Int} : ∀ (m : Nat) (k rest : Int) (X : zX) (j : Int), j < k → zdg fs m k rest X 1020 j = X 1020 j := by
  intro m
  induction m with
  | zero => intro k rest X j h; rfl
  | succ m ih =>
    intro k rest X j h
    show zdg fs m _ _ _ 1020 j = _
    rw [ih _ _ _ _ (by omega)]
    exact wu_ni (show j ≠ k by omega)
theorem zdg_v {fs : Int} : ∀ (m : Nat) (k rest : Int) (X : zX) (j : Int), k ≤ j → j < k + m → zdg fs m k rest X 1020 j = zdd fs (j - k).toNat rest := by
  intro m
  induction m with
  | zero => intro k rest X j h h'; omega
  | succ m ih =>
    intro k rest X j h h'
    show zdg fs m (k + 1) (rest / fs) (wu X 1020 k (rest % fs)) 1020 j = _
    by_cases g : j = k
    · subst g
      rw [zdg_o _ _ _ _ _ (by omega), wu_eq, show (j - j).toNat = 0 by omega]
      rfl
    · rw [ih _ _ _ _ (by omega) (by omega), show (j - k).toNat = (j - (k + 1)).toNat + 1 by omega]
      rfl
def zcd (fs : Int) (d : Int → Int) : Nat → Int → Int
  | 0, _ => 0
  | m + 1, k => d k + fs * zcd fs d m (k + 1)
theorem zcd_v {fs : Int} {d : Int → Int} (hf : 0 < fs) : ∀ (m : Nat) (k : Int), (∀ j, k ≤ j → j < k + m → 0 ≤ d j ∧ d j < fs) → (0 ≤ zcd fs d m k ∧ zcd fs d m k < fs ^ m) ∧ ∀ i : Nat, i < m → zdd fs i (zcd fs d m k) = d (k + i) := by
  intro m
  induction m with
  | zero =>
    intro k h
    exact ⟨⟨Int.le_refl _, by rw [Int.pow_zero]; exact Int.zero_lt_one⟩, fun i hi => by omega⟩
  | succ m ih =>
    intro k h
    obtain ⟨⟨a1, a2⟩, a3⟩ := ih (k + 1) (fun j b c => h j (by omega) (by omega))
    have hk := h k (Int.le_refl _) (by omega)
    have e : zcd fs d (m + 1) k = d k + fs * zcd fs d m (k + 1) := rfl
    rw [e]
    have m0 := Int.mul_nonneg (Int.le_of_lt hf) a1
    have m1 : fs * zcd fs d m (k + 1) ≤ fs * (fs ^ m - 1) := Int.mul_le_mul_of_nonneg_left (by omega) (Int.le_of_lt hf)
    rw [Int.mul_sub, Int.mul_one] at m1
    have e2 : fs ^ (m + 1) = fs * fs ^ m := by rw [Int.pow_succ, Int.mul_comm]
    refine ⟨⟨by omega, by rw [e2]; omega⟩, fun i hi => ?_⟩
    cases i with
    | zero =>
      show (d k + fs * zcd fs d m (k + 1)) % fs = _
      rw [Int.add_mul_emod_self_left, Int.emod_eq_of_lt hk.1 hk.2]
      simp
    | succ i =>
      show zdd fs i ((d k + fs * zcd fs d m (k + 1)) / fs) = _
      rw [Int.add_mul_ediv_left _ _ (by omega), Int.ediv_eq_zero_of_lt hk.1 hk.2, Int.zero_add, a3 i (by omega)]
      congr 1
      omega
theorem zlo_v {fs : Int} {no : Nat} {X0 : zX} {g : Int → Int} (hG : ∀ X' : zX, (∀ f j, f ≠ 1020 → X' f j = X0 f j) → ∀ c, 0 ≤ c → zsm (zfw (zdg fs no 0 c X')) 0 fs.toNat = g c) : ∀ (k : Nat) (c b : Int) (X : zX), (∀ f j, f ≠ 1020 → X f j = X0 f j) → 0 ≤ c → (zlo fs no k c b X).1 ≤ b ∧ (∀ c', c ≤ c' → c' < c + k → (zlo fs no k c b X).1 ≤ g c') ∧ ((zlo fs no k c b X).1 = b ∨ ∃ c', c ≤ c' ∧ c' < c + k ∧ (zlo fs no k c b X).1 = g c') := by
  intro k
  induction k with
  | zero => intro c b X h hc; exact ⟨Int.le_refl _, fun c' a b => by omega, .inl rfl⟩
  | succ k ih =>
    intro c b X h hc
    have e : zlo fs no (k + 1) c b X = zlo fs no k (c + 1) (min b (zsm (zfw (zdg fs no 0 c X)) 0 fs.toNat)) (zdg fs no 0 c X) := rfl
    rw [e, hG X h c hc]
    obtain ⟨a1, a2, a3⟩ := ih (c + 1) (min b (g c)) (zdg fs no 0 c X) (fun f j hf => by rw [zdg_f _ _ _ _ _ _ hf, h f j hf]) (by omega)
    generalize (zlo fs no k (c + 1) (min b (g c)) (zdg fs no 0 c X)).1 = R at *
    refine ⟨by omega, fun c' b1 b2 => ?_, ?_⟩
    · by_cases q : c' = c
      · subst q
        omega
      · exact a2 c' (by omega) (by omega)
    · rcases a3 with a3 | ⟨c', b1, b2, b3⟩
      · by_cases q : b ≤ g c
        · exact .inl (by omega)
        · exact .inr ⟨c, by omega, by omega, by omega⟩
      · exact .inr ⟨c', by omega, by omega, b3⟩
theorem zlo_f {fs : Int} {no : Nat} : ∀ (k : Nat) (c b : Int) (X : zX) (f j : Int), f ≠ 1020 → (zlo fs no k c b X).2 f j = X f j := by
  intro k
  induction k with
  | zero => intro c b X f j h; rfl
  | succ k ih =>
    intro c b X f j h
    show (zlo fs no k (c + 1) _ (zdg fs no 0 c X)).2 f j = _
    rw [ih _ _ _ _ _ h, zdg_f _ _ _ _ _ _ h]
theorem zlo_r {fs : Int} {no : Nat} (hf : 0 < fs ∧ fs ≤ 5) : ∀ (k : Nat) (c b : Int) (X : zX), (∀ j, 0 ≤ j → j < 5 → 0 ≤ X 1020 j ∧ X 1020 j < 100) → ∀ j, 0 ≤ j → j < 5 → 0 ≤ (zlo fs no k c b X).2 1020 j ∧ (zlo fs no k c b X).2 1020 j < 100 := by
  intro k
  induction k with
  | zero => intro c b X h; exact h
  | succ k ih =>
    intro c b X h
    exact ih _ _ _ (zdg_r hf _ _ _ _ h)
theorem zor_k : ∀ a : Fin 256, zor (a.val : Int) 0 = (a.val : Int) := by decide +kernel
theorem zor_0 {a : Int} (h : 0 ≤ a ∧ a ≤ 255) : zor a 0 = a := by
  obtain ⟨x, rfl⟩ := zJ_fin h.1 256 (by omega)
  exact zor_k x
theorem zJ_nat {a : Int} (h : 0 ≤ a ∧ a ≤ 255) : (zJ a).toBitVec.toNat = a.toNat := by
  obtain ⟨x, rfl⟩ := zJ_fin h.1 256 (by omega)
  revert x
  intro x _
  exact (show ∀ x : Fin 256, (zJ (x.val : Int)).toBitVec.toNat = ((x.val : Nat) : Int).toNat by decide +kernel) x
theorem zor_r {a b : Int} (h : 0 ≤ a ∧ a ≤ 255) (h' : 0 ≤ b ∧ b ≤ 255) : 0 ≤ zor a b ∧ zor a b ≤ 255 := by
  have e : (zJ a ||| zJ b).toBitVec.toNat = a.toNat ||| b.toNat := by
    rw [Int32.toBitVec_or, BitVec.toNat_or, zJ_nat h, zJ_nat h']
  have hl : a.toNat ||| b.toNat < 2 ^ 8 := Nat.or_lt_two_pow (by omega) (by omega)
  have e2 : zor a b = ((zJ a ||| zJ b).toBitVec.toNat : Int) := by
    unfold zor
    exact BitVec.toInt_eq_toNat_of_lt (by rw [e]; omega)
  rw [e2, e]
  omega
