/-! THE TWO SIDES, 87: the cheapest ways: the rounds on both sides -/
section ZI
variable {X : zX} {nb goal : Int} {A B : Int → Int}
/-- bundles as both sides see them -/
def zbs (X : zX) (nb : Int) : Prop := ∀ i, 0 ≤ i → i < nb → (X 1001 i = X 61 i ∧ X 1002 i = X 62 i ∧ X 1003 i = X 63 i ∧ X 1004 i = X 64 i) ∧ (0 ≤ X 1001 i ∧ X 1001 i < 8 ∧ 0 ≤ X 1002 i ∧ X 1002 i < 8 ∧ X 1001 i ≠ X 1002 i ∧ 1 ≤ X 1003 i ∧ X 1003 i ≤ 999)
def zJn (X : zX) (nb goal : Int) (A B : Int → Int) : Prop := zinv X nb goal B ∧ zsim A B ∧ zcbm B
theorem zstm_J (hb : zbs X nb) (h : zJn X nb goal A B) {i : Int} (hi : 0 ≤ i ∧ i < nb) : zJn X nb goal (zst X i A) (zstm X i B) := by
  obtain ⟨⟨e1, e2, e3, e4⟩, b1, b2, b3, b4, b5, b6, b7⟩ := hb i hi.1 hi.2
  obtain ⟨h1, h2, h3⟩ := h
  unfold zst zstm
  rw [e4]
  by_cases ho : zJ (X 64 i) ≤ zJ 0
  · rw [if_pos ho, if_pos ho]
    exact ⟨h1, h2, h3⟩
  · rw [if_neg ho, if_neg ho]
    have hop : zop X i := by
      unfold zop
      rw [e4]
      exact ho
    rw [zst2_1 (by omega) b5, ← e1, ← e2, ← e3]
    have s1 := zsim_1 h1 h2 (l := X 1003 i) (u := X 1002 i) (v := X 1001 i) ⟨b6, b7⟩ ⟨b3, b4⟩ ⟨b1, b2⟩
    have i1 := zinv_1 h1 hi hop (u := X 1002 i) (v := X 1001 i) (.inr ⟨rfl, rfl⟩) ⟨b6, b7⟩ ⟨b3, b4⟩ ⟨b1, b2⟩ (Ne.symm b5) h3
    have c1 : zcbm (zst1 (X 1001 i) (X 1002 i) (100 * X 1003 i + 1) B) := by
      intro j
      have q1 := h3 j
      have q2 := h3 (X 1001 i)
      have q3 := h3 (X 1002 i)
      rw [zst1_v]
      split <;> omega
    have s2 := zsim_1 i1 s1 (l := X 1003 i) (u := X 1001 i) (v := X 1002 i) ⟨b6, b7⟩ ⟨b1, b2⟩ ⟨b3, b4⟩
    have i2 := zinv_1 i1 hi hop (u := X 1001 i) (v := X 1002 i) (.inl ⟨rfl, rfl⟩) ⟨b6, b7⟩ ⟨b1, b2⟩ ⟨b3, b4⟩ b5 c1
    refine ⟨i2, s2, fun j => ?_⟩
    have q1 := c1 j
    have q2 := c1 (X 1001 i)
    have q3 := c1 (X 1002 i)
    rw [zst1_v]
    split <;> omega
theorem zrd_J (hb : zbs X nb) : ∀ (k : Nat) (i : Int) (A B : Int → Int), zJn X nb goal A B → 0 ≤ i → i + k ≤ nb → zJn X nb goal (zrd X k i A) (zrdm X k i B) := by
  intro k
  induction k with
  | zero => intro i A B h _ _; exact h
  | succ k ih => intro i A B h h0 h1; exact ih (i + 1) _ _ (zstm_J hb h ⟨h0, by omega⟩) (by omega) (by omega)
theorem zrds_J (hb : zbs X nb) (hn : 0 ≤ nb) : ∀ (k : Nat) (A B : Int → Int), zJn X nb goal A B → zJn X nb goal (zrds X nb.toNat k A) (zrdsm X nb.toNat k B) := by
  intro k
  induction k with
  | zero => intro A B h; exact h
  | succ k ih => intro A B h; exact ih _ _ (zrd_J hb nb.toNat 0 A B h (by decide) (by omega))
theorem zstm_m {i j : Int} (hk : 0 ≤ X 1003 i) : zstm X i B j ≤ B j := by
  unfold zstm
  split
  · exact Int.le_refl _
  · unfold zst2
    by_cases h1 : j = X 1001 i
    · rw [if_pos h1, h1]; omega
    · rw [if_neg h1]
      by_cases h2 : j = X 1002 i
      · rw [if_pos h2, h2]; omega
      · rw [if_neg h2]; exact Int.le_refl _
theorem zrdm_m (hb : zbs X nb) : ∀ (k : Nat) (i : Int) (B : Int → Int) (j : Int), 0 ≤ i → i + k ≤ nb → zrdm X k i B j ≤ B j := by
  intro k
  induction k with
  | zero => intro i B j _ _; exact Int.le_refl _
  | succ k ih =>
    intro i B j h0 h1
    have e1 := ih (i + 1) (zstm X i B) j (by omega) (by omega)
    have e2 := zstm_m (X := X) (B := B) (i := i) (j := j) (by have := (hb i h0 (by omega)).2; omega)
    exact Int.le_trans e1 e2
theorem zstm_r {i u v : Int} (ho : zop X i) (he : zen X i u v) (hne : X 1001 i ≠ X 1002 i) : zstm X i B v ≤ 100 * X 1003 i + 1 + B u := by
  unfold zstm
  rw [if_neg ho]
  unfold zst2
  rcases he with ⟨h1, h2⟩ | ⟨h1, h2⟩
  · subst h1
    subst h2
    rw [if_neg (Ne.symm hne), if_pos rfl]
    omega
  · subst h1
    subst h2
    rw [if_pos rfl]
    omega
theorem zrdm_r (hb : zbs X nb) {b u v : Int} (ho : zop X b) (he : zen X b u v) : ∀ (k : Nat) (i : Int) (B : Int → Int), 0 ≤ i → i + k ≤ nb → i ≤ b → b < i + k → zrdm X k i B v ≤ 100 * X 1003 b + 1 + B u := by
  intro k
  induction k with
  | zero => intro i B _ _ h1 h2; omega
  | succ k ih =>
    intro i B h0 h1 h2 h3
    by_cases hi : b = i
    · subst hi
      have hbb := (hb b h0 (by omega)).2
      exact Int.le_trans (zrdm_m hb k (b + 1) _ v (by omega) (by omega)) (zstm_r ho he hbb.2.2.2.2.1)
    · have e1 := ih (i + 1) (zstm X i B) (by omega) (by omega) (by omega) (by omega)
      have e2 := zstm_m (X := X) (B := B) (i := i) (j := u) (by have := (hb i h0 (by omega)).2; omega)
      exact Int.le_trans e1 (by omega)
/-- no walk of at most r bundles is cheaper -/
def zle (X : zX) (nb goal : Int) (r : Nat) (B : Int → Int) : Prop := ∀ m v x, m ≤ r → zwk X nb goal m v x → B v ≤ x
theorem zle_s (hb : zbs X nb) (hn : 0 ≤ nb) {r : Nat} (h : zle X nb goal r B) : zle X nb goal (r + 1) (zrdm X nb.toNat 0 B) := by
  intro m v x hm hw
  cases m with
  | zero =>
    have := h 0 v x (Nat.zero_le _) hw
    exact Int.le_trans (zrdm_m hb nb.toNat 0 B v (by decide) (by omega)) this
  | succ m =>
    obtain ⟨i, u, y, hi, ho, he, hy, hx⟩ := hw
    have h1 := h m u y (by omega) hy
    have h2 := zrdm_r hb ho he nb.toNat 0 B (by decide) (by omega) hi.1 (by omega)
    omega
theorem zrdsm_s : ∀ (k : Nat) (B : Int → Int), zrdsm X nb.toNat (k + 1) B = zrdm X nb.toNat 0 (zrdsm X nb.toNat k B) := by
  intro k
  induction k with
  | zero => intro B; rfl
  | succ k ih => intro B; exact ih (zrdm X nb.toNat 0 B)
theorem zle_r (hb : zbs X nb) (hn : 0 ≤ nb) (h : zle X nb goal 0 B) : ∀ (k : Nat), zle X nb goal k (zrdsm X nb.toNat k B) := by
  intro k
  induction k with
  | zero => exact h
  | succ k ih =>
    rw [zrdsm_s]
    exact zle_s hb hn ih
/-- behind seven rounds nothing gets lower -/
theorem zstab (hb : zbs X nb) (h : zinv X nb goal B) (hc : zcbm B) (h7 : zle X nb goal 7 B) {i u v : Int} (hi : 0 ≤ i ∧ i < nb) (ho : zop X i) (he : zen X i u v) : B v ≤ 100 * X 1003 i + 1 + B u := by
  have hbb := (hb i hi.1 hi.2).2
  have hu : 0 ≤ u ∧ u < 8 := by
    rcases he with ⟨h1, h2⟩ | ⟨h1, h2⟩ <;> omega
  have hv : 0 ≤ v ∧ v < 8 := by
    rcases he with ⟨h1, h2⟩ | ⟨h1, h2⟩ <;> omega
  have cu := hc u
  have cv := hc v
  rcases h u hu.1 hu.2 with g | ⟨g1, g2, g3, g4⟩
  · omega
  · have hr := zrk_7 (c := B) hu
    by_cases h6 : B u % 100 ≤ 6
    · have := h7 ((B u % 100).toNat + 1) v (B u + (100 * X 1003 i + 1)) (by omega) ⟨i, u, B u, hi, ho, he, g4, rfl⟩
      omega
    · by_cases hlt : B v < B u
      · omega
      · -- two nodes aren't below u: u and v
        have huv : u ≠ v := by
          rcases he with ⟨h1, h2⟩ | ⟨h1, h2⟩ <;> omega
        have e := zsm_lt (f := fun j => if j = u then zB (B j < B u) + 1 else zB (B j < B u)) (g := fun _ => 1) (u := v) (fun j _ _ => by
          show (if j = u then zB (B j < B u) + 1 else zB (B j < B u)) ≤ 1
          by_cases hj : j = u
          · rw [if_pos hj, hj, zB_0 (by omega)]
            decide
          · rw [if_neg hj]
            exact (zB_r _).2) hv (by
          show (if v = u then zB (B v < B u) + 1 else zB (B v < B u)) + 1 ≤ 1
          rw [if_neg (Ne.symm huv), zB_0 hlt]
          decide)
        have e2 := zsm_lt (f := fun j => zB (B j < B u)) (g := fun j => if j = u then zB (B j < B u) + 1 else zB (B j < B u)) (u := u) (fun j _ _ => by
          show zB (B j < B u) ≤ (if j = u then zB (B j < B u) + 1 else zB (B j < B u))
          split <;> omega) hu (by
          show zB (B u < B u) + 1 ≤ (if u = u then zB (B u < B u) + 1 else zB (B u < B u))
          rw [if_pos rfl]
          exact Int.le_refl _)
        have e3 : zsm (fun _ => (1 : Int)) 0 8 = 8 := rfl
        unfold zrk at g2
        omega
theorem zrdm_id (hb : zbs X nb) (hs : ∀ i u v, 0 ≤ i ∧ i < nb → zop X i → zen X i u v → B v ≤ 100 * X 1003 i + 1 + B u) : ∀ (k : Nat) (i : Int), 0 ≤ i → i + k ≤ nb → zrdm X k i B = B := by
  intro k
  induction k with
  | zero => intro i _ _; rfl
  | succ k ih =>
    intro i h0 h1
    have : zstm X i B = B := by
      unfold zstm
      by_cases ho : zJ (X 1004 i) ≤ zJ 0
      · rw [if_pos ho]
      · rw [if_neg ho]
        have s1 := hs i (X 1001 i) (X 1002 i) ⟨h0, by omega⟩ ho (.inl ⟨rfl, rfl⟩)
        have s2 := hs i (X 1002 i) (X 1001 i) ⟨h0, by omega⟩ ho (.inr ⟨rfl, rfl⟩)
        funext j
        unfold zst2
        by_cases k1 : j = X 1001 i
        · rw [if_pos k1, k1]; omega
        · rw [if_neg k1]
          by_cases k2 : j = X 1002 i
          · rw [if_pos k2, k2]; omega
          · rw [if_neg k2]
    show zrdm X k (i + 1) (zstm X i B) = B
    rw [this]
    exact ih (i + 1) (by omega) (by omega)
/-- both sides' costs at the end -/
theorem zways (hb : zbs X nb) (hn : 0 ≤ nb) (hg : 0 ≤ goal ∧ goal < 8) (hc : zcbm (X 1016)) : zJn X nb goal (zcst X nb goal) (zcsm X nb goal) ∧ zle X nb goal 7 (zcsm X nb goal) ∧ (∀ i u v, 0 ≤ i ∧ i < nb → zop X i → zen X i u v → zcsm X nb goal v ≤ 100 * X 1003 i + 1 + zcsm X nb goal u) := by
  have hb0 : zcbm (zc0m X goal) := by
    intro j
    have := hc j
    unfold zc0m
    split
    · split <;> omega
    · exact this
  have m0 : zc0m X goal goal = 0 := by
    unfold zc0m
    rw [if_pos hg, if_pos rfl]
  have m1 : ∀ v, 0 ≤ v → v < 8 → v ≠ goal → zc0m X goal v = 1000000000 := by
    intro v v0 v1 hv
    unfold zc0m
    rw [if_pos ⟨v0, v1⟩, if_neg hv]
  have a0 : zc0 X goal goal = 0 := by
    unfold zc0
    rw [if_pos rfl]
  have a1 : ∀ v, 0 ≤ v → v < 8 → v ≠ goal → zc0 X goal v = 1000000 := by
    intro v v0 v1 hv
    unfold zc0
    rw [if_neg hv, if_pos ⟨v0, v1⟩]
  have hJ0 : zJn X nb goal (zc0 X goal) (zc0m X goal) := by
    refine ⟨fun v v0 v1 => ?_, fun v v0 v1 => ?_, hb0⟩
    · by_cases hv : v = goal
      · rw [hv, m0]
        refine .inr ⟨by decide, ?_, by decide, rfl, rfl⟩
        exact (zsm_B (f := fun u => zB ((zc0m X goal) u < 0)) (fun i => zB_r _) 8 0).1
      · exact .inl (m1 v v0 v1 hv)
    · by_cases hv : v = goal
      · rw [hv, m0, a0]
        rfl
      · rw [m1 v v0 v1 hv, a1 v v0 v1 hv]
        rfl
  have h7 := zrds_J hb hn 7 _ _ hJ0
  have hl7 := zle_r (goal := goal) (B := zc0m X goal) hb hn (fun m v x hm hw => by
    have : m = 0 := by omega
    subst this
    obtain ⟨rfl, rfl⟩ := hw
    rw [m0]
    exact Int.le_refl _) 7
  have hst : ∀ i u v, 0 ≤ i ∧ i < nb → zop X i → zen X i u v → zrdsm X nb.toNat 7 (zc0m X goal) v ≤ 100 * X 1003 i + 1 + zrdsm X nb.toNat 7 (zc0m X goal) u := fun i u v hi ho he => zstab hb h7.1 h7.2.2 hl7 hi ho he
  have h8 : zcsm X nb goal = zrdsm X nb.toNat 7 (zc0m X goal) := by
    unfold zcsm
    rw [zrdsm_s 7]
    exact zrdm_id hb hst nb.toNat 0 (by decide) (by omega)
  rw [h8]
  exact ⟨h7, hl7, hst⟩
end ZI
