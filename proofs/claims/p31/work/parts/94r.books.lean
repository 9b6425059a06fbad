/-! THE TWO SIDES, 62: what stands between two calls; a new bundle, connector, reel -/
def wS (Q : zQs) (k : Nat) (i : Int) : Prop := match k with
  | 1 => (0 ≤ i ∧ i < 5 + Q 0 2) ∨ (29 ≤ i ∧ i < 29 + Q 0 4)
  | 2 => 0 ≤ i ∧ i < Q 0 4
  | 3 => 0 ≤ i ∧ i < Q 0 0
  | 4 => 0 ≤ i ∧ i < Q 0 1
  | 5 => i = 0
  | 6 => i = 0
  | 7 => i = 0
  | 8 => i = 0
  | 9 => 0 ≤ i ∧ i < Q 0 3
  | 10 => 0 ≤ i ∧ i < 9 + Q 0 4
  | 11 => 0 ≤ i ∧ i < 8 * Q 0 4
  | 12 => 0 ≤ i ∧ i < Q 0 2
  | 13 => i = 0
  | 14 => i < 0 ∧ 0 < i
  | 15 => (0 ≤ i ∧ i < 9 + Q 0 4) ∨ (600 ≤ i ∧ i ≤ 613)
  | 16 => ((0 ≤ i ∧ i < 5 + Q 0 2) ∨ (29 ≤ i ∧ i < 29 + Q 0 4)) ∧ 0 < Q 1 i
  | _ => False
theorem wS_k {Q : zQs} {k : Nat} {i : Int} (h : 17 ≤ k) : ¬wS Q k i := by
  obtain ⟨m, rfl⟩ := Nat.exists_eq_add_of_le' h
  exact id
theorem wS_all {P : Nat → Prop} (h : ∀ k, k < 17 → k ≠ 0 → P k) (hx : ∀ k, 17 ≤ k → P k) (k : Nat) (hk : k ≠ 0) : P k := by
  rcases Nat.lt_or_ge k 17 with g | g
  · exact h k g hk
  · exact hx k g
theorem k_17 {k : Nat} (h : k < 17) (h0 : k ≠ 0) : k = 1 ∨ k = 2 ∨ k = 3 ∨ k = 4 ∨ k = 5 ∨ k = 6 ∨ k = 7 ∨ k = 8 ∨ k = 9 ∨ k = 10 ∨ k = 11 ∨ k = 12 ∨ k = 13 ∨ k = 14 ∨ k = 15 ∨ k = 16 := by omega
/-- the sizes -/
def wZq (Q : zQs) : Prop := (0 ≤ Q 0 0 ∧ Q 0 0 ≤ 16) ∧ (0 ≤ Q 0 1 ∧ Q 0 1 ≤ 8) ∧ (0 ≤ Q 0 2 ∧ Q 0 2 ≤ 24) ∧ (0 ≤ Q 0 3 ∧ Q 0 3 ≤ 12) ∧ (0 ≤ Q 0 4 ∧ Q 0 4 ≤ 12) ∧ (∀ l, 0 ≤ l → l < 41 → 0 ≤ Q 0 l ∧ Q 0 l ≤ Q 1 l ∧ Q 1 l ≤ 100) ∧ (∀ l, (5 + Q 0 2 ≤ l ∧ l < 29) ∨ (29 + Q 0 4 ≤ l ∧ l < 41) → Q 0 l = 0 ∧ Q 1 l = 0) ∧ (∀ b, 0 ≤ b → b < Q 0 4 → Q 0 (29 + b) = 8) ∧ (∀ w, 0 ≤ w → w < Q 0 2 → Q 0 (5 + w) ≤ 16)
def wY (Y : zLy) (n : Nat) : Prop := wK Y n (wS Y.2.2.2.2) ∧ wZq Y.2.2.2.2
/-- what a later layout keeps of an earlier one -/
def wle (Y : zLy) (n : Nat) (Y' : zLy) (n' : Nat) : Prop := n ≤ n' ∧ Y'.1 = Y.1 ∧ (∀ k i, k ≠ 16 → k ≠ 0 → wV Y k i → wV Y' k i ∧ wA Y' k i = wA Y k i) ∧ (∀ b, b < n → (Y.2.2.1 b).1 = 0 → Y'.2.1 b = Y.2.1 b ∧ (Y'.2.2.1 b).1 = 0)
section ZS
variable {Y Y' Y2 : zLy} {n n' n2 s : Nat} {X X' : zX} {G : Nat × Nat}
theorem wle_r : wle Y n Y n := ⟨Nat.le_refl _, rfl, fun _ _ _ _ h => ⟨h, rfl⟩, fun _ _ h => ⟨rfl, h⟩⟩
theorem wle_t {Y3 : zLy} {n3 : Nat} (h : wle Y n Y' n') (h' : wle Y' n' Y3 n3) : wle Y n Y3 n3 := by
  obtain ⟨a1, a2, a3, a4⟩ := h
  obtain ⟨b1, b2, b3, b4⟩ := h'
  refine ⟨Nat.le_trans a1 b1, b2.trans a2, fun k i h1 h2 h3 => ?_, fun a h1 h2 => ?_⟩
  · have c1 := a3 k i h1 h2 h3
    have c2 := b3 k i h1 h2 c1.1
    exact ⟨c2.1, c2.2.trans c1.2⟩
  · have c1 := a4 a h1 h2
    have c2 := b4 a (Nat.lt_of_lt_of_le h1 a1) c1.2
    exact ⟨c2.1.trans c1.1, c2.2⟩
theorem wY_st (h : wY Y n) {k : Nat} {i : Int} (hk : k ≠ 0) (hs : wS Y.2.2.2.2 k i) : wV Y k i := (h.1.2.2.1 k i hk).mpr hs
theorem wY_L (h : wY Y n) {l : Int} (hl : (0 ≤ l ∧ l < 5 + Y.2.2.2.2 0 2) ∨ (29 ≤ l ∧ l < 29 + Y.2.2.2.2 0 4)) : wLs Y l := by
  obtain ⟨q0, q1, q2, q3, q4, q5, q6⟩ := h.2
  have ql := q5 l (by omega) (by omega)
  exact ⟨wY_st h (by decide) hl, ql.1, ql.2.1, by omega, fun g => wY_st h (by decide) ⟨hl, g⟩⟩
theorem wY_F (h : wY Y n) : wF Y := by
  have hst := fun k i hk => (h.1.2.2.1 k i hk).mpr
  obtain ⟨q0, q1, q2, q3, q4, q5, q6, q7, q8⟩ := h.2
  exact ⟨h.1.1, hst 13 0 (by decide) rfl, hst 5 0 (by decide) rfl, hst 6 0 (by decide) rfl, hst 7 0 (by decide) rfl, hst 8 0 (by decide) rfl, fun r r1 r2 => ⟨hst 10 r (by decide) ⟨r1, by omega⟩, hst 15 r (by decide) (.inl ⟨r1, by omega⟩)⟩, fun l l1 l2 => wY_L h (.inl ⟨l1, by omega⟩), fun i a b => hst 3 i (by decide) ⟨a, b⟩, fun i a b => hst 4 i (by decide) ⟨a, b⟩, fun i a b => ⟨hst 12 i (by decide) ⟨a, b⟩, wY_L h (.inl ⟨by omega, by omega⟩)⟩, fun i a b => hst 9 i (by decide) ⟨a, b⟩, fun i a b => ⟨hst 2 i (by decide) ⟨a, b⟩, wY_L h (.inr ⟨by omega, by omega⟩), q7 i a b, hst 10 _ (by decide) ⟨by omega, by omega⟩, hst 15 _ (by decide) (.inl ⟨by omega, by omega⟩)⟩, fun i a b => hst 11 i (by decide) ⟨a, b⟩⟩
theorem wY_A (h : wY Y n) : wL Y := by
  have hst := fun k i hk => (h.1.2.2.1 k i hk).mpr
  exact ⟨h.1.1, fun q h1 h2 => hst 15 q (by decide) (.inr ⟨h1, h2⟩)⟩
theorem wu_k {k0 j0 : Nat} {i0 v : Int} {k j : Nat} {i : Int} (h0 : (wis k0).elem j0 = true) (h : ¬(k = k0 ∧ i = i0)) (hj : (wis k).elem j = true) : wu X ((wfx k0 j0 : Nat) : Int) i0 v ((wfx k j : Nat) : Int) i = X ((wfx k j : Nat) : Int) i := by
  refine if_neg (fun q => h ⟨?_, q.2⟩)
  exact (wfx_inj hj h0 (by exact_mod_cast q.1)).1
theorem c_roleadd {k0 : Nat} {l b : Int} {cs : List Value} (hY : wY Y n) (hG : Y.1 = G.1) (hk : (k0 = 3 ∧ l = 0 ∧ Y.2.2.2.2 0 0 < 16) ∨ (k0 = 4 ∧ l = 1 ∧ Y.2.2.2.2 0 1 < 8) ∨ (k0 = 9 ∧ l = 3 ∧ Y.2.2.2.2 0 3 < 12)) (hb : b = Y.2.2.2.2 0 l) (hX : ∀ k i j, ¬(k = k0 ∧ i = b) → (wis k).elem j = true → X' ((wfx k j : Nat) : Int) i = X ((wfx k j : Nat) : Int) i) (hX15 : ∀ f j, 500 ≤ f → X' f j = X f j) (hc : ∀ Y, wc Y X' k0 b = zEo (k0 - 1) cs) : ∃ (Y' : zLy) (n' s' : Nat), ev_ G 27 0 [.ref (wA Y 1 l), .ref n] [] (wd (yB Y n (zEo (k0 - 1) cs)) (n + 1) s X) = some (.inl (some (.int 1)), wd Y' n' s' (wu X' 20 l (X' 20 l + 1))) ∧ wY Y' n' ∧ wle Y n Y' n' ∧ n' ≤ n + 2 ∧ s ≤ s' ∧ s' ≤ s + 60 ∧ Y'.2.2.2.2 0 l = b + 1 ∧ (∀ a i, i ≠ l ∨ 2 ≤ a → Y'.2.2.2.2 a i = Y.2.2.2.2 a i) := by
  have hYK := hY
  obtain ⟨hK, hQ⟩ := hY
  obtain ⟨q0, q1, q2, q3, q4, q5, q6, q7, q8⟩ := hQ
  have hN := hK.2.1
  have hne : n ≠ Y.1 := Nat.ne_of_gt hN.2.1
  have hD : (Y.2.2.1 n).1 = 0 := hN.1 n (Nat.le_refl _)
  have hK2 : wK (yB Y n (zEo (k0 - 1) cs)) (n + 1) (wS Y.2.2.2.2) := wK_B hK (Nat.le_succ _) hne
  have hni : ¬wS Y.2.2.2.2 k0 b := by
    subst hb
    rcases hk with ⟨rfl, rfl, -⟩ | ⟨rfl, rfl, -⟩ | ⟨rfl, rfl, -⟩ <;> simp only [wS] <;> omega
  have hall : ∀ j, k0 < 15 → j < wnf k0 → (wis k0).elem j = false → False := by
    rcases hk with ⟨rfl, -⟩ | ⟨rfl, -⟩ | ⟨rfl, -⟩
    · have : ∀ j, j < 5 → (wis 3).elem j = true := by decide
      intro j _ h1 h2
      rw [this j h1] at h2
      cases h2
    · have : ∀ j, j < 5 → (wis 4).elem j = true := by decide
      intro j _ h1 h2
      rw [this j h1] at h2
      cases h2
    · have : ∀ j, j < 5 → (wis 9).elem j = true := by decide
      intro j _ h1 h2
      rw [this j h1] at h2
      cases h2
  obtain ⟨hw, hK3⟩ := wK_new (Y := yB Y n (zEo (k0 - 1) cs)) (n := n + 1) (s := s) (a := n) (k0 := k0) (i0 := b) (X := X) (X' := X') hK2 (Nat.lt_succ_self n) hne hD (by omega) hni (fun k i j h => hX k i j (fun q => hni (q.1 ▸ q.2 ▸ h))) (fun q j _ _ => hX15 _ _ (by omega)) (fun j a1 a2 a3 => absurd (hall j a1 a2 a3) id) (by omega) (by
    rw [hc]
    exact if_pos rfl)
  have hlY : wLs Y l := wY_L hYK (by omega)
  have hA3 : ∀ k i, ¬(k = k0 ∧ i = b) → wA (yR (yB Y n (zEo (k0 - 1) cs)) n k0 b) k i = wA Y k i := fun k i h => if_neg h
  have hl3 : wLs (yR (yB Y n (zEo (k0 - 1) cs)) n k0 b) l := by
    obtain ⟨l1, l2, l3, l4, l5⟩ := hlY
    exact ⟨(hK3.2.2.1 1 l (by decide)).mpr (.inl ((hK.2.2.1 1 l (by decide)).mp l1)), l2, l3, l4, fun g => (hK3.2.2.1 16 l (by decide)).mpr (.inl ((hK.2.2.1 16 l (by decide)).mp (l5 g)))⟩
  have hwl : wet Y.2.2.2.2 l (Y.2.2.2.2 0 l) = (k0, b) := by
    subst hb
    rcases hk with ⟨rfl, rfl, -⟩ | ⟨rfl, rfl, -⟩ | ⟨rfl, rfl, -⟩ <;> rfl
  have hql := q5 l (by omega) (by omega)
  obtain ⟨Y4, n4, s4, S4, e1, e2, e3, e4, e5, e6, e7, e8, e9, e10, e11, e12, e13, e14⟩ := c_add (G := G) (n := n + 1) (s := s) (X := X') (e := n) (l := l) hK3 hG hl3 (by show Y.2.2.2.2 1 l ≤ 400; omega) (fun g => by
    show 0 < Y.2.2.2.2 1 l
    rcases g with g | g
    · exact g.2
    · omega) (by
    rw [wel_t]
    show n = wA _ (wet Y.2.2.2.2 l (Y.2.2.2.2 0 l)).1 (wet Y.2.2.2.2 l (Y.2.2.2.2 0 l)).2
    rw [hwl]
    exact (if_pos ⟨rfl, rfl⟩).symm) (by
    show (fun k i => wS Y.2.2.2.2 k i ∨ (k = k0 ∧ i = b)) (wet Y.2.2.2.2 l (Y.2.2.2.2 0 l)).1 (wet Y.2.2.2.2 l (Y.2.2.2.2 0 l)).2
    rw [hwl]
    exact .inr ⟨rfl, rfl⟩)
  change _ ≤ ((s : Nat) : Int) + (Y.2.2.2.2 0 l + 10 + Y.2.2.2.2 0 l) at e6
  change ∀ a b, b ≠ l ∨ 2 ≤ a → Y4.2.2.2.2 a b = Y.2.2.2.2 a b at e10
  change Y4.2.2.2.2 0 l = Y.2.2.2.2 0 l + 1 at e11
  change Y.2.2.2.2 0 l < Y4.2.2.2.2 1 l at e12
  change Y4.2.2.2.2 1 l = Y.2.2.2.2 1 l ∨ Y4.2.2.2.2 1 l ≤ Y.2.2.2.2 0 l + 10 + Y.2.2.2.2 0 l at e13
  have ebl : Y.2.2.2.2 0 l ≤ 16 := by
    rcases hk with ⟨-, rfl, -⟩ | ⟨-, rfl, -⟩ | ⟨-, rfl, -⟩ <;> omega
  refine ⟨Y4, n4, s4, ?_, ⟨wK_S e2 (fun k i hk0 => ?_), ?_⟩, ⟨by omega, e7, fun k i h1 h2 h3 => ?_, fun a ha ha2 => ?_⟩, by omega, by omega, by omega, by omega, e10⟩
  · rw [hw, ← hA3 1 l (by omega)]
    exact e1
  · rw [e9]
    show (wS Y.2.2.2.2 k i ∨ (k = k0 ∧ i = b)) ∨ (k = 16 ∧ i = l) ↔ wS Y4.2.2.2.2 k i
    subst hb
    have f2 := e10 0 2
    have f4 := e10 0 4
    have f0 := e10 0 0
    have f1 := e10 0 1
    have f3 := e10 0 3
    have fi := e10 1 i
    rcases Nat.lt_or_ge k 17 with hk17 | hk17
    · rcases hk with ⟨rfl, rfl, -⟩ | ⟨rfl, rfl, -⟩ | ⟨rfl, rfl, -⟩
      all_goals
        replace f2 := f2 (.inl (by decide))
        replace f4 := f4 (.inl (by decide))
      · replace f1 := f1 (.inl (by decide))
        replace f3 := f3 (.inl (by decide))
        rcases k_17 hk17 hk0 with rfl | rfl | rfl | rfl | rfl | rfl | rfl | rfl | rfl | rfl | rfl | rfl | rfl | rfl | rfl | rfl <;> simp only [wS, true_and, f1, f2, f3, f4, e11] <;> by_cases hi : i = 0 <;> (try subst hi) <;> first | omega | (replace fi := fi (.inl hi); omega)
      · replace f0 := f0 (.inl (by decide))
        replace f3 := f3 (.inl (by decide))
        rcases k_17 hk17 hk0 with rfl | rfl | rfl | rfl | rfl | rfl | rfl | rfl | rfl | rfl | rfl | rfl | rfl | rfl | rfl | rfl <;> simp only [wS, true_and, f0, f2, f3, f4, e11] <;> by_cases hi : i = 1 <;> (try subst hi) <;> first | omega | (replace fi := fi (.inl hi); omega)
      · replace f0 := f0 (.inl (by decide))
        replace f1 := f1 (.inl (by decide))
        rcases k_17 hk17 hk0 with rfl | rfl | rfl | rfl | rfl | rfl | rfl | rfl | rfl | rfl | rfl | rfl | rfl | rfl | rfl | rfl <;> simp only [wS, true_and, f0, f1, f2, f4, e11] <;> by_cases hi : i = 3 <;> (try subst hi) <;> first | omega | (replace fi := fi (.inl hi); omega)
    · exact ⟨fun g => g.elim (fun g => g.elim (fun g => absurd g (wS_k hk17)) (fun g => by omega)) (fun g => by omega), fun g => absurd g (wS_k hk17)⟩
  · have f2 := e10 0 2
    have f4 := e10 0 4
    have f0 := e10 0 0
    have f1 := e10 0 1
    have f3 := e10 0 3
    have hl5 : 0 ≤ l ∧ l < 5 ∧ l ≠ 2 ∧ l ≠ 4 := by omega
    refine ⟨?_, ?_, ?_, ?_, ?_, fun l' a1 a2 => ?_, fun l' a1 => ?_, fun w a1 a2 => ?_, fun w a1 a2 => ?_⟩
    · rcases hk with ⟨rfl, rfl, g⟩ | ⟨rfl, rfl, g⟩ | ⟨rfl, rfl, g⟩
      · omega
      · have := f0 (.inl (by decide)); omega
      · have := f0 (.inl (by decide)); omega
    · rcases hk with ⟨rfl, rfl, g⟩ | ⟨rfl, rfl, g⟩ | ⟨rfl, rfl, g⟩
      · have := f1 (.inl (by decide)); omega
      · omega
      · have := f1 (.inl (by decide)); omega
    · have := f2 (.inl (by omega)); omega
    · rcases hk with ⟨rfl, rfl, g⟩ | ⟨rfl, rfl, g⟩ | ⟨rfl, rfl, g⟩
      · have := f3 (.inl (by decide)); omega
      · have := f3 (.inl (by decide)); omega
      · omega
    · have := f4 (.inl (by omega)); omega
    · by_cases hi : l' = l
      · subst hi
        have := q5 l' a1 a2
        omega
      · rw [e10 0 l' (.inl hi), e10 1 l' (.inl hi)]
        exact q5 l' a1 a2
    · rw [e10 0 2 (.inl (by omega)), e10 0 4 (.inl (by omega))] at a1
      rw [e10 0 l' (.inl (by omega)), e10 1 l' (.inl (by omega))]
      exact q6 l' a1
    · rw [e10 0 4 (.inl (by omega))] at a2
      rw [e10 0 _ (.inl (by omega))]
      exact q7 w a1 a2
    · rw [e10 0 2 (.inl (by omega))] at a2
      rw [e10 0 _ (.inl (by omega))]
      exact q8 w a1 a2
  · refine ⟨(e2.2.2.1 k i h2).mpr ((e9 k i).mpr (.inl (.inl ((hK.2.2.1 k i h2).mp h3)))), ?_⟩
    rw [e8 k i h1, hA3 k i (fun q => hni ((hK.2.2.1 k0 b (by omega)).mp (q.1 ▸ q.2 ▸ h3)))]
  · have hdn : a ≠ n := by omega
    have := e14 a (by omega) (by
      show (if a = n then (k0, b) else Y.2.2.1 a : Nat × Int).1 = 0
      rw [if_neg hdn]
      exact ha2)
    refine ⟨this.1.trans (if_neg hdn), this.2⟩
theorem c_addBundle {p q r t : Int} (hY : wY Y n) (hG : Y.1 = G.1) (h16 : Y.2.2.2.2 0 0 < 16) : ∃ (Y' : zLy) (n' s' : Nat), ev_ G 28 0 [.ref (wA Y 6 0), .int (zJ p), .int (zJ q), .int (zJ r), .int (zJ t)] [] (wd Y n s X) = some (.inl (some (.int (zJ (Y.2.2.2.2 0 0)))), wd Y' n' s' (wu (wu (wu (wu (wu (wu X 60 (Y.2.2.2.2 0 0) (Y.2.2.2.2 0 0)) 61 (Y.2.2.2.2 0 0) p) 62 (Y.2.2.2.2 0 0) q) 63 (Y.2.2.2.2 0 0) r) 64 (Y.2.2.2.2 0 0) t) 20 0 (X 20 0 + 1))) ∧ wY Y' n' ∧ wle Y n Y' n' ∧ n' ≤ n + 2 ∧ s ≤ s' ∧ s' ≤ s + 70 ∧ Y'.2.2.2.2 0 0 = Y.2.2.2.2 0 0 + 1 ∧ (∀ a i, i ≠ 0 ∨ 2 ≤ a → Y'.2.2.2.2 a i = Y.2.2.2.2 a i) := by
  have hF := wY_F hY
  have h6 : wV Y 6 0 := hF.2.2.2.1
  have h1 : wV Y 1 0 := (wY_L hY (.inl ⟨by decide, by have := hY.2.2.2.1; omega⟩)).1
  have hD : (Y.2.2.1 n).1 = 0 := hY.1.2.1.1 n (Nat.le_refl _)
  have hA : ∀ e k i, wA (yB Y n e) k i = wA Y k i := fun e k i => rfl
  have hV : ∀ e k i, wV Y k i → wV (yB Y n e) k i := fun e k i h => h
  generalize hb : Y.2.2.2.2 0 0 = b at h16 ⊢
  obtain ⟨Y', n', s', e1, e2, e3, e4, e5, e6, e7, e8⟩ := c_roleadd (Y := Y) (n := n) (s := s + 5) (X := X) (X' := wu (wu (wu (wu (wu X 60 b b) 61 b p) 62 b q) 63 b r) 64 b t) (k0 := 3) (l := 0) (b := b) (cs := [.int (zJ b), .int (zJ p), .int (zJ q), .int (zJ r), .int (zJ t)]) hY hG (.inl ⟨rfl, rfl, by omega⟩) hb.symm (fun k i j h1 h2 => by
    exact (wu_k (k0 := 3) (j0 := 4) (by decide) h1 h2).trans ((wu_k (k0 := 3) (j0 := 3) (by decide) h1 h2).trans ((wu_k (k0 := 3) (j0 := 2) (by decide) h1 h2).trans ((wu_k (k0 := 3) (j0 := 1) (by decide) h1 h2).trans (wu_k (k0 := 3) (j0 := 0) (by decide) h1 h2))))) (fun f j h => by
    rw [wu_ne (by omega), wu_ne (by omega), wu_ne (by omega), wu_ne (by omega), wu_ne (by omega)]) (fun Y0 => by
    have : ∀ X0 : zX, wc Y0 X0 3 b = zEo 2 [.int (zJ (X0 60 b)), .int (zJ (X0 61 b)), .int (zJ (X0 62 b)), .int (zJ (X0 63 b)), .int (zJ (X0 64 b))] := fun X0 => rfl
    rw [this]
    simp (disch := first | assumption | omega) only [wu_eq, wu_ne])
  have e20 : wu (wu (wu (wu (wu X 60 b b) 61 b p) 62 b q) 63 b r) 64 b t 20 0 = X 20 0 := by simp (disch := first | assumption | omega) only [wu_ne]
  rw [e20] at e1
  have hF' := wY_F e2
  have h6' : wV Y' 6 0 := hF'.2.2.2.1
  have h1' : wV Y' 1 0 := (wY_L e2 (.inl ⟨by decide, by have := e2.2.2.2.1; omega⟩)).1
  have hA6 : wA Y' 6 0 = wA Y 6 0 := (e3.2.2.1 6 0 (by decide) (by decide) h6).2
  have g' := g6_0 (n := n') (s := s') (X := wu (wu (wu (wu (wu (wu X 60 b b) 61 b p) 62 b q) 63 b r) 64 b t) 20 0 (X 20 0 + 1)) h6'
  rw [hA6] at g'
  refine ⟨Y', n', s', ?_, e2, e3, e4, by omega, by omega, e7, e8⟩
  have hi : ∀ x : Int32, ev_ G 18 0 [.ref n, .int x, .int (zJ p), .int (zJ q), .int (zJ r), .int (zJ t)] [] (wd (yB Y n (zEo 2 [.int 0, .int 0, .int 0, .int 0, .int 0])) (n + 1) (s + 5) X) = some (.inl none, wd (yB Y n (zEo 2 [.int x, .int (zJ p), .int (zJ q), .int (zJ r), .int (zJ t)])) (n + 1) (s + 5) X) := by
    intro x
    rw [q_X1_init_0, b_pt hD rfl rfl, t_b, b_pt hD rfl rfl, t_b, b_pt hD rfl rfl, t_b, b_pt hD rfl rfl, t_b, b_pt hD rfl rfl, t_b]
    rfl
  rw [q_X4_addBundle_0, g6_0 h6, t_b, show (wd Y n s X).1 = n from rfl, b_new hD, ← hA (zEo 2 [.int 0, .int 0, .int 0, .int 0, .int 0]) 6 0, g6_0 (hV _ 6 0 h6), t_b, k1 (hV _ 1 0 h1), q_Jx4a65c_size_8abf5_0, g1_2 (hV _ 1 0 h1), t_b, t_I, hi, t_V]
  have hq : (yB Y n (zEo 2 [.int 0, .int 0, .int 0, .int 0, .int 0])).2.2.2.2 0 0 = b := hb
  rw [hq]
  show zthI (zck 0 (wd (yB Y n (zEo 2 [.int (zJ b), .int (zJ p), .int (zJ q), .int (zJ r), .int (zJ t)])) (n + 1) (s + 5) X) (wA (yB Y n (zEo 2 [.int (zJ b), .int (zJ p), .int (zJ q), .int (zJ r), .int (zJ t)])) 1 0) (ev_ G 27 0 [.ref (wA Y 1 0), .ref n] [] _)) _ _ = _
  rw [k1 (hV _ 1 0 h1), e1, t_I]
  show ((zgR 5 0 _ (wA Y 6 0)).bind _) = _
  rw [g', t_b, k1 h1', q_Jx4a65c_size_8abf5_0, g1_2 h1', t_b, t_I, l_1, zJ_sub, e7, show b + 1 - 1 = b by omega]
end ZS
