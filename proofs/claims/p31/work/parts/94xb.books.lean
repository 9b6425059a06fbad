/-! THE TWO SIDES, 68b: roles behind a new board -/
theorem wS_b {Q Q' : zQs} {b : Int} {k : Nat} {i : Int} (hk : k ≠ 0) (hb : 0 ≤ b ∧ b < 12) (u0 : Q' 0 0 = Q 0 0) (u1 : Q' 0 1 = Q 0 1) (u2 : Q' 0 2 = Q 0 2) (u3 : Q' 0 3 = Q 0 3) (u4 : Q' 0 4 = b + 1) (g4 : Q 0 4 = b) (g2 : 0 ≤ Q 0 2) (y1 : ∀ i, i ≠ 4 → i ≠ 29 + b → Q' 1 i = Q 1 i) (y2 : 0 < Q' 1 4) (y3 : 0 < Q' 1 (29 + b)) : ((((((wS Q k i ∨ (k = 1 ∧ i = 29 + b)) ∨ (k = 15 ∧ i = 9 + b)) ∨ (k = 10 ∧ i = 9 + b)) ∨ (k = 11 ∧ 8 * b ≤ i ∧ i < 8 * b + 8) ∨ (k = 16 ∧ i = 29 + b ∧ (0 : Int) < 8)) ∨ (k = 2 ∧ i = b)) ∨ (k = 16 ∧ i = 4)) ↔ wS Q' k i := by
  rcases Nat.lt_or_ge k 17 with g | g
  · by_cases h16 : k = 16
    · subst h16
      simp only [wS, u4, u2, g4, true_and, Nat.reduceEqDiff, false_and, or_false]
      by_cases hi2 : i = 4
      · subst hi2
        omega
      · by_cases hiw : i = 29 + b
        · subst hiw
          omega
        · rw [y1 i hi2 hiw]
          simp only [hi2, hiw, false_and, or_false]
          omega
    · rcases k_17 g hk with rfl | rfl | rfl | rfl | rfl | rfl | rfl | rfl | rfl | rfl | rfl | rfl | rfl | rfl | rfl | rfl <;> simp only [wS, u0, u1, u3, u4, u2, g4, true_and, Nat.reduceEqDiff, false_and, or_false] <;> omega
  · constructor
    · intro h
      have : wS Q k i := by
        rcases h with (((((h | h) | h) | h) | h | h) | h) | h
        · exact h
        all_goals (exfalso; omega)
      exact absurd this (wS_k g)
    · intro h
      exact absurd h (wS_k g)
