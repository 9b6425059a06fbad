/-! THE TWO SIDES, 69: a new board -/
def zslot (b i : Int) (X : zX) : zX := wu (wu (wu (wu (wu (wu (wu (wu X 220 (8 * b + i) (-1)) 221 (8 * b + i) (-1)) 222 (8 * b + i) (-1)) 223 (8 * b + i) 0) 224 (8 * b + i) 0) 225 (8 * b + i) 0) 226 (8 * b + i) 0) 227 (8 * b + i) 0
def zslots (b : Int) : Nat → Int → zX → zX
  | 0, _, X => X
  | k + 1, i, X => zslots b k (i + 1) (wu (zslot b i X) 20 (29 + b) (X 20 (29 + b) + 1))
section ZS
variable {Y Y' Y2 : zLy} {n n' n2 s : Nat} {X X' : zX} {G : Nat × Nat}
theorem c_slots {b : Int} {a0 p q : Nat} {S0 : Nat → Int → Prop} (hb : 0 ≤ b ∧ b < 12) (hs1 : S0 1 (29 + b)) (hs11 : ∀ j, 8 * b ≤ j → j < 8 * b + 8 → ¬S0 11 j) (hs16 : ¬S0 16 (29 + b)) : ∀ (k : Nat) (i : Int) (Y : zLy) (n s : Nat) (X : zX), i + k = 8 → 0 ≤ i → wK Y n (fun k j => S0 k j ∨ (k = 11 ∧ 8 * b ≤ j ∧ j < 8 * b + i) ∨ (k = 16 ∧ j = 29 + b ∧ 0 < i)) → Y.1 = G.1 → (Y.2.2.1 a0).1 = 0 → a0 < n → Y.2.1 a0 = some (zEo 1 [.int 0, .int 0, .int 0, .ref p, .ref q]) → wA Y 1 (29 + b) = p → Y.2.2.2.2 0 (29 + b) = i → 0 ≤ Y.2.2.2.2 1 (29 + b) → i ≤ Y.2.2.2.2 1 (29 + b) → (0 < i → 0 < Y.2.2.2.2 1 (29 + b)) → (i = 0 → Y.2.2.2.2 1 (29 + b) = 0) → Y.2.2.2.2 1 (29 + b) ≤ 100 → ∃ (Y' : zLy) (n' s' : Nat), ev_ G 142 29 [.ref a0, .int (zJ i)] [] (wd Y n s X) = some (.inl none, wd Y' n' s' (zslots b k i X)) ∧ wK Y' n' (fun k j => S0 k j ∨ (k = 11 ∧ 8 * b ≤ j ∧ j < 8 * b + 8) ∨ (k = 16 ∧ j = 29 + b ∧ (0 : Int) < 8)) ∧ wle Y n Y' n' ∧ n' ≤ n + 2 * k ∧ s ≤ s' ∧ s' ≤ s + 40 * k ∧ (∀ a j, j ≠ 29 + b ∨ 2 ≤ a → Y'.2.2.2.2 a j = Y.2.2.2.2 a j) ∧ Y'.2.2.2.2 0 (29 + b) = 8 ∧ 8 ≤ Y'.2.2.2.2 1 (29 + b) ∧ Y'.2.2.2.2 1 (29 + b) ≤ 100 := by
  intro k
  induction k with
  | zero =>
    intro i Y n s X hi h0 hK hG hD ha hB hp q0 q1 q2 q3 q4 q5
    have hi8 : i = 8 := by omega
    subst hi8
    refine ⟨Y, n, s, ?_, hK, wle_r, by omega, by omega, by omega, fun _ _ _ => rfl, q0, q2, q5⟩
    rw [q_X0_init_29]
    exact if_pos (by decide)
  | succ k ih =>
    intro i Y n s X hi h0 hK hG hD ha hB hp q0 q1 q2 q3 q4 q5
    have hL : wLs Y (29 + b) := ⟨(hK.2.2.1 1 _ (by decide)).mpr (.inl hs1), by omega, by omega, by omega, fun g => (hK.2.2.1 16 _ (by decide)).mpr (.inr (.inr ⟨rfl, rfl, by
      rcases Int.lt_or_le 0 i with g2 | g2
      · exact g2
      · have := q4 (by omega)
        omega⟩))⟩
    obtain ⟨Y1, n1, s1, S1, c1, c2, c3, c4, c5, c6, c7, c8, c9, c10, c11⟩ := c_newSlot (G := G) (n := n) (s := s) (X := X) (b := b) (i := i) hK hG hb ⟨h0, by omega⟩ (fun g => by
      rcases g with g | g | g
      · exact hs11 _ (by omega) (by omega) g
      · omega
      · exact absurd g.1 (by decide)) hL q0 q5 (fun g => by
      rcases g with g | g | g
      · exact absurd g hs16
      · exact absurd g.1 (by decide)
      · exact q3 g.2.2) (X' := zslot b i X) rfl
    have w4 := c3.2.2.2 a0 ha hD
    have w3 := c3.2.2.1 1 (29 + b) (by decide) (by decide) hL.1
    obtain ⟨Y2, n2, s2, d1, d2, d3, d4, d5, d6, d7, d8, d9, d10⟩ := ih (i + 1) Y1 n1 s1 (wu (zslot b i X) 20 (29 + b) (X 20 (29 + b) + 1)) (by omega) (by omega) (wK_S c2 (fun k j hk => by
      rw [c7]
      constructor
      · rintro (((h | h | h) | h) | h)
        · exact .inl h
        · exact .inr (.inl (by omega))
        · exact .inr (.inr (by omega))
        · exact .inr (.inl (by omega))
        · exact .inr (.inr (by omega))
      · rintro (h | h | h)
        · exact .inl (.inl (.inl h))
        · by_cases hj : j = 8 * b + i
          · exact .inl (.inr ⟨h.1, hj⟩)
          · exact .inl (.inl (.inr (.inl (by omega))))
        · exact .inr (by omega))) (by rw [c3.2.1]; exact hG) w4.2 (Nat.lt_of_lt_of_le ha c3.1) (w4.1.trans hB) (w3.2.trans hp) c9 (by omega) (by omega) (by omega) (by omega) c11
    refine ⟨Y2, n2, s2, ?_, d2, wle_t c3 d3, by omega, by omega, by omega, fun a j g => (d7 a j g).trans (c8 a j g), d8, d9, d10⟩
    have hlt : ¬(8 : Int32) ≤ zJ i := by
      rw [l_8, zJ_le (by omega) (by omega) (by omega) (by omega)]
      omega
    rw [q_X0_init_29, if_neg hlt, b_gR2 hD hB rfl, t_b, ← hp]
    refine (c1 (fun W4 => ev_ G 142 29 [.ref a0, .int (zJ i + 1)] [] W4)).trans ?_
    show ev_ G 142 29 [.ref a0, .int (zJ i + 1)] [] _ = _
    rw [l_1, zJ_add]
    exact d1
theorem c_boardR {b : Int} {X1 X2 X3 X4 : zX} (hY : wY Y n) (hG : Y.1 = G.1) (hb0 : Y.2.2.2.2 0 4 = b) (hb : b < 12) (h1 : wu X 20 (29 + b) 0 = X1) (h2 : zz X1 (9 + b) = X2) (h3 : zslots b 8 0 X2 = X3) (h4 : wu (wu (wu X3 40 b 0) 41 b 0) 42 b 0 = X4) : ∃ (Y' : zLy) (n' s' : Nat), ev_ G 143 17 [.ref (wA Y 13 0)] [.int (zJ 1)] (wd Y n s X) = some (.inl (some (.int (zJ b))), wd Y' n' s' (wu X4 20 4 (X4 20 4 + 1))) ∧ wY Y' n' ∧ wle Y n Y' n' ∧ n' ≤ n + 25 ∧ s ≤ s' ∧ s' ≤ s + 450 ∧ Y'.2.2.2.2 0 4 = b + 1 ∧ Y'.2.2.2.2 0 (29 + b) = 8 ∧ (∀ a i, (i ≠ 29 + b ∧ i ≠ 4) ∨ 2 ≤ a → Y'.2.2.2.2 a i = Y.2.2.2.2 a i) := by
  have hF := wY_F hY
  obtain ⟨hK, hQ⟩ := id hY
  obtain ⟨q0, q1, q2, q3, q4, q5, q6, q7, q8⟩ := hQ
  have hN := hK.2.1
  have hb1 : 0 ≤ b := by omega
  have hD : (Y.2.2.1 n).1 = 0 := hN.1 n (Nat.le_refl _)
  have hne : n ≠ Y.1 := Nat.ne_of_gt hN.2.1
  have u6 := q6 (29 + b) (.inr ⟨by omega, by omega⟩)
  have h13 := hF.2.1
  have hl4 := hF.2.2.2.2.2.2.2.1 4 (by decide) (by decide)
  -- the board, raw
  have hK0 : wK (yB Y n (zEo 1 [.int 0, .int 0, .int 0, .null, .null])) (n + 1) (wS Y.2.2.2.2) := wK_B hK (Nat.le_succ _) hne
  obtain ⟨Y1, a1, a2, a3, a4, a5⟩ := c_newList (G := G) (Y := yB Y n (zEo 1 [.int 0, .int 0, .int 0, .null, .null])) (n := n + 1) (s := s + 5) (X := X) (l := 29 + b) hK0 hG (fun g => by
    simp only [wS] at g
    omega) u6.1 u6.2
  have b1 := a4.2.2.2 n (Nat.lt_succ_self n) hD
  have b1' : Y1.2.1 n = some (zEo 1 [.int 0, .int 0, .int 0, .null, .null]) := b1.1.trans yB_b
  have hne1 : n ≠ Y1.1 := by rw [a4.2.1]; exact hne
  have hK2 : wK (yB Y1 n (zEo 1 [.int 0, .int 0, .int 0, .ref (n + 1), .null])) (n + 1 + 1) (fun k i => wS Y.2.2.2.2 k i ∨ (k = 1 ∧ i = 29 + b)) := wK_B a2 (Nat.le_refl _) hne1
  obtain ⟨Y3, c1, c2, c3, c4, c5⟩ := c_newRow (G := G) (Y := yB Y1 n (zEo 1 [.int 0, .int 0, .int 0, .ref (n + 1), .null])) (n := n + 1 + 1) (s := s + 5 + 3) (X := wu X 20 (29 + b) 0) (r := 9 + b) (m := 4) hK2 (by omega) (wln_b hb1 hb).1 (wln_b hb1 hb).2 (fun g => by
    simp only [wS] at g
    omega) (fun g => by
    simp only [wS] at g
    omega)
  have b3 := c4.2.2.2 n (by omega) b1.2
  have b3' : Y3.2.1 n = some (zEo 1 [.int 0, .int 0, .int 0, .ref (n + 1), .null]) := b3.1.trans yB_b
  have e31 : Y3.1 = Y.1 := by rw [c4.2.1]; exact a4.2.1
  have hne3 : n ≠ Y3.1 := by rw [e31]; exact hne
  have e5Q : Y3.2.2.2.2 = Y.2.2.2.2 := by rw [c5]; exact a5
  have hK4 : wK (yB Y3 n (zEo 1 [.int 0, .int 0, .int 0, .ref (n + 1), .ref (n + 1 + 1)])) (n + 1 + 1 + 2) (fun k i => ((wS Y.2.2.2.2 k i ∨ (k = 1 ∧ i = 29 + b)) ∨ (k = 15 ∧ i = 9 + b)) ∨ (k = 10 ∧ i = 9 + b)) := wK_B c2 (Nat.le_refl _) hne3
  have hA1 : wA Y3 1 (29 + b) = n + 1 := ((c4.2.2.1 1 (29 + b) (by decide) (by decide) ((a2.2.2.1 1 _ (by decide)).mpr (.inr ⟨rfl, rfl⟩))).2).trans a3
  obtain ⟨Y5, n5, s5, d1, d2, d3, d4, d5, d6, d7, d8, d9, d10⟩ := c_slots (G := G) (b := b) (a0 := n) (p := n + 1) (q := n + 1 + 1) (S0 := fun k i => ((wS Y.2.2.2.2 k i ∨ (k = 1 ∧ i = 29 + b)) ∨ (k = 15 ∧ i = 9 + b)) ∨ (k = 10 ∧ i = 9 + b)) ⟨hb1, hb⟩ (.inl (.inl (.inr ⟨rfl, rfl⟩))) (fun j j1 j2 g => by
    simp only [wS] at g
    omega) (fun g => by
    simp only [wS] at g
    omega) 8 0 (yB Y3 n (zEo 1 [.int 0, .int 0, .int 0, .ref (n + 1), .ref (n + 1 + 1)])) (n + 1 + 1 + 2) (s + 5 + 3 + 1 + 4) (zz (wu X 20 (29 + b) 0) (9 + b)) (by decide) (by decide) (wK_S hK4 (fun k i _ => ⟨fun g => .inl g, fun g => by
      rcases g with g | g | g
      · exact g
      · omega
      · omega⟩)) (by
    show Y3.1 = G.1
    rw [e31]; exact hG) b3.2 (by omega) yB_b hA1 (by
    show Y3.2.2.2.2 0 (29 + b) = 0
    rw [e5Q]; exact u6.1) (by
    show 0 ≤ Y3.2.2.2.2 1 (29 + b)
    rw [e5Q, u6.2]; decide) (by
    show 0 ≤ Y3.2.2.2.2 1 (29 + b)
    rw [e5Q, u6.2]; decide) (fun g => absurd g (by decide)) (fun _ => by
    show Y3.2.2.2.2 1 (29 + b) = 0
    rw [e5Q]; exact u6.2) (by
    show Y3.2.2.2.2 1 (29 + b) ≤ 100
    rw [e5Q, u6.2]; decide)
  rw [h1, h2, h3] at d1
  have d7 : ∀ a j, j ≠ 29 + b ∨ 2 ≤ a → Y5.2.2.2.2 a j = Y.2.2.2.2 a j := fun a j g => (d7 a j g).trans (by
    show Y3.2.2.2.2 a j = _
    rw [e5Q])
  have b5 := d3.2.2.2 n (by omega) b3.2
  have b5' : Y5.2.1 n = some (zEo 1 [.int 0, .int 0, .int 0, .ref (n + 1), .ref (n + 1 + 1)]) := b5.1.trans yB_b
  have e51 : Y5.1 = Y.1 := by rw [d3.2.1]; exact e31
  have hA51 : wA Y5 1 (29 + b) = n + 1 := ((d3.2.2.1 1 (29 + b) (by decide) (by decide) ((hK4.2.2.1 1 _ (by decide)).mpr (.inl (.inl (.inr ⟨rfl, rfl⟩))))).2).trans hA1
  have hA510 : wA Y5 10 (9 + b) = n + 1 + 1 := ((d3.2.2.1 10 (9 + b) (by decide) (by decide) ((hK4.2.2.1 10 _ (by decide)).mpr (.inr ⟨rfl, rfl⟩))).2).trans c3
  have n5n : n < n5 := Nat.lt_of_lt_of_le (by omega) d3.1
  obtain ⟨w6, hK6⟩ := wK_new (Y := Y5) (n := n5) (s := s5) (a := n) (k0 := 2) (i0 := b) (X := X3) (X' := X4) d2 n5n (by rw [e51]; exact hne) b5.2 (by decide) (fun g => by
    simp only [wS] at g
    omega) (fun k i j g1 g2 => by
    have g3 : ¬(k = 2 ∧ i = b) := fun g => by
      obtain ⟨rfl, rfl⟩ := g
      simp only [wS] at g1
      omega
    rw [← h4]
    exact (wu_k (k0 := 2) (j0 := 2) (by decide) g3 g2).trans ((wu_k (k0 := 2) (j0 := 1) (by decide) g3 g2).trans (wu_k (k0 := 2) (j0 := 0) (by decide) g3 g2))) (fun q j _ _ => by
    rw [← h4, wu_ne (by omega), wu_ne (by omega), wu_ne (by omega)]) (fun j g1 g2 g3 g4 g5 => by
    have h3 : ∀ j, j < 5 → (wis 2).elem j = false → j = 3 ∨ j = 4 := by decide
    rcases h3 j g2 g3 with h | h
    · subst h
      exact .inl (.inl (.inl (.inr ⟨rfl, rfl⟩)))
    · subst h
      exact .inl (.inr ⟨rfl, rfl⟩)) (by decide) (by
    rw [b5']
    have : ∀ (Y0 : zLy) (X0 : zX), wc Y0 X0 2 b = zEo 1 [.int (zJ (X0 40 b)), .int (zJ (X0 41 b)), .int (zJ (X0 42 b)), .ref (wA Y0 1 (29 + b)), .ref (wA Y0 10 (9 + b))] := fun _ _ => rfl
    rw [this, yR_A (fun g => absurd g.1 (by decide)), yR_A (fun g => absurd g.1 (by decide)), hA51, hA510, ← h4]
    simp (disch := first | assumption | omega) only [wu_eq, wu_ne]
    rfl)
  have y6Q : (yR Y5 n 2 b).2.2.2.2 = Y5.2.2.2.2 := rfl
  have z4 := d7 0 4 (.inl (by omega))
  have z41 := d7 1 4 (.inl (by omega))
  have hl6 : wLs (yR Y5 n 2 b) 4 := by
    obtain ⟨l1, l2, l3, l4, l5⟩ := hl4
    unfold wLs
    rw [y6Q, z4, z41]
    exact ⟨(hK6.2.2.1 1 4 (by decide)).mpr (.inl (.inl (.inl (.inl (.inl ((hK.2.2.1 1 4 (by decide)).mp l1)))))), l2, l3, l4, fun g => (hK6.2.2.1 16 4 (by decide)).mpr (.inl (.inl (.inl (.inl (.inl ((hK.2.2.1 16 4 (by decide)).mp (l5 g)))))))⟩
  have hwt : wet (yR Y5 n 2 b).2.2.2.2 4 ((yR Y5 n 2 b).2.2.2.2 0 4) = (2, b) := by
    rw [y6Q, z4, hb0]
    rfl
  have hq5 := q5 4 (by decide) (by decide)
  obtain ⟨Y7, n7, s7, S7, f1, f2, f3, f4, f5, f6, f7, f8, f9, f10, f11, f12, f13, f14⟩ := c_add (G := G) (n := n5) (s := s5) (X := X4) (e := n) (l := 4) hK6 (by
    show Y5.1 = G.1
    rw [e51]; exact hG) hl6 (by rw [y6Q, z41]; omega) (fun g => by
    rw [y6Q, z41]
    simp only [wS] at g
    omega) (by
    rw [wel_t, hwt]
    exact (if_pos ⟨rfl, rfl⟩).symm) (by
    rw [hwt]
    exact .inr ⟨rfl, rfl⟩)
  rw [y6Q, z4, hb0] at f6 f11 f12 f13
  rw [z41] at f13
  have y7 : ∀ a i, (i ≠ 29 + b ∧ i ≠ 4) ∨ 2 ≤ a → Y7.2.2.2.2 a i = Y.2.2.2.2 a i := fun a i g => (f10 a i (by omega)).trans (d7 a i (by omega))
  have y7b : ∀ a, Y7.2.2.2.2 a (29 + b) = Y5.2.2.2.2 a (29 + b) := fun a => f10 a _ (.inl (by omega))
  have hY7 : wY Y7 n7 := by
    have u0 := y7 0 0 (.inl ⟨by omega, by omega⟩)
    have u1 := y7 0 1 (.inl ⟨by omega, by omega⟩)
    have u2 := y7 0 2 (.inl ⟨by omega, by omega⟩)
    have u3 := y7 0 3 (.inl ⟨by omega, by omega⟩)
    refine ⟨wK_S f2 (fun k i hk => ?_), ?_, ?_, ?_, ?_, ?_, fun l l1 l2 => ?_, fun l hl => ?_, fun x x1 x2 => ?_, fun x x1 x2 => ?_⟩
    · rw [f9]
      exact wS_b hk ⟨hb1, hb⟩ u0 u1 u2 u3 f11 hb0 q2.1 (fun i i1 i2 => y7 1 i (.inl ⟨i2, i1⟩)) (by omega) (by rw [y7b]; omega)
    · rw [u0]; exact q0
    · rw [u1]; exact q1
    · rw [u2]; exact q2
    · rw [u3]; exact q3
    · rw [f11]; omega
    · by_cases hl : l = 4
      · subst hl
        omega
      · by_cases hl2 : l = 29 + b
        · subst hl2
          rw [y7b, y7b]
          omega
        · rw [y7 0 l (.inl ⟨hl2, hl⟩), y7 1 l (.inl ⟨hl2, hl⟩)]
          exact q5 l l1 l2
    · rw [f11, u2] at hl
      rw [y7 0 l (.inl ⟨by omega, by omega⟩), y7 1 l (.inl ⟨by omega, by omega⟩)]
      exact q6 l (by omega)
    · rw [f11] at x2
      by_cases hx : x = b
      · subst hx
        rw [y7b]
        exact d8
      · rw [y7 0 _ (.inl ⟨by omega, by omega⟩)]
        exact q7 x x1 (by omega)
    · rw [u2] at x2
      rw [y7 0 _ (.inl ⟨by omega, by omega⟩)]
      exact q8 x x1 x2
  have hle : wle Y n Y7 n7 := by
    refine ⟨by have := d3.1; omega, by rw [f7]; exact e51, fun k i k1 k2 k3 => ?_, fun a ha ha2 => ?_⟩
    · have hs := (hK.2.2.1 k i k2).mp k3
      have k4 := a4.2.2.1 k i k1 k2 k3
      have k5 := c4.2.2.1 k i k1 k2 k4.1
      have k6 := d3.2.2.1 k i k1 k2 k5.1
      have hno : ¬(k = 2 ∧ i = b) := fun g => by
        obtain ⟨rfl, rfl⟩ := g
        simp only [wS] at hs
        omega
      refine ⟨(f2.2.2.1 k i k2).mpr ((f9 k i).mpr (.inl (.inl (.inl (.inl (.inl (.inl hs))))))), ?_⟩
      rw [f8 k i k1, yR_A hno, k6.2]
      show wA Y3 k i = _
      rw [k5.2]
      show wA Y1 k i = _
      rw [k4.2]
      rfl
    · have k4 := a4.2.2.2 a (by omega) ha2
      have k5 := c4.2.2.2 a (by omega) k4.2
      have k6 := d3.2.2.2 a (by omega) k5.2
      have k7 := f14 a (by omega) (by
        show (if a = n then (2, b) else Y5.2.2.1 a : Nat × Int).1 = 0
        rw [if_neg (by omega)]
        exact k6.2)
      refine ⟨k7.1.trans ?_, k7.2⟩
      show Y5.2.1 a = _
      rw [k6.1]
      show (if a = n then _ else Y3.2.1 a) = _
      rw [if_neg (by omega), k5.1]
      show (if a = n then _ else Y1.2.1 a) = _
      rw [if_neg (by omega), k4.1]
      exact if_neg (by omega)
  have h13' : wV Y7 13 0 := (wY_F hY7).2.1
  have kk13 : wA Y7 13 0 = wA Y 13 0 := (hle.2.2.1 13 0 (by decide) (by decide) h13).2
  have hl7 : wV Y7 1 4 := ((wY_F hY7).2.2.2.2.2.2.2.1 4 (by decide) (by decide)).1
  have kk14 : wA (yR Y5 n 2 b) 1 4 = wA Y 1 4 := by
    have hv14 := hl4.1
    have k4 := a4.2.2.1 1 4 (by decide) (by decide) hv14
    have k5 := c4.2.2.1 1 4 (by decide) (by decide) k4.1
    have k6 := d3.2.2.1 1 4 (by decide) (by decide) k5.1
    rw [yR_A (fun g => absurd g.1 (by decide)), k6.2]
    show wA Y3 1 4 = _
    rw [k5.2]
    show wA Y1 1 4 = _
    rw [k4.2]
    rfl
  refine ⟨Y7, n7, s7, ?_, hY7, hle, by omega, by omega, by omega, f11, by rw [y7b]; exact d8, y7⟩
  have hinit : ev_ G 142 0 [.ref n, zU] [] (wd (yB Y n (zEo 1 [.int 0, .int 0, .int 0, .null, .null])) (n + 1) (s + 5) X) = some (.inl none, wd Y5 n5 s5 X3) := by
    rw [q_X0_init_0]
    show zthV (ev_ G 2 0 [.ref (n + 1)] [] _) _ _ = _
    rw [a1, t_V]
    show ((zpt 1 3 (wd Y1 (n + 1 + 1) (s + 5 + 3) (wu X 20 (29 + b) 0)) n (.ref (n + 1))).bind _) = _
    rw [b_pt2 (fs' := [.int 0, .int 0, .int 0, .ref (n + 1), .null]) b1.2 b1' rfl rfl, t_b]
    show zthV (ev_ G 3 0 [.ref (n + 1 + 1), .int (zJ ((4 : Nat) : Int))] [] _) _ _ = _
    rw [c1, t_V]
    show ((zpt 1 4 (wd Y3 (n + 1 + 1 + 2) (s + 5 + 3 + 1 + 4) (zz (wu X 20 (29 + b) 0) (9 + b))) n (.ref (n + 1 + 1))).bind _) = _
    rw [b_pt2 (fs' := [.int 0, .int 0, .int 0, .ref (n + 1), .ref (n + 1 + 1)]) b3.2 b3' rfl rfl, t_b, h1, h2]
    exact d1
  rw [q_X11_board_17, q_X11_checkState_0, e_1, t_V, g13_5 h13, t_b, b_new hD]
  show zthV (ev_ G 142 0 [.ref n, zU] [] _) _ _ = _
  rw [hinit, t_V, w6, ← kk14, k1 hl6.1]
  show zthI (ev_ G 27 0 [.ref (wA (yR Y5 n 2 b) 1 4), .ref n] [] _) _ _ = _
  rw [f1, t_I]
  show ((zgR 12 5 _ (wA Y 13 0)).bind _) = _
  rw [← kk13, g13_5 h13', t_b, k1 hl7, q_Jx4a65c_size_8abf5_0, g1_2 hl7, t_b, t_I, f11, l_1, zJ_sub, show b + 1 - 1 = b by omega]
end ZS
