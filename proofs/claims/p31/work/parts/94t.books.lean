/-! THE TWO SIDES, 64: a new wire -/
def wZr (Q : zQs) : Prop := (0 ≤ Q 0 0 ∧ Q 0 0 ≤ 16) ∧ (0 ≤ Q 0 1 ∧ Q 0 1 ≤ 8) ∧ (0 ≤ Q 0 2 ∧ Q 0 2 ≤ 24) ∧ (0 ≤ Q 0 3 ∧ Q 0 3 ≤ 12) ∧ (0 ≤ Q 0 4 ∧ Q 0 4 ≤ 12) ∧ (∀ l, 0 ≤ l → l < 41 → 0 ≤ Q 0 l ∧ Q 0 l ≤ Q 1 l ∧ Q 1 l ≤ 100) ∧ (∀ b, 0 ≤ b → b < Q 0 4 → Q 0 (29 + b) = 8)
section ZS
variable {Y Y' Y2 : zLy} {n n' n2 s : Nat} {X X' : zX} {G : Nat × Nat}
theorem wF_of {S : Nat → Int → Prop} (hK : wK Y n S) (hS : ∀ k i, k ≠ 0 → wS Y.2.2.2.2 k i → S k i) (hQ : wZr Y.2.2.2.2) : wF Y := by
  have hst : ∀ k i, k ≠ 0 → wS Y.2.2.2.2 k i → wV Y k i := fun k i hk h => (hK.2.2.1 k i hk).mpr (hS k i hk h)
  obtain ⟨q0, q1, q2, q3, q4, q5, q7⟩ := hQ
  have hL : ∀ l : Int, ((0 ≤ l ∧ l < 5 + Y.2.2.2.2 0 2) ∨ (29 ≤ l ∧ l < 29 + Y.2.2.2.2 0 4)) → wLs Y l := by
    intro l hl
    have ql := q5 l (by omega) (by omega)
    exact ⟨hst 1 l (by decide) hl, ql.1, ql.2.1, by omega, fun g => hst 16 l (by decide) ⟨hl, g⟩⟩
  exact ⟨hK.1, hst 13 0 (by decide) rfl, hst 5 0 (by decide) rfl, hst 6 0 (by decide) rfl, hst 7 0 (by decide) rfl, hst 8 0 (by decide) rfl, fun r r1 r2 => ⟨hst 10 r (by decide) ⟨r1, by omega⟩, hst 15 r (by decide) (.inl ⟨r1, by omega⟩)⟩, fun l l1 l2 => hL l (.inl ⟨l1, by omega⟩), fun i a b => hst 3 i (by decide) ⟨a, b⟩, fun i a b => hst 4 i (by decide) ⟨a, b⟩, fun i a b => ⟨hst 12 i (by decide) ⟨a, b⟩, hL _ (.inl ⟨by omega, by omega⟩)⟩, fun i a b => hst 9 i (by decide) ⟨a, b⟩, fun i a b => ⟨hst 2 i (by decide) ⟨a, b⟩, hL _ (.inr ⟨by omega, by omega⟩), q7 i a b, hst 10 _ (by decide) ⟨by omega, by omega⟩, hst 15 _ (by decide) (.inl ⟨by omega, by omega⟩)⟩, fun i a b => hst 11 i (by decide) ⟨a, b⟩⟩
/-- a new list, raw -/
theorem b_list {Y : zLy} {a : Nat} (hD : (Y.2.2.1 a).1 = 0) : ev_ G 2 0 [.ref a] [] (wd (yB Y a (zEo 0 [.int 0, .null, .int 0])) n s X) = some (.inl none, wd (yB Y a (zEo 0 [.int 0, .ref G.1, .int 0])) n s X) := by
  rw [q_Jx4a65c_init_da8c8_0, q_Jxc12de_init_da8c8_0, q_Jxa1e45_init_da8c8_0, t_V, b_pt hD rfl rfl, t_b, t_V]
  show ((zpt 0 1 (wd (yB Y a (zEo 0 [.int 0, .null, .int 0])) n s X) a (.ref G.1)).bind _) = _
  rw [b_pt hD rfl rfl, t_b]
  rfl
/-- while a wire is laid: its cells stand, but it isn't counted -/
def wWs (Q : zQs) (w : Int) (k : Nat) (i : Int) : Prop := wS Q k i ∨ (k = 1 ∧ i = 5 + w) ∨ (k = 12 ∧ i = w) ∨ (k = 16 ∧ i = 5 + w ∧ 0 < Q 1 (5 + w))
def wW (Y : zLy) (n : Nat) (w : Int) (b : Nat → Int) (t : Nat) : Prop := wK Y n (wWs Y.2.2.2.2 w) ∧ wZr Y.2.2.2.2 ∧ Y.2.2.2.2 0 2 = w ∧ w < 24 ∧ Y.2.2.2.2 0 (5 + w) = t ∧ (∀ l, (5 + w < l ∧ l < 29) ∨ (29 + Y.2.2.2.2 0 4 ≤ l ∧ l < 41) → Y.2.2.2.2 0 l = 0 ∧ Y.2.2.2.2 1 l = 0) ∧ (∀ v, 0 ≤ v → v < w → Y.2.2.2.2 0 (5 + v) ≤ 16) ∧ (∀ j : Nat, j < t → Y.2.2.2.2 4 (16 * w + j) = b j) ∧ t ≤ 16
theorem wW_F {w : Int} {b : Nat → Int} {t : Nat} (h : wW Y n w b t) : wF Y := wF_of h.1 (fun k i _ g => .inl g) h.2.1
theorem wW_st {w : Int} {b : Nat → Int} {t : Nat} (h : wW Y n w b t) {k : Nat} {i : Int} (hk : k ≠ 0) (hs : wWs Y.2.2.2.2 w k i) : wV Y k i := (h.1.2.2.1 k i hk).mpr hs
theorem wW_L {w : Int} {b : Nat → Int} {t : Nat} (h : wW Y n w b t) : wLs Y (5 + w) := by
  obtain ⟨hK, hQ, h3, h4, h5, h6, h7, h8, h9⟩ := id h
  have hw : 0 ≤ w := by rw [← h3]; exact hQ.2.2.1.1
  have ql := hQ.2.2.2.2.2.1 (5 + w) (by omega) (by omega)
  exact ⟨wW_st h (by decide) (.inr (.inl ⟨rfl, rfl⟩)), ql.1, ql.2.1, by omega, fun g => wW_st h (by decide) (.inr (.inr (.inr ⟨rfl, rfl, g⟩)))⟩
/-- the wire's cells are new -/
theorem c_newWire {c d p q r : Int} (hY : wY Y n) (hG : Y.1 = G.1) (hw : Y.2.2.2.2 0 2 < 24) (hc : 0 ≤ c ∧ c < Y.2.2.2.2 0 1) (hd : 0 ≤ d ∧ d < Y.2.2.2.2 0 1) (b : Nat → Int) : ∃ (Y' : zLy), ev_ G 60 0 [.ref n, .ref (wA Y 4 c), .int (zJ p), .ref (wA Y 4 d), .int (zJ q), .int (zJ r)] [] (znew 11 8 [.null, .int 0, .null, .int 0, .int 0, .int 0, .int 0, .null] (wd Y n s X)) = some (.inl none, wd Y' (n + 2) (s + 11) (wu (wu (wu (wu (wu (wu X 20 (5 + Y.2.2.2.2 0 2) 0) 241 (Y.2.2.2.2 0 2) p) 243 (Y.2.2.2.2 0 2) q) 244 (Y.2.2.2.2 0 2) r) 245 (Y.2.2.2.2 0 2) 0) 246 (Y.2.2.2.2 0 2) 0)) ∧ wW Y' (n + 2) (Y.2.2.2.2 0 2) b 0 ∧ wle Y n Y' (n + 2) ∧ wA Y' 12 (Y.2.2.2.2 0 2) = n ∧ Y'.2.2.2.2 2 (Y.2.2.2.2 0 2) = c ∧ Y'.2.2.2.2 3 (Y.2.2.2.2 0 2) = d ∧ (∀ a i, ¬(a = 2 ∧ i = Y.2.2.2.2 0 2) → ¬(a = 3 ∧ i = Y.2.2.2.2 0 2) → Y'.2.2.2.2 a i = Y.2.2.2.2 a i) := by
  generalize hw0 : Y.2.2.2.2 0 2 = w at hw ⊢
  obtain ⟨hK, hQ⟩ := hY
  obtain ⟨q0, q1, q2, q3, q4, q5, q6, q7, q8⟩ := hQ
  have hN := hK.2.1
  have hw1 : 0 ≤ w := by omega
  have ns12 : ¬wS Y.2.2.2.2 12 w := fun g => by
    have := g.2
    omega
  obtain ⟨a1, hK1⟩ := wK_q (Y := Y) (n := n) (s := s) (X := X) (j := 2) (i := w) (v := c) hK (.inl rfl) (fun _ => ns12) (fun g => absurd g (by decide))
  obtain ⟨a2, hK2⟩ := wK_q (Y := yQ Y 2 w c) (n := n) (s := s) (X := X) (j := 3) (i := w) (v := d) hK1 (.inr (.inl rfl)) (fun _ => ns12) (fun g => absurd g (by decide))
  have hD : ∀ a, n ≤ a → (Y.2.2.1 a).1 = 0 := hN.1
  generalize hZ : yQ (yQ Y 2 w c) 3 w d = Z at a2 hK2
  have zD : ∀ a, Z.2.2.1 a = Y.2.2.1 a := fun a => by rw [← hZ]; rfl
  have zA : ∀ k i, wA Z k i = wA Y k i := fun k i => by rw [← hZ]; rfl
  have zB1 : Z.2.1 = Y.2.1 := by rw [← hZ]; rfl
  have z1 : Z.1 = Y.1 := by rw [← hZ]; rfl
  have zQ2 : Z.2.2.2.2 2 w = c := by
    rw [← hZ]
    show (if 2 = 3 ∧ w = w then d else if 2 = 2 ∧ w = w then c else _) = c
    rw [if_neg (fun g => absurd g.1 (by decide)), if_pos ⟨rfl, rfl⟩]
  have zQ3 : Z.2.2.2.2 3 w = d := by
    rw [← hZ]
    exact if_pos ⟨rfl, rfl⟩
  have zQo : ∀ a i, ¬(a = 2 ∧ i = w) → ¬(a = 3 ∧ i = w) → Z.2.2.2.2 a i = Y.2.2.2.2 a i := by
    intro a i g1 g2
    rw [← hZ]
    show (if a = 3 ∧ i = w then d else if a = 2 ∧ i = w then c else Y.2.2.2.2 a i) = _
    rw [if_neg g2, if_neg g1]
  have zq0 : ∀ i, Z.2.2.2.2 0 i = Y.2.2.2.2 0 i := fun i => zQo 0 i (fun g => absurd g.1 (by decide)) (fun g => absurd g.1 (by decide))
  have zq1 : ∀ i, Z.2.2.2.2 1 i = Y.2.2.2.2 1 i := fun i => zQo 1 i (fun g => absurd g.1 (by decide)) (fun g => absurd g.1 (by decide))
  have hDn : (Z.2.2.1 n).1 = 0 := by rw [zD]; exact hD n (Nat.le_refl _)
  have hDn1 : (Z.2.2.1 (n + 1)).1 = 0 := by rw [zD]; exact hD (n + 1) (Nat.le_succ _)
  have hne : n ≠ Z.1 := by rw [z1]; exact Nat.ne_of_gt hN.2.1
  have hne1 : n + 1 ≠ Z.1 := by rw [z1]; exact Nat.ne_of_gt (Nat.lt_succ_of_lt hN.2.1)
  -- raw
  have hraw : ev_ G 60 0 [.ref n, .ref (wA Y 4 c), .int (zJ p), .ref (wA Y 4 d), .int (zJ q), .int (zJ r)] [] (znew 11 8 [.null, .int 0, .null, .int 0, .int 0, .int 0, .int 0, .null] (wd Y n s X)) = some (.inl none, wd (yB (yB Z (n + 1) (zEo 0 [.int 0, .ref G.1, .int 0])) n (zEo 11 [.ref (wA Y 4 c), .int (zJ p), .ref (wA Y 4 d), .int (zJ q), .int (zJ r), .int 0, .int 0, .ref (n + 1)])) (n + 2) (s + 11) X) := by
    rw [← a1, ← a2, b_new hDn, q_X10_init_0, b_pt hDn rfl rfl, t_b, b_pt hDn rfl rfl, t_b, b_pt hDn rfl rfl, t_b, b_pt hDn rfl rfl, t_b, b_pt hDn rfl rfl, t_b]
    show zthV (ev_ G 2 0 [.ref (n + 1)] [] (znew 0 3 [.int 0, .null, .int 0] (wd (yB Z n _) (n + 1) (s + 8) X))) _ _ = _
    rw [b_new (Y := yB Z n _) hDn1, b_list (Y := yB Z n _) hDn1, t_V, yB_cm (by omega : n ≠ n + 1), b_pt (Y := yB Z (n + 1) _) hDn rfl rfl, t_b]
    rfl
  -- the list
  have hK3 : wK (yB (yB Z (n + 1) (zEo 0 [.int 0, .ref G.1, .int 0])) n (zEo 11 [.ref (wA Y 4 c), .int (zJ p), .ref (wA Y 4 d), .int (zJ q), .int (zJ r), .int 0, .int 0, .ref (n + 1)])) (n + 2) (wS Y.2.2.2.2) := wK_B (wK_B (n' := n + 2) hK2 (by omega) hne1) (Nat.le_refl _) hne
  generalize hY3 : yB (yB Z (n + 1) (zEo 0 [.int 0, .ref G.1, .int 0])) n (zEo 11 [.ref (wA Y 4 c), .int (zJ p), .ref (wA Y 4 d), .int (zJ q), .int (zJ r), .int 0, .int 0, .ref (n + 1)]) = Y3 at hraw hK3
  have y3D : ∀ a, Y3.2.2.1 a = Y.2.2.1 a := fun a => by rw [← hY3]; exact zD a
  have y3A : ∀ k i, wA Y3 k i = wA Y k i := fun k i => by rw [← hY3]; exact zA k i
  have y31 : Y3.1 = Y.1 := by rw [← hY3]; exact z1
  have y3Q : Y3.2.2.2.2 = Z.2.2.2.2 := by rw [← hY3]; rfl
  have y3n : Y3.2.1 n = some (zEo 11 [.ref (wA Y 4 c), .int (zJ p), .ref (wA Y 4 d), .int (zJ q), .int (zJ r), .int 0, .int 0, .ref (n + 1)]) := by rw [← hY3]; exact if_pos rfl
  have y3n1 : Y3.2.1 (n + 1) = some (zEo 0 [.int 0, .ref G.1, .int 0]) := by
    rw [← hY3]
    show (if n + 1 = n then _ else if n + 1 = n + 1 then _ else _) = _
    rw [if_neg (by omega), if_pos rfl]
  have y3o : ∀ a, a < n → Y3.2.1 a = Y.2.1 a := by
    intro a ha
    rw [← hY3, ← zB1]
    show (if a = n then _ else if a = n + 1 then _ else Z.2.1 a) = _
    rw [if_neg (by omega), if_neg (by omega)]
  have u6 := q6 (5 + w) (.inl ⟨by omega, by omega⟩)
  have ns1 : ¬wS Y.2.2.2.2 1 (5 + w) := fun g => by
    simp only [wS] at g
    omega
  obtain ⟨w4, hK4⟩ := wK_new (Y := Y3) (n := n + 2) (s := s + 11) (a := n + 1) (k0 := 1) (i0 := 5 + w) (X := X) (X' := wu X 20 (5 + w) 0) hK3 (by omega) (by rw [y31]; exact Nat.ne_of_gt (Nat.lt_succ_of_lt hN.2.1)) (by rw [y3D]; exact hD _ (by omega)) (by decide) ns1 (fun k i j g1 g2 => wu_k (k0 := 1) (j0 := 0) (by decide) (fun g => ns1 (g.1 ▸ g.2 ▸ g1)) g2) (fun q j _ _ => wu_ne (by omega)) (fun j g1 g2 g3 g4 g5 => by
    have : j = 1 := by
      have h3 : ∀ j, j < 3 → (wis 1).elem j = false → j = 1 ∨ j = 2 := by decide
      rcases h3 j g2 g3 with h | h
      · exact h
      · subst h
        exact absurd rfl g4
    subst this
    refine absurd ?_ (g5 rfl)
    rw [y3Q, zq1]
    exact u6.2) (by decide) (by
    rw [y3n1, wc_1]
    show some (zEo 0 [.int 0, .ref G.1, .int 0]) = some (zEo 0 [.int (zJ (wu X 20 (5 + w) 0 20 (5 + w))), .ref (if Y3.2.2.2.2 1 (5 + w) = 0 then Y3.1 else _), .int (zJ (Y3.2.2.2.2 0 (5 + w)))])
    rw [y3Q, zq1, zq0, u6.1, u6.2, if_pos rfl, wu_eq, y31, hG]
    rfl)
  generalize hY4 : yR Y3 (n + 1) 1 (5 + w) = Y4 at w4 hK4
  have y4D : ∀ a, Y4.2.2.1 a = if a = n + 1 then (1, 5 + w) else Y.2.2.1 a := fun a => by rw [← hY4, ← y3D a]; rfl
  have y4A : ∀ k i, wA Y4 k i = if k = 1 ∧ i = 5 + w then n + 1 else wA Y k i := fun k i => by rw [← hY4, ← y3A k i]; rfl
  have y41 : Y4.1 = Y.1 := by rw [← hY4]; exact y31
  have y4Q : Y4.2.2.2.2 = Z.2.2.2.2 := by rw [← hY4]; exact y3Q
  have y4B : Y4.2.1 = Y3.2.1 := by rw [← hY4]; rfl
  have ns12' : ¬(wS Y.2.2.2.2 12 w ∨ (12 = 1 ∧ w = 5 + w)) := fun g => g.elim ns12 (fun g => absurd g.1 (by decide))
  obtain ⟨w5, hK5⟩ := wK_new (Y := Y4) (n := n + 2) (s := s + 11) (a := n) (k0 := 12) (i0 := w) (X := wu X 20 (5 + w) 0) (X' := wu (wu (wu (wu (wu (wu X 20 (5 + w) 0) 241 w p) 243 w q) 244 w r) 245 w 0) 246 w 0) hK4 (by omega) (by rw [y41]; exact Nat.ne_of_gt hN.2.1) (by rw [y4D, if_neg (by omega)]; exact hD _ (Nat.le_refl _)) (by decide) ns12' (fun k i j g1 g2 => by
    have g3 : ¬(k = 12 ∧ i = w) := fun g => ns12' (by
      obtain ⟨rfl, rfl⟩ := g
      exact g1)
    exact (wu_k (k0 := 12) (j0 := 6) (by decide) g3 g2).trans ((wu_k (k0 := 12) (j0 := 5) (by decide) g3 g2).trans ((wu_k (k0 := 12) (j0 := 4) (by decide) g3 g2).trans ((wu_k (k0 := 12) (j0 := 3) (by decide) g3 g2).trans (wu_k (k0 := 12) (j0 := 1) (by decide) g3 g2))))) (fun q j _ _ => by
    rw [wu_ne (by omega), wu_ne (by omega), wu_ne (by omega), wu_ne (by omega), wu_ne (by omega)]) (fun j g1 g2 g3 g4 g5 => by
    have h3 : ∀ j, j < 8 → (wis 12).elem j = false → j = 0 ∨ j = 2 ∨ j = 7 := by decide
    rcases h3 j g2 g3 with h | h | h
    · subst h
      show _ ∨ _
      rw [y4Q]
      show wS Y.2.2.2.2 4 (Z.2.2.2.2 2 w) ∨ _
      rw [zQ2]
      exact .inl hc
    · subst h
      show _ ∨ _
      rw [y4Q]
      show wS Y.2.2.2.2 4 (Z.2.2.2.2 3 w) ∨ _
      rw [zQ3]
      exact .inl hd
    · subst h
      exact .inr ⟨rfl, rfl⟩) (by decide) (by
    rw [y4B, y3n]
    have : ∀ (Y0 : zLy) (X0 : zX), wc Y0 X0 12 w = zEo 11 [.ref (wA Y0 4 (Y0.2.2.2.2 2 w)), .int (zJ (X0 241 w)), .ref (wA Y0 4 (Y0.2.2.2.2 3 w)), .int (zJ (X0 243 w)), .int (zJ (X0 244 w)), .int (zJ (X0 245 w)), .int (zJ (X0 246 w)), .ref (wA Y0 1 (5 + w))] := fun _ _ => rfl
    rw [this]
    have e0 : (yR Y4 n 12 w).2.2.2.2 = Z.2.2.2.2 := y4Q
    have eA : ∀ k i, k ≠ 12 → wA (yR Y4 n 12 w) k i = wA Y4 k i := fun k i h => if_neg (fun g => h g.1)
    rw [e0, zQ2, zQ3, eA 4 c (by decide), eA 4 d (by decide), eA 1 (5 + w) (by decide), y4A, y4A, y4A, if_neg (fun g => absurd g.1 (by decide)), if_neg (fun g => absurd g.1 (by decide)), if_pos ⟨rfl, rfl⟩]
    simp (disch := first | assumption | omega) only [wu_eq, wu_ne]
    rfl)
  generalize hY5 : yR Y4 n 12 w = Y5 at w5 hK5
  have y5D : ∀ a, Y5.2.2.1 a = if a = n then (12, w) else if a = n + 1 then (1, 5 + w) else Y.2.2.1 a := fun a => by rw [← hY5, ← y4D a]; rfl
  have y5A : ∀ k i, wA Y5 k i = if k = 12 ∧ i = w then n else if k = 1 ∧ i = 5 + w then n + 1 else wA Y k i := fun k i => by rw [← hY5, ← y4A k i]; rfl
  have y51 : Y5.1 = Y.1 := by rw [← hY5]; exact y41
  have y5Q : Y5.2.2.2.2 = Z.2.2.2.2 := by rw [← hY5]; exact y4Q
  have y5B : Y5.2.1 = Y3.2.1 := by rw [← hY5]; exact y4B
  have nst : ∀ k i, k ≠ 0 → wV Y k i → ¬(k = 12 ∧ i = w) ∧ ¬(k = 1 ∧ i = 5 + w) := fun k i hk h => by
    have := (hK.2.2.1 k i hk).mp h
    exact ⟨fun g => ns12 (g.1 ▸ g.2 ▸ this), fun g => ns1 (g.1 ▸ g.2 ▸ this)⟩
  refine ⟨Y5, ?_, ⟨?_, ?_, ?_, hw, ?_, fun l hl => ?_, fun v v1 v2 => ?_, fun j hj => absurd hj (Nat.not_lt_zero j), by omega⟩, ⟨by omega, y51, fun k i h1 h2 h3 => ?_, fun a ha ha2 => ?_⟩, ?_, ?_, ?_, fun a i g1 g2 => ?_⟩
  · rw [hraw, w4, w5]
  · refine wK_S hK5 (fun k i hk => ?_)
    unfold wWs
    have e1 : ∀ k i, wS Y5.2.2.2.2 k i ↔ wS Y.2.2.2.2 k i := by
      intro k i
      rw [y5Q]
      rcases Nat.lt_or_ge k 17 with g | g
      · by_cases hk0 : k = 0
        · subst hk0; exact Iff.rfl
        · rcases k_17 g hk0 with rfl | rfl | rfl | rfl | rfl | rfl | rfl | rfl | rfl | rfl | rfl | rfl | rfl | rfl | rfl | rfl <;> simp only [wS, zq0, zq1]
      · exact ⟨fun h => absurd h (wS_k g), fun h => absurd h (wS_k g)⟩
    rw [e1, y5Q, zq1, u6.2]
    constructor
    · rintro ((h | h) | h)
      · exact .inl h
      · exact .inr (.inl h)
      · exact .inr (.inr (.inl h))
    · rintro (h | h | h | h)
      · exact .inl (.inl h)
      · exact .inl (.inr h)
      · exact .inr h
      · exact absurd h.2.2 (by decide)
  · rw [y5Q]
    unfold wZr
    simp only [zq0, zq1]
    exact ⟨q0, q1, q2, q3, q4, q5, q7⟩
  · rw [y5Q, zq0]; exact hw0
  · rw [y5Q, zq0]; exact u6.1
  · rw [y5Q, zq0] at hl
    rw [y5Q, zq0, zq1]
    exact q6 l (by omega)
  · rw [y5Q, zq0]
    exact q8 v v1 (by omega)
  · have := nst k i h2 h3
    refine ⟨(hK5.2.2.1 k i h2).mpr (.inl (.inl ((hK.2.2.1 k i h2).mp h3))), ?_⟩
    rw [y5A, if_neg this.1, if_neg this.2]
  · rw [y5B, y5D, if_neg (by omega), if_neg (by omega)]
    exact ⟨y3o a ha, ha2⟩
  · rw [y5A, if_pos ⟨rfl, rfl⟩]
  · rw [y5Q]; exact zQ2
  · rw [y5Q]; exact zQ3
  · rw [y5Q]; exact zQo a i g1 g2
end ZS
