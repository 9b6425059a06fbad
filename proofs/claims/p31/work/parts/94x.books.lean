/-! THE TWO SIDES, 68: new lists, rows, slots, boards -/
def zz (X : zX) (r : Int) : zX := fun f j => if f = 500 + r then 0 else X f j
section ZS
variable {Y Y' Y2 : zLy} {n n' n2 s : Nat} {X X' : zX} {G : Nat × Nat} {S : Nat → Int → Prop}
theorem b_pt2 {a ci j : Nat} {fs fs' : List Value} {v : Value} (hD : (Y.2.2.1 a).1 = 0) (hB : Y.2.1 a = some (zEo ci fs)) (hz : zset fs j v = fs') (hj : Nat.blt j fs.length = true) : zpt ci j (wd Y n s X) a v = some (wd (yB Y a (zEo ci fs')) n s X) := by
  rw [x_pt ((wdx_0 hD).trans hB) hz hj]
  exact congrArg some (wd_B hD)
theorem b_gR2 {a ci j x : Nat} {fs : List Value} (hD : (Y.2.2.1 a).1 = 0) (hB : Y.2.1 a = some (zEo ci fs)) (hj : znth fs j = some (.ref x)) : zgR ci j (wd Y n s X) a = some x := x_gR ((wdx_0 hD).trans hB) hj
theorem yR_A {a k0 k : Nat} {i0 i : Int} (h : ¬(k = k0 ∧ i = i0)) : wA (yR Y a k0 i0) k i = wA Y k i := if_neg h
theorem yB_b {a : Nat} {e : zE} : (yB Y a e).2.1 a = some e := if_pos rfl
theorem wle_B {a : Nat} {e : zE} (hn : n ≤ n') (ha : n ≤ a) : wle Y n (yB Y a e) n' := ⟨hn, rfl, fun _ _ _ _ h => ⟨h, rfl⟩, fun b hb h => ⟨if_neg (by omega), h⟩⟩
theorem c_newList {l : Int} (hK : wK Y n S) (hG : Y.1 = G.1) (hl : ¬S 1 l) (h0 : Y.2.2.2.2 0 l = 0) (h1 : Y.2.2.2.2 1 l = 0) : ∃ (Y' : zLy), ev_ G 2 0 [.ref n] [] (znew 0 3 [.int 0, .null, .int 0] (wd Y n s X)) = some (.inl none, wd Y' (n + 1) (s + 3) (wu X 20 l 0)) ∧ wK Y' (n + 1) (fun k i => S k i ∨ (k = 1 ∧ i = l)) ∧ wA Y' 1 l = n ∧ wle Y n Y' (n + 1) ∧ Y'.2.2.2.2 = Y.2.2.2.2 := by
  have hN := hK.2.1
  have hD : (Y.2.2.1 n).1 = 0 := hN.1 n (Nat.le_refl _)
  have hne : n ≠ Y.1 := Nat.ne_of_gt hN.2.1
  have hK3 : wK (yB Y n (zEo 0 [.int 0, .ref G.1, .int 0])) (n + 1) S := wK_B hK (Nat.le_succ _) hne
  obtain ⟨w4, hK4⟩ := wK_new (Y := yB Y n (zEo 0 [.int 0, .ref G.1, .int 0])) (n := n + 1) (s := s + 3) (a := n) (k0 := 1) (i0 := l) (X := X) (X' := wu X 20 l 0) hK3 (Nat.lt_succ_self n) hne hD (by decide) hl (fun k i j g1 g2 => wu_k (k0 := 1) (j0 := 0) (by decide) (fun g => hl (g.1 ▸ g.2 ▸ g1)) g2) (fun q j _ _ => wu_ne (by omega)) (fun j g1 g2 g3 g4 g5 => by
    have : j = 1 := by
      have h3 : ∀ j, j < 3 → (wis 1).elem j = false → j = 1 ∨ j = 2 := by decide
      rcases h3 j g2 g3 with h | h
      · exact h
      · subst h
        exact absurd rfl g4
    subst this
    exact absurd h1 (g5 rfl)) (by decide) (by
    rw [yB_b, wc_1]
    show some (zEo 0 [.int 0, .ref G.1, .int 0]) = some (zEo 0 [.int (zJ (wu X 20 l 0 20 l)), .ref (if Y.2.2.2.2 1 l = 0 then Y.1 else _), .int (zJ (Y.2.2.2.2 0 l))])
    rw [h0, h1, if_pos rfl, wu_eq, hG]
    rfl)
  refine ⟨yR (yB Y n (zEo 0 [.int 0, .ref G.1, .int 0])) n 1 l, ?_, hK4, if_pos ⟨rfl, rfl⟩, ⟨Nat.le_succ _, rfl, fun k i k1 k2 k3 => ?_, fun a ha ha2 => ⟨if_neg (by omega), ?_⟩⟩, rfl⟩
  · rw [b_new hD, b_list hD, w4]
  · have hs := (hK.2.2.1 k i k2).mp k3
    have hno : ¬(k = 1 ∧ i = l) := fun g => hl (g.1 ▸ g.2 ▸ hs)
    exact ⟨(hK4.2.2.1 k i k2).mpr (.inl hs), yR_A hno⟩
  · show (if a = n then (1, l) else Y.2.2.1 a : Nat × Int).1 = 0
    rw [if_neg (by omega)]
    exact ha2
theorem b_newi {m : Nat} (hm : m ≤ 1000) (hD : (Y.2.2.1 n).1 = 0) : znai 0 (zJ m) (wd Y n s X) = wd (yB Y n (zEi 0 m (fun _ => 0))) (n + 1) (s + m) X := by
  unfold znai
  rw [zJ_clamp (by omega) (by omega)]
  exact wd_B hD
theorem c_newRow {r : Int} {m : Nat} (hK : wK Y n S) (h0 : 0 ≤ r) (hln : wln r = m) (hkd : wkd r = 0) (h15 : ¬S 15 r) (h10 : ¬S 10 r) : ∃ (Y' : zLy), ev_ G 3 0 [.ref n, .int (zJ m)] [] (znew 9 1 [.null] (wd Y n s X)) = some (.inl none, wd Y' (n + 2) (s + 1 + m) (zz X r)) ∧ wK Y' (n + 2) (fun k i => (S k i ∨ (k = 15 ∧ i = r)) ∨ (k = 10 ∧ i = r)) ∧ wA Y' 10 r = n ∧ wle Y n Y' (n + 2) ∧ Y'.2.2.2.2 = Y.2.2.2.2 := by
  have hm : m ≤ 400 := by rw [← hln]; exact wln_le r
  have hN := hK.2.1
  have hD : (Y.2.2.1 n).1 = 0 := hN.1 n (Nat.le_refl _)
  have hD1 : (Y.2.2.1 (n + 1)).1 = 0 := hN.1 _ (Nat.le_succ _)
  have hne : n ≠ Y.1 := Nat.ne_of_gt hN.2.1
  have hne1 : n + 1 ≠ Y.1 := Nat.ne_of_gt (Nat.lt_succ_of_lt hN.2.1)
  have hraw : ev_ G 3 0 [.ref n, .int (zJ m)] [] (znew 9 1 [.null] (wd Y n s X)) = some (.inl none, wd (yB (yB Y (n + 1) (zEi 0 m (fun _ => 0))) n (zEo 9 [.ref (n + 1)])) (n + 2) (s + 1 + m) X) := by
    have hbad : ¬zbad (zJ m) := by
      rintro (h | h)
      · rw [l_0, zJ_lt (by omega) (by omega) (by omega) (by omega)] at h
        omega
      · rw [zJ_clamp (by omega) (by omega)] at h
        omega
    have h0m : (0 : Int32) ≤ zJ m := by
      rw [l_0, zJ_le (by omega) (by omega) (by omega) (by omega)]
      omega
    rw [b_new hD, q_X8_init_0, if_pos h0m, if_neg hbad, b_newi (Y := yB Y n (zEo 9 [.null])) (by omega) hD1]
    show ((zpt 9 0 _ n (.ref (n + 1))).bind _) = _
    rw [yB_cm (by omega : n ≠ n + 1), b_pt (Y := yB Y (n + 1) _) hD rfl rfl, t_b]
    rfl
  have hK3 : wK (yB (yB Y (n + 1) (zEi 0 m (fun _ => 0))) n (zEo 9 [.ref (n + 1)])) (n + 2) S := wK_B (wK_B (n' := n + 2) hK (by omega) hne1) (Nat.le_refl _) hne
  obtain ⟨w4, hK4⟩ := wK_new (Y := yB (yB Y (n + 1) (zEi 0 m (fun _ => 0))) n (zEo 9 [.ref (n + 1)])) (n := n + 2) (s := s + 1 + m) (a := n + 1) (k0 := 15) (i0 := r) (X := X) (X' := zz X r) hK3 (by omega) hne1 hD1 (by decide) h15 (fun k i j g1 g2 => if_neg (by have := wfx_lt g2; omega)) (fun q j g1 g2 => if_neg (fun g => h15 (by rwa [show q = r by omega] at g1))) (fun j g1 _ _ _ _ => absurd g1 (by decide)) (by decide) (by
    show (if n + 1 = n then _ else if n + 1 = n + 1 then _ else _) = _
    rw [if_neg (by omega), if_pos rfl]
    show _ = some (zEi (wkd r) (wln r) (fun j => if 0 ≤ r then zJ (zz X r (500 + r) j) else 0))
    rw [hln, hkd]
    refine congrArg some (congrArg (zEi 0 m) (funext fun j => ?_))
    rw [if_pos h0]
    show _ = zJ (if (500 : Int) + r = 500 + r then 0 else _)
    rw [if_pos rfl]
    rfl)
  obtain ⟨w5, hK5⟩ := wK_new (Y := yR (yB (yB Y (n + 1) (zEi 0 m (fun _ => 0))) n (zEo 9 [.ref (n + 1)])) (n + 1) 15 r) (n := n + 2) (s := s + 1 + m) (a := n) (k0 := 10) (i0 := r) (X := zz X r) (X' := zz X r) hK4 (by omega) hne (by
    show (if n = n + 1 then (15, r) else Y.2.2.1 n : Nat × Int).1 = 0
    rw [if_neg (by omega)]
    exact hD) (by decide) (fun g => g.elim h10 (fun g => absurd g.1 (by decide))) (fun _ _ _ _ _ => rfl) (fun _ _ _ _ => rfl) (fun j g1 g2 g3 g4 g5 => by
    have h3 : ∀ j, j < 1 → j = 0 := fun j h => by omega
    have := h3 j g2
    subst this
    exact .inr ⟨rfl, rfl⟩) (by decide) (by
    show (if n = n then _ else _) = _
    rw [if_pos rfl]
    have : ∀ (Y0 : zLy) (X0 : zX), wc Y0 X0 10 r = zEo 9 [.ref (wA Y0 15 r)] := fun _ _ => rfl
    rw [this]
    refine congrArg (fun x => some (zEo 9 [.ref x])) ?_
    show n + 1 = (if 15 = 10 ∧ r = r then n else if 15 = 15 ∧ r = r then n + 1 else _)
    rw [if_neg (fun g => absurd g.1 (by decide)), if_pos ⟨rfl, rfl⟩])
  refine ⟨_, ?_, hK5, if_pos ⟨rfl, rfl⟩, ⟨by omega, rfl, fun k i k1 k2 k3 => ?_, fun a ha ha2 => ⟨?_, ?_⟩⟩, rfl⟩
  · rw [hraw, w4, w5]
  · have hs := (hK.2.2.1 k i k2).mp k3
    refine ⟨(hK5.2.2.1 k i k2).mpr (.inl (.inl hs)), ?_⟩
    show (if k = 10 ∧ i = r then n else if k = 15 ∧ i = r then n + 1 else Y.2.2.2.1 k i) = _
    have hno : ¬(k = 10 ∧ i = r) := fun g => h10 (g.1 ▸ g.2 ▸ hs)
    have hno2 : ¬(k = 15 ∧ i = r) := fun g => h15 (g.1 ▸ g.2 ▸ hs)
    rw [if_neg hno, if_neg hno2]
    rfl
  · show (if a = n then _ else if a = n + 1 then _ else Y.2.1 a) = _
    rw [if_neg (by omega), if_neg (by omega)]
  · show (if a = n then (10, r) else if a = n + 1 then (15, r) else Y.2.2.1 a : Nat × Int).1 = 0
    rw [if_neg (by omega), if_neg (by omega)]
    exact ha2
/-- a new slot, in its board's list -/
theorem c_newSlot {b i : Int} (hK : wK Y n S) (hG : Y.1 = G.1) (hb : 0 ≤ b ∧ b < 12) (hi : 0 ≤ i ∧ i < 8) (hn : ¬S 11 (8 * b + i)) (hL : wLs Y (29 + b)) (h0 : Y.2.2.2.2 0 (29 + b) = i) (h1 : Y.2.2.2.2 1 (29 + b) ≤ 100) (hq : S 16 (29 + b) → 0 < Y.2.2.2.2 1 (29 + b)) {X' : zX} (hX' : wu (wu (wu (wu (wu (wu (wu (wu X 220 (8 * b + i) (-1)) 221 (8 * b + i) (-1)) 222 (8 * b + i) (-1)) 223 (8 * b + i) 0) 224 (8 * b + i) 0) 225 (8 * b + i) 0) 226 (8 * b + i) 0) 227 (8 * b + i) 0 = X') : ∃ (Y' : zLy) (n' s' : Nat) (S' : Nat → Int → Prop), (∀ f : zW → zR, zthV (ev_ G 141 0 [.ref n] [] (znew 10 8 [.int 0, .int 0, .int 0, .int 0, .int 0, .int 0, .int 0, .int 0] (wd Y n s X))) (fun W2 => zthI (zck 0 W2 (wA Y 1 (29 + b)) (ev_ G 27 0 [.ref (wA Y 1 (29 + b)), .ref n] [] W2)) (fun t5 W4 => f W4) zxe) zxe = f (wd Y' n' s' (wu X' 20 (29 + b) (X 20 (29 + b) + 1)))) ∧ wK Y' n' S' ∧ wle Y n Y' n' ∧ n' ≤ n + 2 ∧ s ≤ s' ∧ s' ≤ s + 40 ∧ (∀ k j, S' k j ↔ (S k j ∨ (k = 11 ∧ j = 8 * b + i)) ∨ (k = 16 ∧ j = 29 + b)) ∧ (∀ a j, j ≠ 29 + b ∨ 2 ≤ a → Y'.2.2.2.2 a j = Y.2.2.2.2 a j) ∧ Y'.2.2.2.2 0 (29 + b) = i + 1 ∧ i < Y'.2.2.2.2 1 (29 + b) ∧ Y'.2.2.2.2 1 (29 + b) ≤ 100 := by
  have hN := hK.2.1
  have hD : (Y.2.2.1 n).1 = 0 := hN.1 n (Nat.le_refl _)
  have hne : n ≠ Y.1 := Nat.ne_of_gt hN.2.1
  have hK3 : wK (yB Y n (zEo 10 [.int (-1), .int (-1), .int (-1), .int 0, .int 0, .int 0, .int 0, .int 0])) (n + 1) S := wK_B hK (Nat.le_succ _) hne
  obtain ⟨w4, hK4⟩ := wK_new (Y := yB Y n (zEo 10 [.int (-1), .int (-1), .int (-1), .int 0, .int 0, .int 0, .int 0, .int 0])) (n := n + 1) (s := s + 8) (a := n) (k0 := 11) (i0 := 8 * b + i) (X := X) (X' := X') hK3 (Nat.lt_succ_self n) hne hD (by decide) hn (fun k j' j g1 g2 => by
    have g3 : ¬(k = 11 ∧ j' = 8 * b + i) := fun g => hn (g.1 ▸ g.2 ▸ g1)
    rw [← hX']
    exact (wu_k (k0 := 11) (j0 := 7) (by decide) g3 g2).trans ((wu_k (k0 := 11) (j0 := 6) (by decide) g3 g2).trans ((wu_k (k0 := 11) (j0 := 5) (by decide) g3 g2).trans ((wu_k (k0 := 11) (j0 := 4) (by decide) g3 g2).trans ((wu_k (k0 := 11) (j0 := 3) (by decide) g3 g2).trans ((wu_k (k0 := 11) (j0 := 2) (by decide) g3 g2).trans ((wu_k (k0 := 11) (j0 := 1) (by decide) g3 g2).trans (wu_k (k0 := 11) (j0 := 0) (by decide) g3 g2)))))))) (fun q j _ _ => by
    rw [← hX', wu_ne (by omega), wu_ne (by omega), wu_ne (by omega), wu_ne (by omega), wu_ne (by omega), wu_ne (by omega), wu_ne (by omega), wu_ne (by omega)]) (fun j g1 g2 g3 g4 g5 => by
    have h3 : ∀ j, j < 8 → (wis 11).elem j = true := by decide
    rw [h3 j g2] at g3
    cases g3) (by decide) (by
    rw [yB_b]
    have : ∀ (Y0 : zLy) (X0 : zX) (j : Int), wc Y0 X0 11 j = zEo 10 [.int (zJ (X0 220 j)), .int (zJ (X0 221 j)), .int (zJ (X0 222 j)), .int (zJ (X0 223 j)), .int (zJ (X0 224 j)), .int (zJ (X0 225 j)), .int (zJ (X0 226 j)), .int (zJ (X0 227 j))] := fun _ _ _ => rfl
    rw [this, ← hX']
    have e7 : ∀ (X0 : zX) (v : Int), wu X0 227 (8 * b + i) v 227 (8 * b + i) = v := fun _ _ => wu_eq
    simp (disch := first | assumption | omega) only [wu_eq, wu_ne]
    rfl)
  have hLs : wLs (yR (yB Y n (zEo 10 [.int (-1), .int (-1), .int (-1), .int 0, .int 0, .int 0, .int 0, .int 0])) n 11 (8 * b + i)) (29 + b) := by
    obtain ⟨l1, l2, l3, l4, l5⟩ := hL
    exact ⟨(hK4.2.2.1 1 _ (by decide)).mpr (.inl ((hK.2.2.1 1 _ (by decide)).mp l1)), l2, l3, l4, fun g => (hK4.2.2.1 16 _ (by decide)).mpr (.inl ((hK.2.2.1 16 _ (by decide)).mp (l5 g)))⟩
  have hwt : wet Y.2.2.2.2 (29 + b) i = (11, 8 * b + i) := by
    unfold wet
    rw [if_neg (by omega), if_neg (by omega), if_neg (by omega), if_neg (by omega), if_neg (by omega), if_neg (by omega), show 8 * (29 + b - 29) + i = 8 * b + i by omega]
  obtain ⟨Y4, n4, s4, S4, c1, c2, c3, c4, c5, c6, c7, c8, c9, c10, c11, c12, c13, c14⟩ := c_add (G := G) (n := n + 1) (s := s + 8) (X := X') (e := n) (l := 29 + b) hK4 hG hLs (by show Y.2.2.2.2 1 (29 + b) ≤ 400; omega) (fun g => by
    show 0 < Y.2.2.2.2 1 (29 + b)
    rcases g with g | g
    · exact hq g
    · exact absurd g.1 (by decide)) (by
    rw [wel_t]
    show n = wA _ (wet Y.2.2.2.2 (29 + b) (Y.2.2.2.2 0 (29 + b))).1 (wet Y.2.2.2.2 (29 + b) (Y.2.2.2.2 0 (29 + b))).2
    rw [h0, hwt]
    exact (if_pos ⟨rfl, rfl⟩).symm) (by
    show (fun k j => S k j ∨ (k = 11 ∧ j = 8 * b + i)) (wet Y.2.2.2.2 (29 + b) (Y.2.2.2.2 0 (29 + b))).1 (wet Y.2.2.2.2 (29 + b) (Y.2.2.2.2 0 (29 + b))).2
    rw [h0, hwt]
    exact .inr ⟨rfl, rfl⟩)
  change _ ≤ ((s + 8 : Nat) : Int) + (Y.2.2.2.2 0 (29 + b) + 10 + Y.2.2.2.2 0 (29 + b)) at c6
  change ∀ a j, j ≠ 29 + b ∨ 2 ≤ a → Y4.2.2.2.2 a j = Y.2.2.2.2 a j at c10
  change Y4.2.2.2.2 0 (29 + b) = Y.2.2.2.2 0 (29 + b) + 1 at c11
  change Y.2.2.2.2 0 (29 + b) < Y4.2.2.2.2 1 (29 + b) at c12
  change Y4.2.2.2.2 1 (29 + b) = Y.2.2.2.2 1 (29 + b) ∨ Y4.2.2.2.2 1 (29 + b) ≤ Y.2.2.2.2 0 (29 + b) + 10 + Y.2.2.2.2 0 (29 + b) at c13
  rw [h0] at c6 c11 c12 c13
  have e20 : X' 20 (29 + b) = X 20 (29 + b) := by
    rw [← hX', wu_ne (by decide), wu_ne (by decide), wu_ne (by decide), wu_ne (by decide), wu_ne (by decide), wu_ne (by decide), wu_ne (by decide), wu_ne (by decide)]
  rw [e20] at c1
  refine ⟨Y4, n4, s4, S4, fun f => ?_, c2, ⟨by omega, c7, fun k j k1 k2 k3 => ?_, fun a ha ha2 => ?_⟩, by omega, by omega, by omega, c9, c10, c11, c12, by omega⟩
  · rw [b_new hD, q_X9_init_0, b_pt hD rfl rfl, t_b, b_pt hD rfl rfl, t_b, b_pt hD rfl rfl, t_b, b_pt hD rfl rfl, t_b, t_V]
    show zthI (zck 0 (wd (yB Y n (zEo 10 [.int (-1), .int (-1), .int (-1), .int 0, .int 0, .int 0, .int 0, .int 0])) (n + 1) (s + 8) X) (wA Y 1 (29 + b)) (ev_ G 27 0 [.ref (wA Y 1 (29 + b)), .ref n] [] (wd (yB Y n (zEo 10 [.int (-1), .int (-1), .int (-1), .int 0, .int 0, .int 0, .int 0, .int 0])) (n + 1) (s + 8) X))) _ _ = _
    rw [w4]
    have hA1 : wA (yR (yB Y n (zEo 10 [.int (-1), .int (-1), .int (-1), .int 0, .int 0, .int 0, .int 0, .int 0])) n 11 (8 * b + i)) 1 (29 + b) = wA Y 1 (29 + b) := yR_A (fun g => absurd g.1 (by decide))
    rw [← hA1, k1 hLs.1, c1, t_I]
  · have hs := (hK.2.2.1 k j k2).mp k3
    refine ⟨(c2.2.2.1 k j k2).mpr ((c9 k j).mpr (.inl (.inl hs))), ?_⟩
    rw [c8 k j k1]
    have hno : ¬(k = 11 ∧ j = 8 * b + i) := fun g => hn (g.1 ▸ g.2 ▸ hs)
    exact yR_A hno
  · have := c14 a (by omega) (by
      show (if a = n then (11, 8 * b + i) else Y.2.2.1 a : Nat × Int).1 = 0
      rw [if_neg (by omega)]
      exact ha2)
    exact ⟨this.1.trans (if_neg (by omega)), this.2⟩
end ZS
