/-! THE TWO SIDES, 63: a new connector, a new reel; sizes told anew -/
section ZS
variable {Y Y' Y2 : zLy} {n n' n2 s : Nat} {X X' : zX} {G : Nat × Nat}
theorem c_addConnector {p q r : Int} (hY : wY Y n) (hG : Y.1 = G.1) (h16 : Y.2.2.2.2 0 1 < 8) : ∃ (Y' : zLy) (n' s' : Nat), ev_ G 37 0 [.ref (wA Y 6 0), .int (zJ p), .int (zJ q), .int (zJ r)] [] (wd Y n s X) = some (.inl (some (.int (zJ (Y.2.2.2.2 0 1)))), wd Y' n' s' (wu (wu (wu (wu (wu (wu X 80 (Y.2.2.2.2 0 1) p) 81 (Y.2.2.2.2 0 1) q) 82 (Y.2.2.2.2 0 1) r) 83 (Y.2.2.2.2 0 1) (-1)) 84 (Y.2.2.2.2 0 1) 0) 20 1 (X 20 1 + 1))) ∧ wY Y' n' ∧ wle Y n Y' n' ∧ n' ≤ n + 2 ∧ s ≤ s' ∧ s' ≤ s + 70 ∧ Y'.2.2.2.2 0 1 = Y.2.2.2.2 0 1 + 1 ∧ (∀ a i, i ≠ 1 ∨ 2 ≤ a → Y'.2.2.2.2 a i = Y.2.2.2.2 a i) := by
  have hF := wY_F hY
  have h6 : wV Y 6 0 := hF.2.2.2.1
  have h1 : wV Y 1 1 := (wY_L hY (.inl ⟨by decide, by have := hY.2.2.2.1; omega⟩)).1
  have hD : (Y.2.2.1 n).1 = 0 := hY.1.2.1.1 n (Nat.le_refl _)
  have hA : ∀ e k i, wA (yB Y n e) k i = wA Y k i := fun e k i => rfl
  have hV : ∀ e k i, wV Y k i → wV (yB Y n e) k i := fun e k i h => h
  generalize hb : Y.2.2.2.2 0 1 = b at h16 ⊢
  obtain ⟨Y', n', s', e1, e2, e3, e4, e5, e6, e7, e8⟩ := c_roleadd (Y := Y) (n := n) (s := s + 5) (X := X) (X' := wu (wu (wu (wu (wu X 80 b p) 81 b q) 82 b r) 83 b (-1)) 84 b 0) (k0 := 4) (l := 1) (b := b) (cs := [.int (zJ p), .int (zJ q), .int (zJ r), .int (-1), .int 0]) hY hG (.inr (.inl ⟨rfl, rfl, by omega⟩)) hb.symm (fun k i j h1 h2 => by
    exact (wu_k (k0 := 4) (j0 := 4) (by decide) h1 h2).trans ((wu_k (k0 := 4) (j0 := 3) (by decide) h1 h2).trans ((wu_k (k0 := 4) (j0 := 2) (by decide) h1 h2).trans ((wu_k (k0 := 4) (j0 := 1) (by decide) h1 h2).trans (wu_k (k0 := 4) (j0 := 0) (by decide) h1 h2))))) (fun f j h => by
    rw [wu_ne (by omega), wu_ne (by omega), wu_ne (by omega), wu_ne (by omega), wu_ne (by omega)]) (fun Y0 => by
    have : ∀ X0 : zX, wc Y0 X0 4 b = zEo 3 [.int (zJ (X0 80 b)), .int (zJ (X0 81 b)), .int (zJ (X0 82 b)), .int (zJ (X0 83 b)), .int (zJ (X0 84 b))] := fun X0 => rfl
    rw [this]
    simp (disch := first | assumption | omega) only [wu_eq, wu_ne]
    rfl)
  have e20 : wu (wu (wu (wu (wu X 80 b p) 81 b q) 82 b r) 83 b (-1)) 84 b 0 20 1 = X 20 1 := by simp (disch := first | assumption | omega) only [wu_ne]
  rw [e20] at e1
  have hF' := wY_F e2
  have h6' : wV Y' 6 0 := hF'.2.2.2.1
  have h1' : wV Y' 1 1 := (wY_L e2 (.inl ⟨by decide, by have := e2.2.2.2.1; omega⟩)).1
  have hA6 : wA Y' 6 0 = wA Y 6 0 := (e3.2.2.1 6 0 (by decide) (by decide) h6).2
  have g' := g6_1 (n := n') (s := s') (X := wu (wu (wu (wu (wu (wu X 80 b p) 81 b q) 82 b r) 83 b (-1)) 84 b 0) 20 1 (X 20 1 + 1)) h6'
  rw [hA6] at g'
  refine ⟨Y', n', s', ?_, e2, e3, e4, by omega, by omega, e7, e8⟩
  have hi : ev_ G 36 0 [.ref n, .int (zJ p), .int (zJ q), .int (zJ r)] [] (wd (yB Y n (zEo 3 [.int 0, .int 0, .int 0, .int 0, .int 0])) (n + 1) (s + 5) X) = some (.inl none, wd (yB Y n (zEo 3 [.int (zJ p), .int (zJ q), .int (zJ r), .int (-1), .int 0])) (n + 1) (s + 5) X) := by
    rw [q_X2_init_0, b_pt hD rfl rfl, t_b, b_pt hD rfl rfl, t_b, b_pt hD rfl rfl, t_b, b_pt hD rfl rfl, t_b]
    rfl
  rw [q_X4_addConnector_0, g6_1 h6, t_b, show (wd Y n s X).1 = n from rfl, b_new hD, hi, t_V]
  show zthI (zck 0 (wd (yB Y n (zEo 3 [.int (zJ p), .int (zJ q), .int (zJ r), .int (-1), .int 0])) (n + 1) (s + 5) X) (wA (yB Y n (zEo 3 [.int (zJ p), .int (zJ q), .int (zJ r), .int (-1), .int 0])) 1 1) (ev_ G 27 0 [.ref (wA Y 1 1), .ref n] [] _)) _ _ = _
  rw [k1 (hV _ 1 1 h1), e1, t_I]
  show ((zgR 5 1 _ (wA Y 6 0)).bind _) = _
  rw [g', t_b, k1 h1', q_Jx4a65c_size_8abf5_0, g1_2 h1', t_b, t_I, l_1, zJ_sub, e7, show b + 1 - 1 = b by omega]
theorem c_reelR {p q r : Int} (hY : wY Y n) (hG : Y.1 = G.1) (h16 : Y.2.2.2.2 0 3 < 12) : ∃ (Y' : zLy) (n' s' : Nat), ev_ G 127 55 [.ref (wA Y 13 0), .int (zJ p), .int (zJ q), .int (zJ r)] [.int (zJ 1)] (wd Y n s X) = some (.inl (some (.int (zJ (Y.2.2.2.2 0 3)))), wd Y' n' s' (wu (wu (wu (wu (wu (wu X 180 (Y.2.2.2.2 0 3) p) 181 (Y.2.2.2.2 0 3) r) 182 (Y.2.2.2.2 0 3) q) 183 (Y.2.2.2.2 0 3) 0) 184 (Y.2.2.2.2 0 3) 0) 20 3 (X 20 3 + 1))) ∧ wY Y' n' ∧ wle Y n Y' n' ∧ n' ≤ n + 2 ∧ s ≤ s' ∧ s' ≤ s + 70 ∧ Y'.2.2.2.2 0 3 = Y.2.2.2.2 0 3 + 1 ∧ (∀ a i, i ≠ 3 ∨ 2 ≤ a → Y'.2.2.2.2 a i = Y.2.2.2.2 a i) := by
  have hF := wY_F hY
  have h13 : wV Y 13 0 := hF.2.1
  have h1 : wV Y 1 3 := (wY_L hY (.inl ⟨by decide, by have := hY.2.2.2.1; omega⟩)).1
  have hD : (Y.2.2.1 n).1 = 0 := hY.1.2.1.1 n (Nat.le_refl _)
  have hV : ∀ e k i, wV Y k i → wV (yB Y n e) k i := fun e k i h => h
  generalize hb : Y.2.2.2.2 0 3 = b at h16 ⊢
  obtain ⟨Y', n', s', e1, e2, e3, e4, e5, e6, e7, e8⟩ := c_roleadd (Y := Y) (n := n) (s := s + 5) (X := X) (X' := wu (wu (wu (wu (wu X 180 b p) 181 b r) 182 b q) 183 b 0) 184 b 0) (k0 := 9) (l := 3) (b := b) (cs := [.int (zJ p), .int (zJ r), .int (zJ q), .int 0, .int 0]) hY hG (.inr (.inr ⟨rfl, rfl, by omega⟩)) hb.symm (fun k i j h1 h2 => by
    exact (wu_k (k0 := 9) (j0 := 4) (by decide) h1 h2).trans ((wu_k (k0 := 9) (j0 := 3) (by decide) h1 h2).trans ((wu_k (k0 := 9) (j0 := 2) (by decide) h1 h2).trans ((wu_k (k0 := 9) (j0 := 1) (by decide) h1 h2).trans (wu_k (k0 := 9) (j0 := 0) (by decide) h1 h2))))) (fun f j h => by
    rw [wu_ne (by omega), wu_ne (by omega), wu_ne (by omega), wu_ne (by omega), wu_ne (by omega)]) (fun Y0 => by
    have : ∀ X0 : zX, wc Y0 X0 9 b = zEo 8 [.int (zJ (X0 180 b)), .int (zJ (X0 181 b)), .int (zJ (X0 182 b)), .int (zJ (X0 183 b)), .int (zJ (X0 184 b))] := fun X0 => rfl
    rw [this]
    simp (disch := first | assumption | omega) only [wu_eq, wu_ne]
    rfl)
  have e20 : wu (wu (wu (wu (wu X 180 b p) 181 b r) 182 b q) 183 b 0) 184 b 0 20 3 = X 20 3 := by simp (disch := first | assumption | omega) only [wu_ne]
  rw [e20] at e1
  have hF' := wY_F e2
  have h13' : wV Y' 13 0 := hF'.2.1
  have h1' : wV Y' 1 3 := (wY_L e2 (.inl ⟨by decide, by have := e2.2.2.2.1; omega⟩)).1
  have hA13 : wA Y' 13 0 = wA Y 13 0 := (e3.2.2.1 13 0 (by decide) (by decide) h13).2
  have g' := g13_4 (n := n') (s := s') (X := wu (wu (wu (wu (wu (wu X 180 b p) 181 b r) 182 b q) 183 b 0) 184 b 0) 20 3 (X 20 3 + 1)) h13'
  rw [hA13] at g'
  refine ⟨Y', n', s', ?_, e2, e3, e4, by omega, by omega, e7, e8⟩
  have hi : ev_ G 126 0 [.ref n, .int (zJ p), .int (zJ q), .int (zJ r)] [] (wd (yB Y n (zEo 8 [.int 0, .int 0, .int 0, .int 0, .int 0])) (n + 1) (s + 5) X) = some (.inl none, wd (yB Y n (zEo 8 [.int (zJ p), .int (zJ r), .int (zJ q), .int 0, .int 0])) (n + 1) (s + 5) X) := by
    rw [q_X7_init_0, b_pt hD rfl rfl, t_b, b_pt hD rfl rfl, t_b, b_pt hD rfl rfl, t_b]
    rfl
  rw [q_X11_reel_55, q_X11_checkState_0, e_1, t_V, g13_4 h13, t_b, show (wd Y n s X).1 = n from rfl, b_new hD, hi, t_V]
  show zthI (zck 0 (wd (yB Y n (zEo 8 [.int (zJ p), .int (zJ r), .int (zJ q), .int 0, .int 0])) (n + 1) (s + 5) X) (wA (yB Y n (zEo 8 [.int (zJ p), .int (zJ r), .int (zJ q), .int 0, .int 0])) 1 3) (ev_ G 27 0 [.ref (wA Y 1 3), .ref n] [] _)) _ _ = _
  rw [k1 (hV _ 1 3 h1), e1, t_I]
  show ((zgR 12 4 _ (wA Y 13 0)).bind _) = _
  rw [g', t_b, k1 h1', q_Jx4a65c_size_8abf5_0, g1_2 h1', t_b, t_I, l_1, zJ_sub, e7, show b + 1 - 1 = b by omega]
/-- sizes that nothing reads yet -/
theorem wK_q {S : Nat → Int → Prop} {j : Nat} {i v : Int} (hK : wK Y n S) (hj : j = 2 ∨ j = 3 ∨ j = 4) (h2 : j ≠ 4 → ¬S 12 i) (h4 : j = 4 → ∀ l x, S 16 l → (5 ≤ l ∨ l < 0) → l < 29 → 0 ≤ x → x < Y.2.2.2.2 0 l → 16 * (l - 5) + x ≠ i) : wd (yQ Y j i v) n s X = wd Y n s X ∧ wK (yQ Y j i v) n S := by
  obtain ⟨hI, hN, h3, c1, c2⟩ := hK
  have q : ∀ a b, ¬(a = j ∧ b = i) → (yQ Y j i v).2.2.2.2 a b = Y.2.2.2.2 a b := fun a b h => if_neg h
  have hwt : ∀ k i' j', S k i' → k < 15 → j' < wnf k → wtg (yQ Y j i v).2.2.2.2 k j' i' = wtg Y.2.2.2.2 k j' i' := by
    intro k i' j' hs hk hj'
    by_cases hi : i' = i
    · subst hi
      by_cases h12 : k = 12
      · subst h12
        have hj4 : j = 4 := by
          rcases hj with h | h | h
          · exact absurd hs (h2 (by omega))
          · exact absurd hs (h2 (by omega))
          · exact h
        exact wtg_q (fun x => q 2 x (by omega)) (fun x => q 3 x (by omega)) _ _ _
      · have hne : Nat.beq (20 * k + j') 240 = false ∧ Nat.beq (20 * k + j') 242 = false := by
          have hw : k ≤ 13 → wnf k ≤ 20 := by
            have : ∀ k, k < 14 → wnf k ≤ 20 := by decide
            exact fun h => this k (by omega)
          constructor <;> (refine Bool.eq_false_iff.mpr (fun g => ?_); have := Nat.eq_of_beq_eq_true g; by_cases h13 : k ≤ 13 <;> omega)
        unfold wtg
        rw [hne.1, hne.2]
        rfl
    · unfold wtg
      rw [q 2 i' (fun g => hi g.2), q 3 i' (fun g => hi g.2)]
  have hwe : ∀ l x, S 16 l → 0 ≤ x → x < Y.2.2.2.2 0 l → wet (yQ Y j i v).2.2.2.2 l x = wet Y.2.2.2.2 l x := by
    intro l x hs h0 hx
    by_cases hl : (5 ≤ l ∨ l < 0) ∧ l < 29
    · unfold wet
      rw [q 4 (16 * (l - 5) + x) (fun g => h4 g.1.symm l x hs hl.1 hl.2 h0 hx g.2)]
    · unfold wet
      repeat (first | rfl | (exfalso; omega) | split)
  have q0 : ∀ b, (yQ Y j i v).2.2.2.2 0 b = Y.2.2.2.2 0 b := fun b => q 0 b (by omega)
  have q1 : ∀ b, (yQ Y j i v).2.2.2.2 1 b = Y.2.2.2.2 1 b := fun b => q 1 b (by omega)
  constructor
  · refine congrArg (fun M => ((n, s, M) : zW)) (funext fun b => ?_)
    show (wd (yQ Y j i v) n s X).2.2 b = (wd Y n s X).2.2 b
    by_cases hb0 : (Y.2.2.1 b).1 = 0
    · rw [wdx_0 hb0, wdx_0 (show ((yQ Y j i v).2.2.1 b).1 = 0 from hb0)]
      rfl
    · rw [wdx_k (show Y.2.2.1 b = ((Y.2.2.1 b).1, (Y.2.2.1 b).2) from rfl) hb0, wdx_k (show (yQ Y j i v).2.2.1 b = ((Y.2.2.1 b).1, (Y.2.2.1 b).2) from rfl) hb0]
      have hs : S (Y.2.2.1 b).1 (Y.2.2.1 b).2 := by
        rw [← h3 _ _ hb0]
        unfold wV
        rw [← hI b hb0]
      generalize (Y.2.2.1 b).1 = k at hs hb0
      generalize (Y.2.2.1 b).2 = i' at hs
      refine congrArg some (wc_c (fun _ _ => rfl) (fun _ _ _ => rfl) (q0 _) (q1 _) ?_ ?_)
      · intro x a1 a2 a3 a4
        rw [wrf_t, wrf_t, q1, hwt k i' x hs a1 a2]
        rfl
      · intro hk x a1 a2
        subst hk
        rw [wel_t, wel_t, hwe i' x hs a1 a2]
        rfl
  · refine ⟨hI, hN, h3, fun k i' j' a1 a2 a3 a4 a5 a6 => ?_, fun l x a1 a2 a3 => ?_⟩
    · rw [hwt k i' j' a1 a2 a3]
      exact c1 k i' j' a1 a2 a3 a4 a5 (fun g => by rw [← q1]; exact a6 g)
    · rw [q0] at a3
      rw [hwe l x a1 a2 a3]
      exact c2 l x a1 a2 a3
end ZS
