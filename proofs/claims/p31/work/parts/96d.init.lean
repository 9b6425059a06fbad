/-! THE TWO SIDES, 97: the class's object is made -/
section ZS
variable {Y Y' Y2 : zLy} {n n' n2 s : Nat} {X X' : zX} {G : Nat × Nat} {R : List (Nat × Int × Nat)} {A : List (Nat × zE)}
/-- all numbers at first -/
def zXz : zX := fun f _ => if f = 266 then 255 else 0
theorem zXz_0 {f j : Int} (h : f ≠ 266) : zXz f j = 0 := if_neg h
theorem n_class (h : zCon G Y n [] A) : ∃ (Y' : zLy) (n' s' b1 b2 b3 b4 b5 b6 b7 b8 b9 c1 c2 c3 c4 c5 c6 c7 c8 c9 d0 d1 d2 d3 d4 e1 e2 e3 e4 : Nat), ev_ G 10 0 [.ref n] [] (znew 12 8 [.null, .null, .null, .null, .null, .null, .int 0, .int 0] (wd Y n s zXz)) = some (.inl none, wd Y' n' s' (zov zXz)) ∧ zCon G Y' n' [(13, 0, n), (1, 4, d4), (1, 3, d3), (8, 0, e4), (10, 8, c9), (15, 8, b9), (10, 7, c8), (15, 7, b8), (10, 6, c7), (15, 6, b7), (5, 0, e3), (10, 5, c6), (15, 5, b6), (7, 0, e2), (10, 4, c5), (15, 4, b5), (10, 3, c4), (15, 3, b4), (10, 2, c3), (15, 2, b3), (10, 1, c2), (15, 1, b2), (6, 0, e1), (10, 0, c1), (15, 0, b1), (1, 2, d2), (1, 1, d1), (1, 0, d0)] A ∧ n ≤ n' ∧ n' ≤ n + 50 ∧ s ≤ s' ∧ s' ≤ s + 300 := by
  have zi : ∀ f j, f ≠ 508 → f ≠ 507 → f ≠ 506 → zov zXz f j = zXz f j := by
    intro f j h1 h2 h3
    unfold zov
    rw [if_neg (fun g => h1 g.1), if_neg (fun g => h2 g.1), wu_ne h3, wu_ne h3, wu_ne h3, wu_ne h3]
  have h1 := con_new (e := zEo 12 [.null, .null, .null, .null, .null, .null, .int 0, .int 0]) h
  rw [con_newW h, q_X11_init_0, wdn_e]
  obtain ⟨Y2, n2, s2, b1, d0, d1, d2, c1, f2, h2, l2, l2', m2, m2'⟩ := n_net (G := G) (s := s + 8) (X := zXz) h1 rfl rfl rfl (fun _ => rfl)
  rw [f2, t_V]
  obtain ⟨f3, h3⟩ := con_pt (j := 0) (v := .ref (n + 1)) (s := s2) (X := zXz) h2 rfl rfl
  rw [f3, t_b, wdn_e]
  obtain ⟨Y4, n4, s4, b2, b3, b4, b5, c2, c3, c4, c5, f4, h4, l4, l4', m4, m4'⟩ := n_orders (G := G) (s := s2) (X := zXz) h3 rfl rfl rfl rfl rfl rfl rfl rfl rfl (fun f j a b => zXz_0 (by omega)) rfl
  rw [f4, t_V]
  obtain ⟨f5, h5⟩ := con_pt (j := 1) (v := .ref n2) (s := s4) (X := zXz) h4 rfl rfl
  rw [f5, t_b, wdn_e]
  obtain ⟨Y6, n6, s6, b6, c6, f6, h6, l6, l6', m6, m6'⟩ := n_crimper (G := G) (s := s4) (X := zXz) h5 rfl rfl rfl (fun _ => rfl) rfl rfl rfl
  rw [f6, t_V]
  obtain ⟨f7, h7⟩ := con_pt (j := 2) (v := .ref n4) (s := s6) (X := zXz) h6 rfl rfl
  rw [f7, t_b, wdn_e]
  obtain ⟨Y8, n8, s8, b7, b8, b9, c7, c8, c9, f8, h8, l8, l8', m8, m8'⟩ := n_oven (G := G) (s := s6) (X := zXz) h7 rfl rfl rfl rfl rfl rfl rfl (fun f j a b => zXz_0 (by omega))
  rw [f8, t_V]
  obtain ⟨f9, h9⟩ := con_pt (j := 3) (v := .ref n6) (s := s8) (X := zov zXz) h8 rfl rfl
  rw [f9, t_b, wdn_e]
  obtain ⟨Y10, f10, h10⟩ := con_list (G := G) (l := 3) (s := s8) (X := zov zXz) h9 rfl (by rw [zi _ _ (by decide) (by decide) (by decide)]; rfl)
  rw [f10, t_V]
  obtain ⟨f11, h11⟩ := con_pt (j := 4) (v := .ref n8) (s := s8 + 3) (X := zov zXz) h10 rfl rfl
  rw [f11, t_b, wdn_e]
  obtain ⟨Y12, f12, h12⟩ := con_list (G := G) (l := 4) (s := s8 + 3) (X := zov zXz) h11 rfl (by rw [zi _ _ (by decide) (by decide) (by decide)]; rfl)
  rw [f12, t_V]
  obtain ⟨f13, h13⟩ := con_pt (j := 5) (v := .ref (n8 + 1)) (s := s8 + 3 + 3) (X := zov zXz) h12 rfl rfl
  rw [f13, t_b]
  obtain ⟨f14, h14⟩ := con_pt (j := 6) (v := .int 255) (s := s8 + 3 + 3) (X := zov zXz) h13 rfl rfl
  rw [f14, t_b]
  obtain ⟨f15, h15⟩ := con_pt (j := 7) (v := .int 0) (s := s8 + 3 + 3) (X := zov zXz) h14 rfl rfl
  rw [f15, t_b]
  obtain ⟨w, h16⟩ := con_role (k0 := 13) (i0 := 0) (s := s8 + 3 + 3) (X := zov zXz) h15 (by decide) (by decide) rfl (fun j _ j2 j3 _ _ => by
    have : j = 0 ∨ j = 1 ∨ j = 2 ∨ j = 3 ∨ j = 4 ∨ j = 5 ∨ j = 6 ∨ j = 7 := by
      have : j < 8 := j2
      omega
    rcases this with rfl | rfl | rfl | rfl | rfl | rfl | rfl | rfl
    · rfl
    · rfl
    · rfl
    · rfl
    · rfl
    · rfl
    · cases j3
    · cases j3) (by
    have : ∀ (Y0 : zLy) (X0 : zX), wc Y0 X0 13 0 = zEo 12 [.ref (wA Y0 6 0), .ref (wA Y0 7 0), .ref (wA Y0 5 0), .ref (wA Y0 8 0), .ref (wA Y0 1 3), .ref (wA Y0 1 4), .int (zJ (X0 266 0)), .int (zJ (X0 267 0))] := fun _ _ => rfl
    rw [this, yR_A (by decide), yR_A (by decide), yR_A (by decide), yR_A (by decide), yR_A (by decide), yR_A (by decide), con_A h15 (k := 6) (i := 0) (a := n + 1) (by simp), con_A h15 (k := 7) (i := 0) (a := n2) (by simp), con_A h15 (k := 5) (i := 0) (a := n4) (by simp), con_A h15 (k := 8) (i := 0) (a := n6) (by simp), con_A h15 (k := 1) (i := 3) (a := n8) (by simp), con_A h15 (k := 1) (i := 4) (a := n8 + 1) (by simp), zi _ _ (by decide) (by decide) (by decide), zi _ _ (by decide) (by decide) (by decide)]
    rfl)
  rw [w]
  exact ⟨_, _, _, b1, b2, b3, b4, b5, b6, b7, b8, b9, c1, c2, c3, c4, c5, c6, c7, c8, c9, d0, d1, d2, _, _, _, _, _, _, rfl, h16, by omega, by omega, by omega, by omega⟩
end ZS
