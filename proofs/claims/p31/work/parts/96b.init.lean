/-! THE TWO SIDES, 95: the class's parts are made -/
theorem wdn_e {Y : zLy} {n s : Nat} {X : zX} : (wd Y n s X).1 = n := rfl
section ZS
variable {Y Y' Y2 : zLy} {n n' n2 s : Nat} {X X' : zX} {G : Nat × Nat} {R : List (Nat × Int × Nat)} {A : List (Nat × zE)}
theorem con_newW {ci m : Nat} {fs : List Value} (h : zCon G Y n R A) : znew ci m fs (wd Y n s X) = wd (yB Y n (zEo ci fs)) (n + 1) (s + m) X := b_new (h.1.2.1.1 n (Nat.le_refl _))
theorem con_A {k : Nat} {i : Int} {a : Nat} (h : zCon G Y n R A) (hm : (k, i, a) ∈ R) : wA Y k i = a := (h.2.2.2.1 k i a hm).1
theorem con_V {k : Nat} {i : Int} (h : zCon G Y n R A) (hm : zhas R k i = true) (h0 : k ≠ 0) : wV Y k i := (h.1.2.2.1 k i h0).mpr (zhas_e hm)
theorem n_net (h : zCon G Y n [] A) (x0 : X 20 0 = 0) (x1 : X 20 1 = 0) (x2 : X 20 2 = 0) (x3 : ∀ j, X 500 j = 0) : ∃ (Y' : zLy) (n' s' p a1 a2 a3 a4 : Nat), ev_ G 4 0 [.ref n] [] (znew 5 4 [.null, .null, .null, .null] (wd Y n s X)) = some (.inl none, wd Y' n' s' X) ∧ zCon G Y' n' [(6, 0, n), (10, 0, a4), (15, 0, p), (1, 2, a3), (1, 1, a2), (1, 0, a1)] A ∧ n ≤ n' ∧ n' ≤ n + 10 ∧ s ≤ s' ∧ s' ≤ s + 50 := by
  have h1 := con_new (e := zEo 5 [.null, .null, .null, .null]) h
  rw [con_newW h, q_X4_init_0, wdn_e]
  obtain ⟨Y2, e2, h2⟩ := con_list (l := 0) (s := s + 4) (X := X) h1 rfl x0
  rw [e2, t_V]
  obtain ⟨e3, h3⟩ := con_pt (j := 0) (v := .ref (n + 1)) (s := s + 4 + 3) (X := X) h2 rfl rfl
  rw [e3, t_b, wdn_e]
  obtain ⟨Y4, e4, h4⟩ := con_list (l := 1) (s := s + 4 + 3) (X := X) h3 rfl x1
  rw [e4, t_V]
  obtain ⟨e5, h5⟩ := con_pt (j := 1) (v := .ref (n + 1 + 1)) (s := s + 4 + 3 + 3) (X := X) h4 rfl rfl
  rw [e5, t_b, wdn_e]
  obtain ⟨Y6, e6, h6⟩ := con_list (l := 2) (s := s + 4 + 3 + 3) (X := X) h5 rfl x2
  rw [e6, t_V]
  obtain ⟨e7, h7⟩ := con_pt (j := 2) (v := .ref (n + 1 + 1 + 1)) (s := s + 4 + 3 + 3 + 3) (X := X) h6 rfl rfl
  rw [e7, t_b, wdn_e]
  obtain ⟨Y8, p, e8, h8⟩ := con_row (r := 0) (m := 8) (s := s + 4 + 3 + 3 + 3) (X := X) h7 (by decide) rfl rfl rfl rfl x3
  rw [show (8 : Int32) = zJ ((8 : Nat) : Int) from rfl, e8, t_V]
  obtain ⟨e9, h9⟩ := con_pt (j := 3) (v := .ref (n + 1 + 1 + 1 + 1)) (s := s + 4 + 3 + 3 + 3 + 1 + 8) (X := X) h8 rfl rfl
  rw [e9, t_b]
  obtain ⟨w, h10⟩ := con_role (k0 := 6) (i0 := 0) (s := s + 4 + 3 + 3 + 3 + 1 + 8) (X := X) h9 (by decide) (by decide) rfl (fun j _ j2 _ _ _ => by
    have : j = 0 ∨ j = 1 ∨ j = 2 ∨ j = 3 := by
      have : j < 4 := j2
      omega
    rcases this with rfl | rfl | rfl | rfl <;> rfl) (by
    have : ∀ (Y0 : zLy) (X0 : zX), wc Y0 X0 6 0 = zEo 5 [.ref (wA Y0 1 0), .ref (wA Y0 1 1), .ref (wA Y0 1 2), .ref (wA Y0 10 0)] := fun _ _ => rfl
    rw [this, yR_A (by decide), yR_A (by decide), yR_A (by decide), yR_A (by decide), con_A h9 (k := 1) (i := 0) (a := n + 1) (by simp), con_A h9 (k := 1) (i := 1) (a := n + 1 + 1) (by simp), con_A h9 (k := 1) (i := 2) (a := n + 1 + 1 + 1) (by simp), con_A h9 (k := 10) (i := 0) (a := n + 1 + 1 + 1 + 1) (by simp)]
    rfl)
  rw [w]
  exact ⟨_, _, _, p, _, _, _, _, rfl, h10, by omega, by omega, by omega, by omega⟩
theorem n_orders (h : zCon G Y n R A) (r1 : zno R 7 0 = true) (r2 : zno R 10 1 = true) (r3 : zno R 10 2 = true) (r4 : zno R 10 3 = true) (r5 : zno R 10 4 = true) (r6 : zno R 15 1 = true) (r7 : zno R 15 2 = true) (r8 : zno R 15 3 = true) (r9 : zno R 15 4 = true) (x1 : ∀ f j, 501 ≤ f → f ≤ 504 → X f j = 0) (x2 : X 144 0 = 0) : ∃ (Y' : zLy) (n' s' p1 p2 p3 p4 a1 a2 a3 a4 : Nat), ev_ G 5 0 [.ref n] [] (znew 6 5 [.null, .null, .null, .null, .int 0] (wd Y n s X)) = some (.inl none, wd Y' n' s' X) ∧ zCon G Y' n' ((7, 0, n) :: (10, 4, a4) :: (15, 4, p4) :: (10, 3, a3) :: (15, 3, p3) :: (10, 2, a2) :: (15, 2, p2) :: (10, 1, a1) :: (15, 1, p1) :: R) A ∧ n ≤ n' ∧ n' ≤ n + 10 ∧ s ≤ s' ∧ s' ≤ s + 100 := by
  have zn : ∀ {k : Nat} {i : Int} {r : Nat × Int × Nat} {R : List (Nat × Int × Nat)}, zno R k i = true → (Nat.beq r.1 k && decide (r.2.1 = i)) = false → zno (r :: R) k i = true := by
    intro k i r R h h'
    unfold zno at *
    rw [List.all_cons, h, h']
    rfl
  have h1 := con_new (e := zEo 6 [.null, .null, .null, .null, .int 0]) h
  rw [con_newW h, q_X5_init_0, wdn_e]
  obtain ⟨Y2, p1, e2, h2⟩ := con_row (r := 1) (m := 5) (s := s + 5) (X := X) h1 (by decide) rfl rfl r6 r2 (fun j => x1 501 j (by decide) (by decide))
  rw [show (5 : Int32) = zJ ((5 : Nat) : Int) from rfl, show (32 : Int32) = zJ ((32 : Nat) : Int) from rfl, e2, t_V]
  obtain ⟨e3, h3⟩ := con_pt (j := 0) (v := .ref (n + 1)) (s := s + 5 + 1 + 5) (X := X) h2 rfl rfl
  rw [e3, t_b, wdn_e]
  obtain ⟨Y4, p2, e4, h4⟩ := con_row (r := 2) (m := 5) (s := s + 5 + 1 + 5) (X := X) h3 (by decide) rfl rfl (zn (zn r7 rfl) rfl) (zn (zn r3 rfl) rfl) (fun j => x1 502 j (by decide) (by decide))
  rw [e4, t_V]
  obtain ⟨e5, h5⟩ := con_pt (j := 1) (v := .ref (n + 1 + 2)) (s := s + 5 + 1 + 5 + 1 + 5) (X := X) h4 rfl rfl
  rw [e5, t_b, wdn_e]
  obtain ⟨Y6, p3, e6, h6⟩ := con_row (r := 3) (m := 32) (s := s + 5 + 1 + 5 + 1 + 5) (X := X) h5 (by decide) rfl rfl (zn (zn (zn (zn r8 rfl) rfl) rfl) rfl) (zn (zn (zn (zn r4 rfl) rfl) rfl) rfl) (fun j => x1 503 j (by decide) (by decide))
  rw [e6, t_V]
  obtain ⟨e7, h7⟩ := con_pt (j := 2) (v := .ref (n + 1 + 2 + 2)) (s := s + 5 + 1 + 5 + 1 + 5 + 1 + 32) (X := X) h6 rfl rfl
  rw [e7, t_b, wdn_e]
  obtain ⟨Y8, p4, e8, h8⟩ := con_row (r := 4) (m := 32) (s := s + 5 + 1 + 5 + 1 + 5 + 1 + 32) (X := X) h7 (by decide) rfl rfl (zn (zn (zn (zn (zn (zn r9 rfl) rfl) rfl) rfl) rfl) rfl) (zn (zn (zn (zn (zn (zn r5 rfl) rfl) rfl) rfl) rfl) rfl) (fun j => x1 504 j (by decide) (by decide))
  rw [e8, t_V]
  obtain ⟨e9, h9⟩ := con_pt (j := 3) (v := .ref (n + 1 + 2 + 2 + 2)) (s := s + 5 + 1 + 5 + 1 + 5 + 1 + 32 + 1 + 32) (X := X) h8 rfl rfl
  rw [e9, t_b]
  obtain ⟨w, h11⟩ := con_role (k0 := 7) (i0 := 0) (s := s + 5 + 1 + 5 + 1 + 5 + 1 + 32 + 1 + 32) (X := X) h9 (by decide) (by decide) (zn (zn (zn (zn (zn (zn (zn (zn r1 rfl) rfl) rfl) rfl) rfl) rfl) rfl) rfl) (fun j _ j2 j3 _ _ => by
    have : j = 0 ∨ j = 1 ∨ j = 2 ∨ j = 3 ∨ j = 4 := by
      have : j < 5 := j2
      omega
    rcases this with rfl | rfl | rfl | rfl | rfl
    · rfl
    · rfl
    · rfl
    · rfl
    · cases j3) (by
    have : ∀ (Y0 : zLy) (X0 : zX), wc Y0 X0 7 0 = zEo 6 [.ref (wA Y0 10 1), .ref (wA Y0 10 2), .ref (wA Y0 10 3), .ref (wA Y0 10 4), .int (zJ (X0 144 0))] := fun _ _ => rfl
    rw [this, yR_A (by decide), yR_A (by decide), yR_A (by decide), yR_A (by decide), con_A h9 (k := 10) (i := 1) (a := n + 1) (by simp), con_A h9 (k := 10) (i := 2) (a := n + 1 + 2) (by simp), con_A h9 (k := 10) (i := 3) (a := n + 1 + 2 + 2) (by simp), con_A h9 (k := 10) (i := 4) (a := n + 1 + 2 + 2 + 2) (by simp), x2]
    rfl)
  rw [w]
  exact ⟨_, _, _, p1, p2, p3, p4, _, _, _, _, rfl, h11, by omega, by omega, by omega, by omega⟩
end ZS
