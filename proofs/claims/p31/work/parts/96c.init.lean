/-! THE TWO SIDES, 96: the class's parts are made, on -/
def zov (X : zX) : zX := fun f j => if f = 508 ∧ 0 ≤ j ∧ j < 6 then 260 else if f = 507 ∧ 0 ≤ j ∧ j < 6 then 180 else wu (wu (wu (wu X 506 0 150) 506 1 200) 506 2 240) 506 3 100 f j
section ZS
variable {Y Y' Y2 : zLy} {n n' n2 s : Nat} {X X' : zX} {G : Nat × Nat} {R : List (Nat × Int × Nat)} {A : List (Nat × zE)}
theorem zno_c {k : Nat} {i : Int} {r : Nat × Int × Nat} (h : zno R k i = true) (h' : (Nat.beq r.1 k && decide (r.2.1 = i)) = false) : zno (r :: R) k i = true := by
  unfold zno at *
  rw [List.all_cons, h, h']
  rfl
theorem n_crimper (h : zCon G Y n R A) (r1 : zno R 5 0 = true) (r2 : zno R 10 5 = true) (r3 : zno R 15 5 = true) (x1 : ∀ j, X 505 j = 0) (x2 : X 100 0 = 0) (x3 : X 101 0 = 0) (x4 : X 103 0 = 0) : ∃ (Y' : zLy) (n' s' p1 a1 : Nat), ev_ G 6 0 [.ref n] [] (znew 4 4 [.int 0, .int 0, .null, .int 0] (wd Y n s X)) = some (.inl none, wd Y' n' s' X) ∧ zCon G Y' n' ((5, 0, n) :: (10, 5, a1) :: (15, 5, p1) :: R) A ∧ n ≤ n' ∧ n' ≤ n + 5 ∧ s ≤ s' ∧ s' ≤ s + 20 := by
  have h1 := con_new (e := zEo 4 [.int 0, .int 0, .null, .int 0]) h
  rw [con_newW h, q_X3_init_0, wdn_e]
  obtain ⟨Y2, p1, e2, h2⟩ := con_row (r := 5) (m := 8) (s := s + 4) (X := X) h1 (by decide) rfl rfl r3 r2 x1
  rw [show (8 : Int32) = zJ ((8 : Nat) : Int) from rfl, e2, t_V]
  obtain ⟨e3, h3⟩ := con_pt (j := 2) (v := .ref (n + 1)) (s := s + 4 + 1 + 8) (X := X) h2 rfl rfl
  rw [e3, t_b]
  obtain ⟨w, h4⟩ := con_role (k0 := 5) (i0 := 0) (s := s + 4 + 1 + 8) (X := X) h3 (by decide) (by decide) (zno_c (zno_c r1 rfl) rfl) (fun j _ j2 j3 _ _ => by
    have : j = 0 ∨ j = 1 ∨ j = 2 ∨ j = 3 := by
      have : j < 4 := j2
      omega
    rcases this with rfl | rfl | rfl | rfl
    · cases j3
    · cases j3
    · rfl
    · cases j3) (by
    have : ∀ (Y0 : zLy) (X0 : zX), wc Y0 X0 5 0 = zEo 4 [.int (zJ (X0 100 0)), .int (zJ (X0 101 0)), .ref (wA Y0 10 5), .int (zJ (X0 103 0))] := fun _ _ => rfl
    rw [this, yR_A (by decide), con_A h3 (k := 10) (i := 5) (a := n + 1) (by simp), x2, x3, x4]
    rfl)
  rw [w]
  exact ⟨_, _, _, p1, _, rfl, h4, by omega, by omega, by omega, by omega⟩
theorem n_oven (h : zCon G Y n R A) (r1 : zno R 8 0 = true) (r2 : zno R 10 6 = true) (r3 : zno R 10 7 = true) (r4 : zno R 10 8 = true) (r5 : zno R 15 6 = true) (r6 : zno R 15 7 = true) (r7 : zno R 15 8 = true) (x1 : ∀ f j, 506 ≤ f → f ≤ 508 → X f j = 0) : ∃ (Y' : zLy) (n' s' p1 p2 p3 a1 a2 a3 : Nat), ev_ G 9 0 [.ref n] [] (znew 7 3 [.null, .null, .null] (wd Y n s X)) = some (.inl none, wd Y' n' s' (zov X)) ∧ zCon G Y' n' ((8, 0, n) :: (10, 8, a3) :: (15, 8, p3) :: (10, 7, a2) :: (15, 7, p2) :: (10, 6, a1) :: (15, 6, p1) :: R) A ∧ n ≤ n' ∧ n' ≤ n + 10 ∧ s ≤ s' ∧ s' ≤ s + 40 := by
  have h1 := con_new (e := zEo 7 [.null, .null, .null]) h
  rw [con_newW h, q_X6_init_0, wdn_e]
  obtain ⟨Y2, p1, e2, h2⟩ := con_row (r := 6) (m := 4) (s := s + 3) (X := X) h1 (by decide) rfl rfl r5 r2 (fun j => x1 506 j (by decide) (by decide))
  rw [show (4 : Int32) = zJ ((4 : Nat) : Int) from rfl, show (6 : Int32) = zJ ((6 : Nat) : Int) from rfl, e2, t_V]
  obtain ⟨e3, h3⟩ := con_pt (j := 0) (v := .ref (n + 1)) (s := s + 3 + 1 + 4) (X := X) h2 rfl rfl
  rw [e3, t_b, wdn_e]
  obtain ⟨Y4, p2, e4, h4⟩ := con_row (r := 7) (m := 6) (s := s + 3 + 1 + 4) (X := X) h3 (by decide) rfl rfl (zno_c (zno_c r6 rfl) rfl) (zno_c (zno_c r3 rfl) rfl) (fun j => x1 507 j (by decide) (by decide))
  rw [e4, t_V]
  obtain ⟨e5, h5⟩ := con_pt (j := 1) (v := .ref (n + 1 + 2)) (s := s + 3 + 1 + 4 + 1 + 6) (X := X) h4 rfl rfl
  rw [e5, t_b, wdn_e]
  obtain ⟨Y6, p3, e6, h6⟩ := con_row (r := 8) (m := 6) (s := s + 3 + 1 + 4 + 1 + 6) (X := X) h5 (by decide) rfl rfl (zno_c (zno_c (zno_c (zno_c r7 rfl) rfl) rfl) rfl) (zno_c (zno_c (zno_c (zno_c r4 rfl) rfl) rfl) rfl) (fun j => x1 508 j (by decide) (by decide))
  rw [e6, t_V]
  obtain ⟨e7, h7⟩ := con_pt (j := 2) (v := .ref (n + 1 + 2 + 2)) (s := s + 3 + 1 + 4 + 1 + 6 + 1 + 6) (X := X) h6 rfl rfl
  rw [e7, t_b]
  generalize yB Y6 n _ = Y7 at *
  obtain ⟨b1, b2, b3, b4⟩ := h7.2.2.2.2.1 n _ (List.mem_cons_self ..)
  have v6 : wV Y7 10 6 := con_V h7 rfl (by decide)
  have v7 : wV Y7 10 7 := con_V h7 rfl (by decide)
  have v8 : wV Y7 10 8 := con_V h7 rfl (by decide)
  have u6 : wV Y7 15 6 := con_V h7 rfl (by decide)
  have u7 : wV Y7 15 7 := con_V h7 rfl (by decide)
  have u8 : wV Y7 15 8 := con_V h7 rfl (by decide)
  have hI := h7.1.1
  have a6 : wA Y7 10 6 = n + 1 := con_A h7 (by simp)
  have a7 : wA Y7 10 7 = n + 1 + 2 := con_A h7 (by simp)
  have a8 : wA Y7 10 8 = n + 1 + 2 + 2 := con_A h7 (by simp)
  have g6 : ∀ m s X, zgR 7 0 (wd Y7 m s X) n = some (wA Y7 10 6) := fun m s X => by rw [a6]; exact b_gR2 b3 b4 rfl
  have g7 : ∀ m s X, zgR 7 1 (wd Y7 m s X) n = some (wA Y7 10 7) := fun m s X => by rw [a7]; exact b_gR2 b3 b4 rfl
  have g8 : ∀ m s X, zgR 7 2 (wd Y7 m s X) n = some (wA Y7 10 8) := fun m s X => by rw [a8]; exact b_gR2 b3 b4 rfl
  have q0 : ∀ m s X, ev_ G 7 0 [.ref (wA Y7 10 6), .int 0, .int 150] [] (wd Y7 m s X) = some (.inl none, wd Y7 m s (wu X 506 0 150)) := fun m s X => c_put (r := 6) (i := 0) (v := 150) v6 u6 hI (by decide) rfl (by decide) (by decide)
  have q1 : ∀ m s X, ev_ G 7 0 [.ref (wA Y7 10 6), .int 1, .int 200] [] (wd Y7 m s X) = some (.inl none, wd Y7 m s (wu X 506 1 200)) := fun m s X => c_put (r := 6) (i := 1) (v := 200) v6 u6 hI (by decide) rfl (by decide) (by decide)
  have q2 : ∀ m s X, ev_ G 7 0 [.ref (wA Y7 10 6), .int 2, .int 240] [] (wd Y7 m s X) = some (.inl none, wd Y7 m s (wu X 506 2 240)) := fun m s X => c_put (r := 6) (i := 2) (v := 240) v6 u6 hI (by decide) rfl (by decide) (by decide)
  have q3 : ∀ m s X, ev_ G 7 0 [.ref (wA Y7 10 6), .int 3, .int 100] [] (wd Y7 m s X) = some (.inl none, wd Y7 m s (wu X 506 3 100)) := fun m s X => c_put (r := 6) (i := 3) (v := 100) v6 u6 hI (by decide) rfl (by decide) (by decide)
  have q4 : ∀ m s X, ev_ G 8 0 [.ref (wA Y7 10 7), .int 180, zU] [] (wd Y7 m s X) = some (.inl none, wd Y7 m s (fun f j => if f = 507 ∧ 0 ≤ j ∧ j < 6 then 180 else X f j)) := fun m s X => c_fill (r := 7) (v := 180) v7 u7 hI (by decide) rfl
  have q5 : ∀ m s X, ev_ G 8 0 [.ref (wA Y7 10 8), .int 260, zU] [] (wd Y7 m s X) = some (.inl none, wd Y7 m s (fun f j => if f = 508 ∧ 0 ≤ j ∧ j < 6 then 260 else X f j)) := fun m s X => c_fill (r := 8) (v := 260) v8 u8 hI (by decide) rfl
  rw [g6, t_b, k10 v6, q0, t_V, g6, t_b, k10 v6, q1, t_V, g6, t_b, k10 v6, q2, t_V, g6, t_b, k10 v6, q3, t_V, g7, t_b, k10 v7, q4, t_V, g8, t_b, k10 v8, q5, t_V]
  obtain ⟨w, h8⟩ := con_role (k0 := 8) (i0 := 0) (s := s + 3 + 1 + 4 + 1 + 6 + 1 + 6) (X := zov X) h7 (by decide) (by decide) (zno_c (zno_c (zno_c (zno_c (zno_c (zno_c r1 rfl) rfl) rfl) rfl) rfl) rfl) (fun j _ j2 j3 _ _ => by
    have : j = 0 ∨ j = 1 ∨ j = 2 := by
      have : j < 3 := j2
      omega
    rcases this with rfl | rfl | rfl <;> rfl) (by
    have : ∀ (Y0 : zLy) (X0 : zX), wc Y0 X0 8 0 = zEo 7 [.ref (wA Y0 10 6), .ref (wA Y0 10 7), .ref (wA Y0 10 8)] := fun _ _ => rfl
    rw [this, yR_A (by decide), yR_A (by decide), yR_A (by decide), a6, a7, a8]
    rfl)
  refine ⟨_, _, s + 3 + 1 + 4 + 1 + 6 + 1 + 6, p1, p2, p3, _, _, _, ?_, h8, by omega, by omega, by omega, by omega⟩
  rw [← w]
  rfl
end ZS
