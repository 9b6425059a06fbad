/-! THE LAW, 2: the plain cases (printed by laws.py) -/
section ZL
variable {Y Y' : zLy} {n n' s s' : Nat} {X X' X2 : zX} {G : Nat × Nat} {ps o m : Nat} {fa : Nat → Int32} {t i : Int} {u5 u6 : Value}
theorem lg_self (x : Int64) : lg_cmp x x = 0 := by
  unfold lg_cmp
  simp
/-- a number of the script -/
def zRdN (fa : Nat → Int32) (i j : Int) : Int := (fa (i + j).toNat).toInt
theorem zRdN_r (fa : Nat → Int32) (i j : Int) : -2147483648 ≤ zRdN fa i j ∧ zRdN fa i j < 2147483648 := zti _
theorem zSc_l {j : Int} (h : zSc Y n ps o m fa) (hm : m ≤ 4000) (hi : 0 ≤ i ∧ i + 5 < m) (hj : 0 ≤ j ∧ j ≤ 5) : zld false (wd Y n s X) ps (zJ i + zJ j) = some (zJ (zRdN fa i j)) := by
  rw [zJ_add, zSc_ld h hm (by omega) (by omega)]
  exact congrArg some (zJ_of _)
/-- the law goes on behind a call -/
def zNx (G : Nat × Nat) (t : Int) (ps o m : Nat) (fa : Nat → Int32) (Y : zLy) (n s : Nat) (X : zX) (i : Int) (u5 u6 : Value) (pc : Nat) : Prop := ∃ (Y' : zLy) (n' s' : Nat) (X' : zX) (v5 v6 : Value), ev_ G 205 pc [.ref ps, .ref (wA Y 13 0), .ref (wA Y 14 0), .ref o, .int (zJ i), u5, u6] [] (wd Y n s X) = ev_ G 205 2075 [.ref ps, .ref (wA Y' 13 0), .ref (wA Y' 14 0), .ref o, .int (zJ i), v5, v6] [] (wd Y' n' s' X') ∧ zSt G (t + 1) ps o m fa Y' n' X' ∧ n' ≤ n + 30 ∧ s' ≤ s + 500
theorem zJ_n0 {c : Int} (h : 0 ≤ c ∧ c < 100) (h' : c ≠ 0) : ¬zJ c = 0 := by
  rw [show (0 : Int32) = zJ 0 from rfl, zJ_eq (by omega) (by omega) (by omega) (by omega)]
  exact h' 
theorem L_bundle (hs : zSt G t ps o m fa Y n X) (hm : m ≤ 4000) (hi : 0 ≤ i ∧ i + 5 < m) (ht : t < 1000) : zNx G t ps o m fa Y n s X i u5 u6 168 := by
  obtain ⟨hY, hG, hI, hc⟩ := id hs
  have hV13 : wV Y 13 0 := (wY_F hY).2.1
  have r1 : zld false (wd Y n s X) ps (zJ i + 1) = some (zJ (zRdN fa i 1)) := zSc_l (j := 1) hc hm hi (by decide)
  have r2 : zld false (wd Y n s X) ps (zJ i + 2) = some (zJ (zRdN fa i 2)) := zSc_l (j := 2) hc hm hi (by decide)
  have r3 : zld false (wd Y n s X) ps (zJ i + 3) = some (zJ (zRdN fa i 3)) := zSc_l (j := 3) hc hm hi (by decide)
  have r4 : zld false (wd Y n s X) ps (zJ i + 4) = some (zJ (zRdN fa i 4)) := zSc_l (j := 4) hc hm hi (by decide)
  obtain ⟨Y', n', s', X1, X2, code, a, e1, e2, e3, e4, hs', a13, a14, hV', b, c1, c2⟩ := law_step (s := s) (wr := fun W => ev_ G 30 0 [.ref (wA Y 13 0), .int (zJ (zRdN fa i 1)), .int (zJ (zRdN fa i 2)), .int (zJ (zRdN fa i 3)), .int (zJ (zRdN fa i 4)), .ref o, zU] [] W) (st := fun x => x.toInt64) hs (k_bundle hY hG hI (zRdN_r _ _ _) (zRdN_r _ _ _) (zRdN_r _ _ _) (zRdN_r _ _ _)) (by
    show ev_ G 30 0 _ [] _ = _
    rw [q_L_bundle_0, k13 hV13]) (fun E code h W => by
    simp only [List.mem_cons, List.not_mem_nil, or_false, Prod.mk.injEq] at h
    first
      | (rcases h with h | h | h <;> (obtain ⟨rfl, rfl⟩ := h; rfl))
      | (rcases h with h | h <;> (obtain ⟨rfl, rfl⟩ := h; rfl))
      | (obtain ⟨rfl, rfl⟩ := h; rfl))
  obtain ⟨-, -, -, hc'⟩ := id hs'
  have r1' : zld false (wd Y' n' s' X1) ps (zJ i + 1) = some (zJ (zRdN fa i 1)) := zSc_l (j := 1) hc' hm hi (by decide)
  have r2' : zld false (wd Y' n' s' X1) ps (zJ i + 2) = some (zJ (zRdN fa i 2)) := zSc_l (j := 2) hc' hm hi (by decide)
  have r3' : zld false (wd Y' n' s' X1) ps (zJ i + 3) = some (zJ (zRdN fa i 3)) := zSc_l (j := 3) hc' hm hi (by decide)
  have r4' : zld false (wd Y' n' s' X1) ps (zJ i + 4) = some (zJ (zRdN fa i 4)) := zSc_l (j := 4) hc' hm hi (by decide)
  have kk : ∀ (n s : Nat) (X : zX) (r : zR), zck 13 (wd Y' n s X) (wA Y 14 0) r = r := fun n s X r => by rw [← a14]; exact k14 hV'
  refine ⟨Y', n', s', X2, .int (zJ code), .int (zJ a), ?_, hs', c1, c2⟩
  rw [a13, a14, q_L_law_168, r1, t_b, r2, t_b, r3, t_b, r4, t_b, e1, t_I, r1', t_b, r2', t_b, r3', t_b, r4', t_b, kk, e2, t_I, kk, e3, t_I, if_pos rfl]
  by_cases q : code = 0
  · have q' : zJ code = 0 := by rw [q]; rfl
    rw [if_pos q', e4 q, t_b, if_pos (lg_self _)]
  · rw [if_neg (zJ_n0 b q)]
theorem L_connector (hs : zSt G t ps o m fa Y n X) (hm : m ≤ 4000) (hi : 0 ≤ i ∧ i + 5 < m) (ht : t < 1000) : zNx G t ps o m fa Y n s X i u5 u6 260 := by
  obtain ⟨hY, hG, hI, hc⟩ := id hs
  have hV13 : wV Y 13 0 := (wY_F hY).2.1
  have r1 : zld false (wd Y n s X) ps (zJ i + 1) = some (zJ (zRdN fa i 1)) := zSc_l (j := 1) hc hm hi (by decide)
  have r2 : zld false (wd Y n s X) ps (zJ i + 2) = some (zJ (zRdN fa i 2)) := zSc_l (j := 2) hc hm hi (by decide)
  have r3 : zld false (wd Y n s X) ps (zJ i + 3) = some (zJ (zRdN fa i 3)) := zSc_l (j := 3) hc hm hi (by decide)
  obtain ⟨Y', n', s', X1, X2, code, a, e1, e2, e3, e4, hs', a13, a14, hV', b, c1, c2⟩ := law_step (s := s) (wr := fun W => ev_ G 39 0 [.ref (wA Y 13 0), .int (zJ (zRdN fa i 1)), .int (zJ (zRdN fa i 2)), .int (zJ (zRdN fa i 3)), .ref o, zU] [] W) (st := fun x => x.toInt64) hs (k_connector hY hG hI (zRdN_r _ _ _) (zRdN_r _ _ _) (zRdN_r _ _ _)) (by
    show ev_ G 39 0 _ [] _ = _
    rw [q_L_connector_0, k13 hV13]) (fun E code h W => by
    simp only [List.mem_cons, List.not_mem_nil, or_false, Prod.mk.injEq] at h
    first
      | (rcases h with h | h | h <;> (obtain ⟨rfl, rfl⟩ := h; rfl))
      | (rcases h with h | h <;> (obtain ⟨rfl, rfl⟩ := h; rfl))
      | (obtain ⟨rfl, rfl⟩ := h; rfl))
  obtain ⟨-, -, -, hc'⟩ := id hs'
  have r1' : zld false (wd Y' n' s' X1) ps (zJ i + 1) = some (zJ (zRdN fa i 1)) := zSc_l (j := 1) hc' hm hi (by decide)
  have r2' : zld false (wd Y' n' s' X1) ps (zJ i + 2) = some (zJ (zRdN fa i 2)) := zSc_l (j := 2) hc' hm hi (by decide)
  have r3' : zld false (wd Y' n' s' X1) ps (zJ i + 3) = some (zJ (zRdN fa i 3)) := zSc_l (j := 3) hc' hm hi (by decide)
  have kk : ∀ (n s : Nat) (X : zX) (r : zR), zck 13 (wd Y' n s X) (wA Y 14 0) r = r := fun n s X r => by rw [← a14]; exact k14 hV'
  refine ⟨Y', n', s', X2, .int (zJ code), .int (zJ a), ?_, hs', c1, c2⟩
  rw [a13, a14, q_L_law_260, r1, t_b, r2, t_b, r3, t_b, e1, t_I, r1', t_b, r2', t_b, r3', t_b, kk, e2, t_I, kk, e3, t_I, if_pos rfl]
  by_cases q : code = 0
  · have q' : zJ code = 0 := by rw [q]; rfl
    rw [if_pos q', e4 q, t_b, if_pos (lg_self _)]
  · rw [if_neg (zJ_n0 b q)]
theorem L_mates (hs : zSt G t ps o m fa Y n X) (hm : m ≤ 4000) (hi : 0 ≤ i ∧ i + 5 < m) (ht : t < 1000) : zNx G t ps o m fa Y n s X i u5 u6 340 := by
  obtain ⟨hY, hG, hI, hc⟩ := id hs
  have hV13 : wV Y 13 0 := (wY_F hY).2.1
  have r1 : zld false (wd Y n s X) ps (zJ i + 1) = some (zJ (zRdN fa i 1)) := zSc_l (j := 1) hc hm hi (by decide)
  have r2 : zld false (wd Y n s X) ps (zJ i + 2) = some (zJ (zRdN fa i 2)) := zSc_l (j := 2) hc hm hi (by decide)
  obtain ⟨Y', n', s', X1, X2, code, a, e1, e2, e3, e4, hs', a13, a14, hV', b, c1, c2⟩ := law_step (s := s) (wr := fun W => ev_ G 49 0 [.ref (wA Y 13 0), .int (zJ (zRdN fa i 1)), .int (zJ (zRdN fa i 2)), .ref o, zU] [] W) (st := fun x => x.toInt64) hs (k_mates hY hI (zRdN_r _ _ _) (zRdN_r _ _ _)) (by
    show ev_ G 49 0 _ [] _ = _
    rw [q_L_mates_0, k13 hV13]) (fun E code h W => by
    simp only [List.mem_cons, List.not_mem_nil, or_false, Prod.mk.injEq] at h
    first
      | (rcases h with h | h | h <;> (obtain ⟨rfl, rfl⟩ := h; rfl))
      | (rcases h with h | h <;> (obtain ⟨rfl, rfl⟩ := h; rfl))
      | (obtain ⟨rfl, rfl⟩ := h; rfl))
  obtain ⟨-, -, -, hc'⟩ := id hs'
  have r1' : zld false (wd Y' n' s' X1) ps (zJ i + 1) = some (zJ (zRdN fa i 1)) := zSc_l (j := 1) hc' hm hi (by decide)
  have r2' : zld false (wd Y' n' s' X1) ps (zJ i + 2) = some (zJ (zRdN fa i 2)) := zSc_l (j := 2) hc' hm hi (by decide)
  have kk : ∀ (n s : Nat) (X : zX) (r : zR), zck 13 (wd Y' n s X) (wA Y 14 0) r = r := fun n s X r => by rw [← a14]; exact k14 hV'
  refine ⟨Y', n', s', X2, .int (zJ code), .int (zJ a), ?_, hs', c1, c2⟩
  rw [a13, a14, q_L_law_340, r1, t_b, r2, t_b, e1, t_I, r1', t_b, r2', t_b, kk, e2, t_I, kk, e3, t_I, if_pos rfl]
  by_cases q : code = 0
  · have q' : zJ code = 0 := by rw [q]; rfl
    rw [if_pos q', e4 q, t_b, if_pos (lg_self _)]
  · rw [if_neg (zJ_n0 b q)]
theorem L_wire (hs : zSt G t ps o m fa Y n X) (hm : m ≤ 4000) (hi : 0 ≤ i ∧ i + 5 < m) (ht : t < 1000) : zNx G t ps o m fa Y n s X i u5 u6 408 := by
  obtain ⟨hY, hG, hI, hc⟩ := id hs
  have hV13 : wV Y 13 0 := (wY_F hY).2.1
  have r1 : zld false (wd Y n s X) ps (zJ i + 1) = some (zJ (zRdN fa i 1)) := zSc_l (j := 1) hc hm hi (by decide)
  have r2 : zld false (wd Y n s X) ps (zJ i + 2) = some (zJ (zRdN fa i 2)) := zSc_l (j := 2) hc hm hi (by decide)
  have r3 : zld false (wd Y n s X) ps (zJ i + 3) = some (zJ (zRdN fa i 3)) := zSc_l (j := 3) hc hm hi (by decide)
  have r4 : zld false (wd Y n s X) ps (zJ i + 4) = some (zJ (zRdN fa i 4)) := zSc_l (j := 4) hc hm hi (by decide)
  have r5 : zld false (wd Y n s X) ps (zJ i + 5) = some (zJ (zRdN fa i 5)) := zSc_l (j := 5) hc hm hi (by decide)
  obtain ⟨Y', n', s', X1, X2, code, a, e1, e2, e3, e4, hs', a13, a14, hV', b, c1, c2⟩ := law_step (s := s) (wr := fun W => ev_ G 68 0 [.ref (wA Y 13 0), .int (zJ (zRdN fa i 1)), .int (zJ (zRdN fa i 2)), .int (zJ (zRdN fa i 3)), .int (zJ (zRdN fa i 4)), .int (zJ (zRdN fa i 5)), .ref o, zU] [] W) (st := fun x => x.toInt64) hs (k_wire hY hG hI (zRdN_r _ _ _) (zRdN_r _ _ _) (zRdN_r _ _ _) (zRdN_r _ _ _) (zRdN_r _ _ _)) (by
    show ev_ G 68 0 _ [] _ = _
    rw [q_L_wire_0, k13 hV13]) (fun E code h W => by
    simp only [List.mem_cons, List.not_mem_nil, or_false, Prod.mk.injEq] at h
    first
      | (rcases h with h | h | h <;> (obtain ⟨rfl, rfl⟩ := h; rfl))
      | (rcases h with h | h <;> (obtain ⟨rfl, rfl⟩ := h; rfl))
      | (obtain ⟨rfl, rfl⟩ := h; rfl))
  obtain ⟨-, -, -, hc'⟩ := id hs'
  have r1' : zld false (wd Y' n' s' X1) ps (zJ i + 1) = some (zJ (zRdN fa i 1)) := zSc_l (j := 1) hc' hm hi (by decide)
  have r2' : zld false (wd Y' n' s' X1) ps (zJ i + 2) = some (zJ (zRdN fa i 2)) := zSc_l (j := 2) hc' hm hi (by decide)
  have r3' : zld false (wd Y' n' s' X1) ps (zJ i + 3) = some (zJ (zRdN fa i 3)) := zSc_l (j := 3) hc' hm hi (by decide)
  have r4' : zld false (wd Y' n' s' X1) ps (zJ i + 4) = some (zJ (zRdN fa i 4)) := zSc_l (j := 4) hc' hm hi (by decide)
  have r5' : zld false (wd Y' n' s' X1) ps (zJ i + 5) = some (zJ (zRdN fa i 5)) := zSc_l (j := 5) hc' hm hi (by decide)
  have kk : ∀ (n s : Nat) (X : zX) (r : zR), zck 13 (wd Y' n s X) (wA Y 14 0) r = r := fun n s X r => by rw [← a14]; exact k14 hV'
  refine ⟨Y', n', s', X2, .int (zJ code), .int (zJ a), ?_, hs', c1, c2⟩
  rw [a13, a14, q_L_law_408, r1, t_b, r2, t_b, r3, t_b, r4, t_b, r5, t_b, e1, t_I, r1', t_b, r2', t_b, r3', t_b, r4', t_b, r5', t_b, kk, e2, t_I, kk, e3, t_I, if_pos rfl]
  by_cases q : code = 0
  · have q' : zJ code = 0 := by rw [q]; rfl
    rw [if_pos q', e4 q, t_b, if_pos (lg_self _)]
  · rw [if_neg (zJ_n0 b q)]
theorem L_pull (hs : zSt G t ps o m fa Y n X) (hm : m ≤ 4000) (hi : 0 ≤ i ∧ i + 5 < m) (ht : t < 1000) : zNx G t ps o m fa Y n s X i u5 u6 512 := by
  obtain ⟨hY, hG, hI, hc⟩ := id hs
  have hV13 : wV Y 13 0 := (wY_F hY).2.1
  have r1 : zld false (wd Y n s X) ps (zJ i + 1) = some (zJ (zRdN fa i 1)) := zSc_l (j := 1) hc hm hi (by decide)
  obtain ⟨Y', n', s', X1, X2, code, a, e1, e2, e3, e4, hs', a13, a14, hV', b, c1, c2⟩ := law_step (s := s) (wr := fun W => ev_ G 80 0 [.ref (wA Y 13 0), .int (zJ (zRdN fa i 1)), .ref o, zU] [] W) (st := fun x => x.toInt64) hs (k_pull hY hI (zRdN_r _ _ _)) (by
    show ev_ G 80 0 _ [] _ = _
    rw [q_L_pull_0, k13 hV13]) (fun E code h W => by
    simp only [List.mem_cons, List.not_mem_nil, or_false, Prod.mk.injEq] at h
    first
      | (rcases h with h | h | h <;> (obtain ⟨rfl, rfl⟩ := h; rfl))
      | (rcases h with h | h <;> (obtain ⟨rfl, rfl⟩ := h; rfl))
      | (obtain ⟨rfl, rfl⟩ := h; rfl))
  obtain ⟨-, -, -, hc'⟩ := id hs'
  have r1' : zld false (wd Y' n' s' X1) ps (zJ i + 1) = some (zJ (zRdN fa i 1)) := zSc_l (j := 1) hc' hm hi (by decide)
  have kk : ∀ (n s : Nat) (X : zX) (r : zR), zck 13 (wd Y' n s X) (wA Y 14 0) r = r := fun n s X r => by rw [← a14]; exact k14 hV'
  refine ⟨Y', n', s', X2, .int (zJ code), .int (zJ a), ?_, hs', c1, c2⟩
  rw [a13, a14, q_L_law_512, r1, t_b, e1, t_I, r1', t_b, kk, e2, t_I, kk, e3, t_I, if_pos rfl]
  by_cases q : code = 0
  · have q' : zJ code = 0 := by rw [q]; rfl
    rw [if_pos q', e4 q, t_b, if_pos (lg_self _)]
  · rw [if_neg (zJ_n0 b q)]
theorem L_ofWire (hs : zSt G t ps o m fa Y n X) (hm : m ≤ 4000) (hi : 0 ≤ i ∧ i + 5 < m) (ht : t < 1000) : zNx G t ps o m fa Y n s X i u5 u6 568 := by
  obtain ⟨hY, hG, hI, hc⟩ := id hs
  have hV13 : wV Y 13 0 := (wY_F hY).2.1
  have r1 : zld false (wd Y n s X) ps (zJ i + 1) = some (zJ (zRdN fa i 1)) := zSc_l (j := 1) hc hm hi (by decide)
  have r2 : zld false (wd Y n s X) ps (zJ i + 2) = some (zJ (zRdN fa i 2)) := zSc_l (j := 2) hc hm hi (by decide)
  obtain ⟨Y', n', s', X1, X2, code, a, e1, e2, e3, e4, hs', a13, a14, hV', b, c1, c2⟩ := law_step (s := s) (wr := fun W => ev_ G 86 0 [.ref (wA Y 13 0), .int (zJ (zRdN fa i 1)), .int (zJ (zRdN fa i 2)), .ref o, zU] [] W) (st := fun x => x.toInt64) hs (k_ofWire hY hI (zRdN_r _ _ _) (zRdN_r _ _ _)) (by
    show ev_ G 86 0 _ [] _ = _
    rw [q_L_ofWire_0, k13 hV13]) (fun E code h W => by
    simp only [List.mem_cons, List.not_mem_nil, or_false, Prod.mk.injEq] at h
    first
      | (rcases h with h | h | h <;> (obtain ⟨rfl, rfl⟩ := h; rfl))
      | (rcases h with h | h <;> (obtain ⟨rfl, rfl⟩ := h; rfl))
      | (obtain ⟨rfl, rfl⟩ := h; rfl))
  obtain ⟨-, -, -, hc'⟩ := id hs'
  have r1' : zld false (wd Y' n' s' X1) ps (zJ i + 1) = some (zJ (zRdN fa i 1)) := zSc_l (j := 1) hc' hm hi (by decide)
  have r2' : zld false (wd Y' n' s' X1) ps (zJ i + 2) = some (zJ (zRdN fa i 2)) := zSc_l (j := 2) hc' hm hi (by decide)
  have kk : ∀ (n s : Nat) (X : zX) (r : zR), zck 13 (wd Y' n s X) (wA Y 14 0) r = r := fun n s X r => by rw [← a14]; exact k14 hV'
  refine ⟨Y', n', s', X2, .int (zJ code), .int (zJ a), ?_, hs', c1, c2⟩
  rw [a13, a14, q_L_law_568, r1, t_b, r2, t_b, e1, t_I, r1', t_b, r2', t_b, kk, e2, t_I, kk, e3, t_I, if_pos rfl]
  by_cases q : code = 0
  · have q' : zJ code = 0 := by rw [q]; rfl
    rw [if_pos q', e4 q, t_b, if_pos (lg_self _)]
  · rw [if_neg (zJ_n0 b q)]
theorem L_weight (hs : zSt G t ps o m fa Y n X) (hm : m ≤ 4000) (hi : 0 ≤ i ∧ i + 5 < m) (ht : t < 1000) : zNx G t ps o m fa Y n s X i u5 u6 636 := by
  obtain ⟨hY, hG, hI, hc⟩ := id hs
  have hV13 : wV Y 13 0 := (wY_F hY).2.1
  have r1 : zld false (wd Y n s X) ps (zJ i + 1) = some (zJ (zRdN fa i 1)) := zSc_l (j := 1) hc hm hi (by decide)
  obtain ⟨Y', n', s', X1, X2, code, a, e1, e2, e3, e4, hs', a13, a14, hV', b, c1, c2⟩ := law_step (s := s) (wr := fun W => ev_ G 90 0 [.ref (wA Y 13 0), .int (zJ (zRdN fa i 1)), .ref o, zU] [] W) (st := fun x => x.toInt64) hs (k_weight hY hI (zRdN_r _ _ _)) (by
    show ev_ G 90 0 _ [] _ = _
    rw [q_L_weight_0, k13 hV13]) (fun E code h W => by
    simp only [List.mem_cons, List.not_mem_nil, or_false, Prod.mk.injEq] at h
    first
      | (rcases h with h | h | h <;> (obtain ⟨rfl, rfl⟩ := h; rfl))
      | (rcases h with h | h <;> (obtain ⟨rfl, rfl⟩ := h; rfl))
      | (obtain ⟨rfl, rfl⟩ := h; rfl))
  obtain ⟨-, -, -, hc'⟩ := id hs'
  have r1' : zld false (wd Y' n' s' X1) ps (zJ i + 1) = some (zJ (zRdN fa i 1)) := zSc_l (j := 1) hc' hm hi (by decide)
  have kk : ∀ (n s : Nat) (X : zX) (r : zR), zck 13 (wd Y' n s X) (wA Y 14 0) r = r := fun n s X r => by rw [← a14]; exact k14 hV'
  refine ⟨Y', n', s', X2, .int (zJ code), .int (zJ a), ?_, hs', c1, c2⟩
  rw [a13, a14, q_L_law_636, r1, t_b, e1, t_I, r1', t_b, kk, e2, t_I, kk, e3, t_I, if_pos rfl]
  by_cases q : code = 0
  · have q' : zJ code = 0 := by rw [q]; rfl
    rw [if_pos q', e4 q, t_b, if_pos (lg_self _)]
  · rw [if_neg (zJ_n0 b q)]
theorem L_order (hs : zSt G t ps o m fa Y n X) (hm : m ≤ 4000) (hi : 0 ≤ i ∧ i + 5 < m) (ht : t < 1000) : zNx G t ps o m fa Y n s X i u5 u6 692 := by
  obtain ⟨hY, hG, hI, hc⟩ := id hs
  have hV13 : wV Y 13 0 := (wY_F hY).2.1
  have r1 : zld false (wd Y n s X) ps (zJ i + 1) = some (zJ (zRdN fa i 1)) := zSc_l (j := 1) hc hm hi (by decide)
  have r2 : zld false (wd Y n s X) ps (zJ i + 2) = some (zJ (zRdN fa i 2)) := zSc_l (j := 2) hc hm hi (by decide)
  obtain ⟨Y', n', s', X1, X2, code, a, e1, e2, e3, e4, hs', a13, a14, hV', b, c1, c2⟩ := law_step (s := s) (wr := fun W => ev_ G 96 0 [.ref (wA Y 13 0), .int (zJ (zRdN fa i 1)), .int (zJ (zRdN fa i 2)), .ref o, zU] [] W) (st := fun x => x.toInt64) hs (k_order hY hI (zRdN_r _ _ _) (zRdN_r _ _ _)) (by
    show ev_ G 96 0 _ [] _ = _
    rw [q_L_order_0, k13 hV13]) (fun E code h W => by
    simp only [List.mem_cons, List.not_mem_nil, or_false, Prod.mk.injEq] at h
    first
      | (rcases h with h | h | h <;> (obtain ⟨rfl, rfl⟩ := h; rfl))
      | (rcases h with h | h <;> (obtain ⟨rfl, rfl⟩ := h; rfl))
      | (obtain ⟨rfl, rfl⟩ := h; rfl))
  obtain ⟨-, -, -, hc'⟩ := id hs'
  have r1' : zld false (wd Y' n' s' X1) ps (zJ i + 1) = some (zJ (zRdN fa i 1)) := zSc_l (j := 1) hc' hm hi (by decide)
  have r2' : zld false (wd Y' n' s' X1) ps (zJ i + 2) = some (zJ (zRdN fa i 2)) := zSc_l (j := 2) hc' hm hi (by decide)
  have kk : ∀ (n s : Nat) (X : zX) (r : zR), zck 13 (wd Y' n s X) (wA Y 14 0) r = r := fun n s X r => by rw [← a14]; exact k14 hV'
  refine ⟨Y', n', s', X2, .int (zJ code), .int (zJ a), ?_, hs', c1, c2⟩
  rw [a13, a14, q_L_law_692, r1, t_b, r2, t_b, e1, t_I, r1', t_b, r2', t_b, kk, e2, t_I, kk, e3, t_I, if_pos rfl]
  by_cases q : code = 0
  · have q' : zJ code = 0 := by rw [q]; rfl
    rw [if_pos q', e4 q, t_b, if_pos (lg_self _)]
  · rw [if_neg (zJ_n0 b q)]
theorem L_least (hs : zSt G t ps o m fa Y n X) (hm : m ≤ 4000) (hi : 0 ≤ i ∧ i + 5 < m) (ht : t < 1000) : zNx G t ps o m fa Y n s X i u5 u6 760 := by
  obtain ⟨hY, hG, hI, hc⟩ := id hs
  have hV13 : wV Y 13 0 := (wY_F hY).2.1
  have r1 : zld false (wd Y n s X) ps (zJ i + 1) = some (zJ (zRdN fa i 1)) := zSc_l (j := 1) hc hm hi (by decide)
  obtain ⟨Y', n', s', X1, X2, code, a, e1, e2, e3, e4, hs', a13, a14, hV', b, c1, c2⟩ := law_step (s := s) (wr := fun W => ev_ G 104 0 [.ref (wA Y 13 0), .int (zJ (zRdN fa i 1)), .ref o, zU] [] W) (st := fun x => x.toInt64) hs (k_least hY hI (zRdN_r _ _ _)) (by
    show ev_ G 104 0 _ [] _ = _
    rw [q_L_least_0, k13 hV13]) (fun E code h W => by
    simp only [List.mem_cons, List.not_mem_nil, or_false, Prod.mk.injEq] at h
    first
      | (rcases h with h | h | h <;> (obtain ⟨rfl, rfl⟩ := h; rfl))
      | (rcases h with h | h <;> (obtain ⟨rfl, rfl⟩ := h; rfl))
      | (obtain ⟨rfl, rfl⟩ := h; rfl))
  obtain ⟨-, -, -, hc'⟩ := id hs'
  have r1' : zld false (wd Y' n' s' X1) ps (zJ i + 1) = some (zJ (zRdN fa i 1)) := zSc_l (j := 1) hc' hm hi (by decide)
  have kk : ∀ (n s : Nat) (X : zX) (r : zR), zck 13 (wd Y' n s X) (wA Y 14 0) r = r := fun n s X r => by rw [← a14]; exact k14 hV'
  refine ⟨Y', n', s', X2, .int (zJ code), .int (zJ a), ?_, hs', c1, c2⟩
  rw [a13, a14, q_L_law_760, r1, t_b, e1, t_I, r1', t_b, kk, e2, t_I, kk, e3, t_I, if_pos rfl]
  by_cases q : code = 0
  · have q' : zJ code = 0 := by rw [q]; rfl
    rw [if_pos q', e4 q, t_b, if_pos (lg_self _)]
  · rw [if_neg (zJ_n0 b q)]
theorem L_leastAnew (hs : zSt G t ps o m fa Y n X) (hm : m ≤ 4000) (hi : 0 ≤ i ∧ i + 5 < m) (ht : t < 1000) : zNx G t ps o m fa Y n s X i u5 u6 816 := by
  obtain ⟨hY, hG, hI, hc⟩ := id hs
  have hV13 : wV Y 13 0 := (wY_F hY).2.1
  have r1 : zld false (wd Y n s X) ps (zJ i + 1) = some (zJ (zRdN fa i 1)) := zSc_l (j := 1) hc hm hi (by decide)
  obtain ⟨Y', n', s', X1, X2, code, a, e1, e2, e3, e4, hs', a13, a14, hV', b, c1, c2⟩ := law_step (s := s) (wr := fun W => ev_ G 112 0 [.ref (wA Y 13 0), .int (zJ (zRdN fa i 1)), .ref o, zU] [] W) (st := fun x => x.toInt64) hs (k_leastAnew hY hI (zRdN_r _ _ _)) (by
    show ev_ G 112 0 _ [] _ = _
    rw [q_L_leastAnew_0, k13 hV13]) (fun E code h W => by
    simp only [List.mem_cons, List.not_mem_nil, or_false, Prod.mk.injEq] at h
    first
      | (rcases h with h | h | h <;> (obtain ⟨rfl, rfl⟩ := h; rfl))
      | (rcases h with h | h <;> (obtain ⟨rfl, rfl⟩ := h; rfl))
      | (obtain ⟨rfl, rfl⟩ := h; rfl))
  obtain ⟨-, -, -, hc'⟩ := id hs'
  have r1' : zld false (wd Y' n' s' X1) ps (zJ i + 1) = some (zJ (zRdN fa i 1)) := zSc_l (j := 1) hc' hm hi (by decide)
  have kk : ∀ (n s : Nat) (X : zX) (r : zR), zck 13 (wd Y' n s X) (wA Y 14 0) r = r := fun n s X r => by rw [← a14]; exact k14 hV'
  refine ⟨Y', n', s', X2, .int (zJ code), .int (zJ a), ?_, hs', c1, c2⟩
  rw [a13, a14, q_L_law_816, r1, t_b, e1, t_I, r1', t_b, kk, e2, t_I, kk, e3, t_I, if_pos rfl]
  by_cases q : code = 0
  · have q' : zJ code = 0 := by rw [q]; rfl
    rw [if_pos q', e4 q, t_b, if_pos (lg_self _)]
  · rw [if_neg (zJ_n0 b q)]
theorem L_crimps (hs : zSt G t ps o m fa Y n X) (hm : m ≤ 4000) (hi : 0 ≤ i ∧ i + 5 < m) (ht : t < 1000) : zNx G t ps o m fa Y n s X i u5 u6 935 := by
  obtain ⟨hY, hG, hI, hc⟩ := id hs
  have hV13 : wV Y 13 0 := (wY_F hY).2.1
  have r1 : zld false (wd Y n s X) ps (zJ i + 1) = some (zJ (zRdN fa i 1)) := zSc_l (j := 1) hc hm hi (by decide)
  obtain ⟨Y', n', s', X1, X2, code, a, e1, e2, e3, e4, hs', a13, a14, hV', b, c1, c2⟩ := law_step (s := s) (wr := fun W => ev_ G 124 0 [.ref (wA Y 13 0), .int (zJ (zRdN fa i 1)), .ref o, zU] [] W) (st := fun x => x.toInt64) hs (k_crimps hY hI ht (zRdN_r _ _ _)) (by
    show ev_ G 124 0 _ [] _ = _
    rw [q_L_crimps_0, k13 hV13]) (fun E code h W => by
    simp only [List.mem_cons, List.not_mem_nil, or_false, Prod.mk.injEq] at h
    first
      | (rcases h with h | h | h <;> (obtain ⟨rfl, rfl⟩ := h; rfl))
      | (rcases h with h | h <;> (obtain ⟨rfl, rfl⟩ := h; rfl))
      | (obtain ⟨rfl, rfl⟩ := h; rfl))
  obtain ⟨-, -, -, hc'⟩ := id hs'
  have r1' : zld false (wd Y' n' s' X1) ps (zJ i + 1) = some (zJ (zRdN fa i 1)) := zSc_l (j := 1) hc' hm hi (by decide)
  have kk : ∀ (n s : Nat) (X : zX) (r : zR), zck 13 (wd Y' n s X) (wA Y 14 0) r = r := fun n s X r => by rw [← a14]; exact k14 hV'
  refine ⟨Y', n', s', X2, .int (zJ code), .int (zJ a), ?_, hs', c1, c2⟩
  rw [a13, a14, q_L_law_935, r1, t_b, e1, t_I, r1', t_b, kk, e2, t_I, kk, e3, t_I, if_pos rfl]
  by_cases q : code = 0
  · have q' : zJ code = 0 := by rw [q]; rfl
    rw [if_pos q', e4 q, t_b, if_pos (lg_self _)]
  · rw [if_neg (zJ_n0 b q)]
theorem L_reel (hs : zSt G t ps o m fa Y n X) (hm : m ≤ 4000) (hi : 0 ≤ i ∧ i + 5 < m) (ht : t < 1000) : zNx G t ps o m fa Y n s X i u5 u6 991 := by
  obtain ⟨hY, hG, hI, hc⟩ := id hs
  have hV13 : wV Y 13 0 := (wY_F hY).2.1
  have r1 : zld false (wd Y n s X) ps (zJ i + 1) = some (zJ (zRdN fa i 1)) := zSc_l (j := 1) hc hm hi (by decide)
  have r2 : zld false (wd Y n s X) ps (zJ i + 2) = some (zJ (zRdN fa i 2)) := zSc_l (j := 2) hc hm hi (by decide)
  have r3 : zld false (wd Y n s X) ps (zJ i + 3) = some (zJ (zRdN fa i 3)) := zSc_l (j := 3) hc hm hi (by decide)
  obtain ⟨Y', n', s', X1, X2, code, a, e1, e2, e3, e4, hs', a13, a14, hV', b, c1, c2⟩ := law_step (s := s) (wr := fun W => ev_ G 128 0 [.ref (wA Y 13 0), .int (zJ (zRdN fa i 1)), .int (zJ (zRdN fa i 2)), .int (zJ (zRdN fa i 3)), .ref o, zU] [] W) (st := fun x => x.toInt64) hs (k_reel hY hG hI (zRdN_r _ _ _) (zRdN_r _ _ _) (zRdN_r _ _ _)) (by
    show ev_ G 128 0 _ [] _ = _
    rw [q_L_reel_0, k13 hV13]) (fun E code h W => by
    simp only [List.mem_cons, List.not_mem_nil, or_false, Prod.mk.injEq] at h
    first
      | (rcases h with h | h | h <;> (obtain ⟨rfl, rfl⟩ := h; rfl))
      | (rcases h with h | h <;> (obtain ⟨rfl, rfl⟩ := h; rfl))
      | (obtain ⟨rfl, rfl⟩ := h; rfl))
  obtain ⟨-, -, -, hc'⟩ := id hs'
  have r1' : zld false (wd Y' n' s' X1) ps (zJ i + 1) = some (zJ (zRdN fa i 1)) := zSc_l (j := 1) hc' hm hi (by decide)
  have r2' : zld false (wd Y' n' s' X1) ps (zJ i + 2) = some (zJ (zRdN fa i 2)) := zSc_l (j := 2) hc' hm hi (by decide)
  have r3' : zld false (wd Y' n' s' X1) ps (zJ i + 3) = some (zJ (zRdN fa i 3)) := zSc_l (j := 3) hc' hm hi (by decide)
  have kk : ∀ (n s : Nat) (X : zX) (r : zR), zck 13 (wd Y' n s X) (wA Y 14 0) r = r := fun n s X r => by rw [← a14]; exact k14 hV'
  refine ⟨Y', n', s', X2, .int (zJ code), .int (zJ a), ?_, hs', c1, c2⟩
  rw [a13, a14, q_L_law_991, r1, t_b, r2, t_b, r3, t_b, e1, t_I, r1', t_b, r2', t_b, r3', t_b, kk, e2, t_I, kk, e3, t_I, if_pos rfl]
  by_cases q : code = 0
  · have q' : zJ code = 0 := by rw [q]; rfl
    rw [if_pos q', e4 q, t_b, if_pos (lg_self _)]
  · rw [if_neg (zJ_n0 b q)]
theorem L_ofReel (hs : zSt G t ps o m fa Y n X) (hm : m ≤ 4000) (hi : 0 ≤ i ∧ i + 5 < m) (ht : t < 1000) : zNx G t ps o m fa Y n s X i u5 u6 1155 := by
  obtain ⟨hY, hG, hI, hc⟩ := id hs
  have hV13 : wV Y 13 0 := (wY_F hY).2.1
  have r1 : zld false (wd Y n s X) ps (zJ i + 1) = some (zJ (zRdN fa i 1)) := zSc_l (j := 1) hc hm hi (by decide)
  have r2 : zld false (wd Y n s X) ps (zJ i + 2) = some (zJ (zRdN fa i 2)) := zSc_l (j := 2) hc hm hi (by decide)
  obtain ⟨Y', n', s', X1, X2, code, a, e1, e2, e3, e4, hs', a13, a14, hV', b, c1, c2⟩ := law_step (s := s) (wr := fun W => ev_ G 139 0 [.ref (wA Y 13 0), .int (zJ (zRdN fa i 1)), .int (zJ (zRdN fa i 2)), .ref o, zU] [] W) (st := fun x => x.toInt64) hs (k_ofReel hY hI (zRdN_r _ _ _) (zRdN_r _ _ _)) (by
    show ev_ G 139 0 _ [] _ = _
    rw [q_L_ofReel_0, k13 hV13]) (fun E code h W => by
    simp only [List.mem_cons, List.not_mem_nil, or_false, Prod.mk.injEq] at h
    first
      | (rcases h with h | h | h <;> (obtain ⟨rfl, rfl⟩ := h; rfl))
      | (rcases h with h | h <;> (obtain ⟨rfl, rfl⟩ := h; rfl))
      | (obtain ⟨rfl, rfl⟩ := h; rfl))
  obtain ⟨-, -, -, hc'⟩ := id hs'
  have r1' : zld false (wd Y' n' s' X1) ps (zJ i + 1) = some (zJ (zRdN fa i 1)) := zSc_l (j := 1) hc' hm hi (by decide)
  have r2' : zld false (wd Y' n' s' X1) ps (zJ i + 2) = some (zJ (zRdN fa i 2)) := zSc_l (j := 2) hc' hm hi (by decide)
  have kk : ∀ (n s : Nat) (X : zX) (r : zR), zck 13 (wd Y' n s X) (wA Y 14 0) r = r := fun n s X r => by rw [← a14]; exact k14 hV'
  refine ⟨Y', n', s', X2, .int (zJ code), .int (zJ a), ?_, hs', c1, c2⟩
  rw [a13, a14, q_L_law_1155, r1, t_b, r2, t_b, e1, t_I, r1', t_b, r2', t_b, kk, e2, t_I, kk, e3, t_I, if_pos rfl]
  by_cases q : code = 0
  · have q' : zJ code = 0 := by rw [q]; rfl
    rw [if_pos q', e4 q, t_b, if_pos (lg_self _)]
  · rw [if_neg (zJ_n0 b q)]
theorem L_board (hs : zSt G t ps o m fa Y n X) (hm : m ≤ 4000) (hi : 0 ≤ i ∧ i + 5 < m) (ht : t < 1000) : zNx G t ps o m fa Y n s X i u5 u6 1223 := by
  obtain ⟨hY, hG, hI, hc⟩ := id hs
  have hV13 : wV Y 13 0 := (wY_F hY).2.1
  obtain ⟨Y', n', s', X1, X2, code, a, e1, e2, e3, e4, hs', a13, a14, hV', b, c1, c2⟩ := law_step (s := s) (wr := fun W => ev_ G 144 0 [.ref (wA Y 13 0), .ref o, zU] [] W) (st := fun x => x.toInt64) hs (k_board hY hG hI) (by
    show ev_ G 144 0 _ [] _ = _
    rw [q_L_board_0, k13 hV13]) (fun E code h W => by
    simp only [List.mem_cons, List.not_mem_nil, or_false, Prod.mk.injEq] at h
    first
      | (rcases h with h | h | h <;> (obtain ⟨rfl, rfl⟩ := h; rfl))
      | (rcases h with h | h <;> (obtain ⟨rfl, rfl⟩ := h; rfl))
      | (obtain ⟨rfl, rfl⟩ := h; rfl))
  obtain ⟨-, -, -, hc'⟩ := id hs'
  have kk : ∀ (n s : Nat) (X : zX) (r : zR), zck 13 (wd Y' n s X) (wA Y 14 0) r = r := fun n s X r => by rw [← a14]; exact k14 hV'
  refine ⟨Y', n', s', X2, .int (zJ code), .int (zJ a), ?_, hs', c1, c2⟩
  rw [a13, a14, q_L_law_1223, e1, t_I, kk, e2, t_I, kk, e3, t_I, if_pos rfl]
  by_cases q : code = 0
  · have q' : zJ code = 0 := by rw [q]; rfl
    rw [if_pos q', e4 q, t_b, if_pos (lg_self _)]
  · rw [if_neg (zJ_n0 b q)]
theorem L_place (hs : zSt G t ps o m fa Y n X) (hm : m ≤ 4000) (hi : 0 ≤ i ∧ i + 5 < m) (ht : t < 1000) : zNx G t ps o m fa Y n s X i u5 u6 1267 := by
  obtain ⟨hY, hG, hI, hc⟩ := id hs
  have hV13 : wV Y 13 0 := (wY_F hY).2.1
  have r1 : zld false (wd Y n s X) ps (zJ i + 1) = some (zJ (zRdN fa i 1)) := zSc_l (j := 1) hc hm hi (by decide)
  have r2 : zld false (wd Y n s X) ps (zJ i + 2) = some (zJ (zRdN fa i 2)) := zSc_l (j := 2) hc hm hi (by decide)
  have r3 : zld false (wd Y n s X) ps (zJ i + 3) = some (zJ (zRdN fa i 3)) := zSc_l (j := 3) hc hm hi (by decide)
  obtain ⟨Y', n', s', X1, X2, code, a, e1, e2, e3, e4, hs', a13, a14, hV', b, c1, c2⟩ := law_step (s := s) (wr := fun W => ev_ G 152 0 [.ref (wA Y 13 0), .int (zJ (zRdN fa i 1)), .int (zJ (zRdN fa i 2)), .int (zJ (zRdN fa i 3)), .ref o, zU] [] W) (st := fun x => x.toInt64) hs (k_place hY hI (zRdN_r _ _ _) (zRdN_r _ _ _) (zRdN_r _ _ _)) (by
    show ev_ G 152 0 _ [] _ = _
    rw [q_L_place_0, k13 hV13]) (fun E code h W => by
    simp only [List.mem_cons, List.not_mem_nil, or_false, Prod.mk.injEq] at h
    first
      | (rcases h with h | h | h <;> (obtain ⟨rfl, rfl⟩ := h; rfl))
      | (rcases h with h | h <;> (obtain ⟨rfl, rfl⟩ := h; rfl))
      | (obtain ⟨rfl, rfl⟩ := h; rfl))
  obtain ⟨-, -, -, hc'⟩ := id hs'
  have r1' : zld false (wd Y' n' s' X1) ps (zJ i + 1) = some (zJ (zRdN fa i 1)) := zSc_l (j := 1) hc' hm hi (by decide)
  have r2' : zld false (wd Y' n' s' X1) ps (zJ i + 2) = some (zJ (zRdN fa i 2)) := zSc_l (j := 2) hc' hm hi (by decide)
  have r3' : zld false (wd Y' n' s' X1) ps (zJ i + 3) = some (zJ (zRdN fa i 3)) := zSc_l (j := 3) hc' hm hi (by decide)
  have kk : ∀ (n s : Nat) (X : zX) (r : zR), zck 13 (wd Y' n s X) (wA Y 14 0) r = r := fun n s X r => by rw [← a14]; exact k14 hV'
  refine ⟨Y', n', s', X2, .int (zJ code), .int (zJ a), ?_, hs', c1, c2⟩
  rw [a13, a14, q_L_law_1267, r1, t_b, r2, t_b, r3, t_b, e1, t_I, r1', t_b, r2', t_b, r3', t_b, kk, e2, t_I, kk, e3, t_I, if_pos rfl]
  by_cases q : code = 0
  · have q' : zJ code = 0 := by rw [q]; rfl
    rw [if_pos q', e4 q, t_b, if_pos (lg_self _)]
  · rw [if_neg (zJ_n0 b q)]
theorem L_solder (hs : zSt G t ps o m fa Y n X) (hm : m ≤ 4000) (hi : 0 ≤ i ∧ i + 5 < m) (ht : t < 1000) : zNx G t ps o m fa Y n s X i u5 u6 1435 := by
  obtain ⟨hY, hG, hI, hc⟩ := id hs
  have hV13 : wV Y 13 0 := (wY_F hY).2.1
  have r1 : zld false (wd Y n s X) ps (zJ i + 1) = some (zJ (zRdN fa i 1)) := zSc_l (j := 1) hc hm hi (by decide)
  obtain ⟨Y', n', s', X1, X2, code, a, e1, e2, e3, e4, hs', a13, a14, hV', b, c1, c2⟩ := law_step (s := s) (wr := fun W => ev_ G 168 0 [.ref (wA Y 13 0), .int (zJ (zRdN fa i 1)), .ref o, zU] [] W) (st := fun x => x.toInt64) hs (k_solder hY hI (zRdN_r _ _ _)) (by
    show ev_ G 168 0 _ [] _ = _
    rw [q_L_solder_0, k13 hV13]) (fun E code h W => by
    simp only [List.mem_cons, List.not_mem_nil, or_false, Prod.mk.injEq] at h
    first
      | (rcases h with h | h | h <;> (obtain ⟨rfl, rfl⟩ := h; rfl))
      | (rcases h with h | h <;> (obtain ⟨rfl, rfl⟩ := h; rfl))
      | (obtain ⟨rfl, rfl⟩ := h; rfl))
  obtain ⟨-, -, -, hc'⟩ := id hs'
  have r1' : zld false (wd Y' n' s' X1) ps (zJ i + 1) = some (zJ (zRdN fa i 1)) := zSc_l (j := 1) hc' hm hi (by decide)
  have kk : ∀ (n s : Nat) (X : zX) (r : zR), zck 13 (wd Y' n s X) (wA Y 14 0) r = r := fun n s X r => by rw [← a14]; exact k14 hV'
  refine ⟨Y', n', s', X2, .int (zJ code), .int (zJ a), ?_, hs', c1, c2⟩
  rw [a13, a14, q_L_law_1435, r1, t_b, e1, t_I, r1', t_b, kk, e2, t_I, kk, e3, t_I, if_pos rfl]
  by_cases q : code = 0
  · have q' : zJ code = 0 := by rw [q]; rfl
    rw [if_pos q', e4 q, t_b, if_pos (lg_self _)]
  · rw [if_neg (zJ_n0 b q)]
theorem L_test (hs : zSt G t ps o m fa Y n X) (hm : m ≤ 4000) (hi : 0 ≤ i ∧ i + 5 < m) (ht : t < 1000) : zNx G t ps o m fa Y n s X i u5 u6 1623 := by
  obtain ⟨hY, hG, hI, hc⟩ := id hs
  have hV13 : wV Y 13 0 := (wY_F hY).2.1
  have r1 : zld false (wd Y n s X) ps (zJ i + 1) = some (zJ (zRdN fa i 1)) := zSc_l (j := 1) hc hm hi (by decide)
  obtain ⟨Y', n', s', X1, X2, code, a, e1, e2, e3, e4, hs', a13, a14, hV', b, c1, c2⟩ := law_step (s := s) (wr := fun W => ev_ G 182 0 [.ref (wA Y 13 0), .int (zJ (zRdN fa i 1)), .ref o, zU] [] W) (st := fun x => x.toInt64) hs (k_test hY hI (zRdN_r _ _ _)) (by
    show ev_ G 182 0 _ [] _ = _
    rw [q_L_test_0, k13 hV13]) (fun E code h W => by
    simp only [List.mem_cons, List.not_mem_nil, or_false, Prod.mk.injEq] at h
    first
      | (rcases h with h | h | h <;> (obtain ⟨rfl, rfl⟩ := h; rfl))
      | (rcases h with h | h <;> (obtain ⟨rfl, rfl⟩ := h; rfl))
      | (obtain ⟨rfl, rfl⟩ := h; rfl))
  obtain ⟨-, -, -, hc'⟩ := id hs'
  have r1' : zld false (wd Y' n' s' X1) ps (zJ i + 1) = some (zJ (zRdN fa i 1)) := zSc_l (j := 1) hc' hm hi (by decide)
  have kk : ∀ (n s : Nat) (X : zX) (r : zR), zck 13 (wd Y' n s X) (wA Y 14 0) r = r := fun n s X r => by rw [← a14]; exact k14 hV'
  refine ⟨Y', n', s', X2, .int (zJ code), .int (zJ a), ?_, hs', c1, c2⟩
  rw [a13, a14, q_L_law_1623, r1, t_b, e1, t_I, r1', t_b, kk, e2, t_I, kk, e3, t_I, if_pos rfl]
  by_cases q : code = 0
  · have q' : zJ code = 0 := by rw [q]; rfl
    rw [if_pos q', e4 q, t_b, if_pos (lg_self _)]
  · rw [if_neg (zJ_n0 b q)]
theorem L_repair (hs : zSt G t ps o m fa Y n X) (hm : m ≤ 4000) (hi : 0 ≤ i ∧ i + 5 < m) (ht : t < 1000) : zNx G t ps o m fa Y n s X i u5 u6 1679 := by
  obtain ⟨hY, hG, hI, hc⟩ := id hs
  have hV13 : wV Y 13 0 := (wY_F hY).2.1
  have r1 : zld false (wd Y n s X) ps (zJ i + 1) = some (zJ (zRdN fa i 1)) := zSc_l (j := 1) hc hm hi (by decide)
  have r2 : zld false (wd Y n s X) ps (zJ i + 2) = some (zJ (zRdN fa i 2)) := zSc_l (j := 2) hc hm hi (by decide)
  have r3 : zld false (wd Y n s X) ps (zJ i + 3) = some (zJ (zRdN fa i 3)) := zSc_l (j := 3) hc hm hi (by decide)
  obtain ⟨Y', n', s', X1, X2, code, a, e1, e2, e3, e4, hs', a13, a14, hV', b, c1, c2⟩ := law_step (s := s) (wr := fun W => ev_ G 187 0 [.ref (wA Y 13 0), .int (zJ (zRdN fa i 1)), .int (zJ (zRdN fa i 2)), .int (zJ (zRdN fa i 3)), .ref o, zU] [] W) (st := fun x => x.toInt64) hs (k_repair hY hI (zRdN_r _ _ _) (zRdN_r _ _ _) (zRdN_r _ _ _)) (by
    show ev_ G 187 0 _ [] _ = _
    rw [q_L_repair_0, k13 hV13]) (fun E code h W => by
    simp only [List.mem_cons, List.not_mem_nil, or_false, Prod.mk.injEq] at h
    first
      | (rcases h with h | h | h <;> (obtain ⟨rfl, rfl⟩ := h; rfl))
      | (rcases h with h | h <;> (obtain ⟨rfl, rfl⟩ := h; rfl))
      | (obtain ⟨rfl, rfl⟩ := h; rfl))
  obtain ⟨-, -, -, hc'⟩ := id hs'
  have r1' : zld false (wd Y' n' s' X1) ps (zJ i + 1) = some (zJ (zRdN fa i 1)) := zSc_l (j := 1) hc' hm hi (by decide)
  have r2' : zld false (wd Y' n' s' X1) ps (zJ i + 2) = some (zJ (zRdN fa i 2)) := zSc_l (j := 2) hc' hm hi (by decide)
  have r3' : zld false (wd Y' n' s' X1) ps (zJ i + 3) = some (zJ (zRdN fa i 3)) := zSc_l (j := 3) hc' hm hi (by decide)
  have kk : ∀ (n s : Nat) (X : zX) (r : zR), zck 13 (wd Y' n s X) (wA Y 14 0) r = r := fun n s X r => by rw [← a14]; exact k14 hV'
  refine ⟨Y', n', s', X2, .int (zJ code), .int (zJ a), ?_, hs', c1, c2⟩
  rw [a13, a14, q_L_law_1679, r1, t_b, r2, t_b, r3, t_b, e1, t_I, r1', t_b, r2', t_b, r3', t_b, kk, e2, t_I, kk, e3, t_I, if_pos rfl]
  by_cases q : code = 0
  · have q' : zJ code = 0 := by rw [q]; rfl
    rw [if_pos q', e4 q, t_b, if_pos (lg_self _)]
  · rw [if_neg (zJ_n0 b q)]
theorem L_ship (hs : zSt G t ps o m fa Y n X) (hm : m ≤ 4000) (hi : 0 ≤ i ∧ i + 5 < m) (ht : t < 1000) : zNx G t ps o m fa Y n s X i u5 u6 1759 := by
  obtain ⟨hY, hG, hI, hc⟩ := id hs
  have hV13 : wV Y 13 0 := (wY_F hY).2.1
  have r1 : zld false (wd Y n s X) ps (zJ i + 1) = some (zJ (zRdN fa i 1)) := zSc_l (j := 1) hc hm hi (by decide)
  obtain ⟨Y', n', s', X1, X2, code, a, e1, e2, e3, e4, hs', a13, a14, hV', b, c1, c2⟩ := law_step (s := s) (wr := fun W => ev_ G 190 0 [.ref (wA Y 13 0), .int (zJ (zRdN fa i 1)), .ref o, zU] [] W) (st := fun x => x.toInt64) hs (k_ship hY hI (zRdN_r _ _ _)) (by
    show ev_ G 190 0 _ [] _ = _
    rw [q_L_ship_0, k13 hV13]) (fun E code h W => by
    simp only [List.mem_cons, List.not_mem_nil, or_false, Prod.mk.injEq] at h
    first
      | (rcases h with h | h | h <;> (obtain ⟨rfl, rfl⟩ := h; rfl))
      | (rcases h with h | h <;> (obtain ⟨rfl, rfl⟩ := h; rfl))
      | (obtain ⟨rfl, rfl⟩ := h; rfl))
  obtain ⟨-, -, -, hc'⟩ := id hs'
  have r1' : zld false (wd Y' n' s' X1) ps (zJ i + 1) = some (zJ (zRdN fa i 1)) := zSc_l (j := 1) hc' hm hi (by decide)
  have kk : ∀ (n s : Nat) (X : zX) (r : zR), zck 13 (wd Y' n s X) (wA Y 14 0) r = r := fun n s X r => by rw [← a14]; exact k14 hV'
  refine ⟨Y', n', s', X2, .int (zJ code), .int (zJ a), ?_, hs', c1, c2⟩
  rw [a13, a14, q_L_law_1759, r1, t_b, e1, t_I, r1', t_b, kk, e2, t_I, kk, e3, t_I, if_pos rfl]
  by_cases q : code = 0
  · have q' : zJ code = 0 := by rw [q]; rfl
    rw [if_pos q', e4 q, t_b, if_pos (lg_self _)]
  · rw [if_neg (zJ_n0 b q)]
theorem L_pass (hs : zSt G t ps o m fa Y n X) (hm : m ≤ 4000) (hi : 0 ≤ i ∧ i + 5 < m) (ht : t < 1000) : zNx G t ps o m fa Y n s X i u5 u6 1815 := by
  obtain ⟨hY, hG, hI, hc⟩ := id hs
  have hV13 : wV Y 13 0 := (wY_F hY).2.1
  have r1 : zld false (wd Y n s X) ps (zJ i + 1) = some (zJ (zRdN fa i 1)) := zSc_l (j := 1) hc hm hi (by decide)
  obtain ⟨Y', n', s', X1, X2, code, a, e1, e2, e3, e4, hs', a13, a14, hV', b, c1, c2⟩ := law_step (s := s) (wr := fun W => ev_ G 193 0 [.ref (wA Y 13 0), .int (zJ (zRdN fa i 1)), .ref o, zU] [] W) (st := fun x => x.toInt64) hs (k_pass hY hI (zRdN_r _ _ _)) (by
    show ev_ G 193 0 _ [] _ = _
    rw [q_L_pass_0, k13 hV13]) (fun E code h W => by
    simp only [List.mem_cons, List.not_mem_nil, or_false, Prod.mk.injEq] at h
    first
      | (rcases h with h | h | h <;> (obtain ⟨rfl, rfl⟩ := h; rfl))
      | (rcases h with h | h <;> (obtain ⟨rfl, rfl⟩ := h; rfl))
      | (obtain ⟨rfl, rfl⟩ := h; rfl))
  obtain ⟨-, -, -, hc'⟩ := id hs'
  have r1' : zld false (wd Y' n' s' X1) ps (zJ i + 1) = some (zJ (zRdN fa i 1)) := zSc_l (j := 1) hc' hm hi (by decide)
  have kk : ∀ (n s : Nat) (X : zX) (r : zR), zck 13 (wd Y' n s X) (wA Y 14 0) r = r := fun n s X r => by rw [← a14]; exact k14 hV'
  refine ⟨Y', n', s', X2, .int (zJ code), .int (zJ a), ?_, hs', c1, c2⟩
  rw [a13, a14, q_L_law_1815, r1, t_b, e1, t_I, r1', t_b, kk, e2, t_I, kk, e3, t_I, if_pos rfl]
  by_cases q : code = 0
  · have q' : zJ code = 0 := by rw [q]; rfl
    rw [if_pos q', e4 q, t_b, if_pos (lg_self _)]
  · rw [if_neg (zJ_n0 b q)]
theorem L_ofSlot (hs : zSt G t ps o m fa Y n X) (hm : m ≤ 4000) (hi : 0 ≤ i ∧ i + 5 < m) (ht : t < 1000) : zNx G t ps o m fa Y n s X i u5 u6 1871 := by
  obtain ⟨hY, hG, hI, hc⟩ := id hs
  have hV13 : wV Y 13 0 := (wY_F hY).2.1
  have r1 : zld false (wd Y n s X) ps (zJ i + 1) = some (zJ (zRdN fa i 1)) := zSc_l (j := 1) hc hm hi (by decide)
  have r2 : zld false (wd Y n s X) ps (zJ i + 2) = some (zJ (zRdN fa i 2)) := zSc_l (j := 2) hc hm hi (by decide)
  have r3 : zld false (wd Y n s X) ps (zJ i + 3) = some (zJ (zRdN fa i 3)) := zSc_l (j := 3) hc hm hi (by decide)
  obtain ⟨Y', n', s', X1, X2, code, a, e1, e2, e3, e4, hs', a13, a14, hV', b, c1, c2⟩ := law_step (s := s) (wr := fun W => ev_ G 196 0 [.ref (wA Y 13 0), .int (zJ (zRdN fa i 1)), .int (zJ (zRdN fa i 2)), .int (zJ (zRdN fa i 3)), .ref o, zU] [] W) (st := fun x => x.toInt64) hs (k_ofSlot hY hI (zRdN_r _ _ _) (zRdN_r _ _ _) (zRdN_r _ _ _)) (by
    show ev_ G 196 0 _ [] _ = _
    rw [q_L_ofSlot_0, k13 hV13]) (fun E code h W => by
    simp only [List.mem_cons, List.not_mem_nil, or_false, Prod.mk.injEq] at h
    first
      | (rcases h with h | h | h <;> (obtain ⟨rfl, rfl⟩ := h; rfl))
      | (rcases h with h | h <;> (obtain ⟨rfl, rfl⟩ := h; rfl))
      | (obtain ⟨rfl, rfl⟩ := h; rfl))
  obtain ⟨-, -, -, hc'⟩ := id hs'
  have r1' : zld false (wd Y' n' s' X1) ps (zJ i + 1) = some (zJ (zRdN fa i 1)) := zSc_l (j := 1) hc' hm hi (by decide)
  have r2' : zld false (wd Y' n' s' X1) ps (zJ i + 2) = some (zJ (zRdN fa i 2)) := zSc_l (j := 2) hc' hm hi (by decide)
  have r3' : zld false (wd Y' n' s' X1) ps (zJ i + 3) = some (zJ (zRdN fa i 3)) := zSc_l (j := 3) hc' hm hi (by decide)
  have kk : ∀ (n s : Nat) (X : zX) (r : zR), zck 13 (wd Y' n s X) (wA Y 14 0) r = r := fun n s X r => by rw [← a14]; exact k14 hV'
  refine ⟨Y', n', s', X2, .int (zJ code), .int (zJ a), ?_, hs', c1, c2⟩
  rw [a13, a14, q_L_law_1871, r1, t_b, r2, t_b, r3, t_b, e1, t_I, r1', t_b, r2', t_b, r3', t_b, kk, e2, t_I, kk, e3, t_I, if_pos rfl]
  by_cases q : code = 0
  · have q' : zJ code = 0 := by rw [q]; rfl
    rw [if_pos q', e4 q, t_b, if_pos (lg_self _)]
  · rw [if_neg (zJ_n0 b q)]
theorem L_jointAnew (hs : zSt G t ps o m fa Y n X) (hm : m ≤ 4000) (hi : 0 ≤ i ∧ i + 5 < m) (ht : t < 1000) : zNx G t ps o m fa Y n s X i u5 u6 1951 := by
  obtain ⟨hY, hG, hI, hc⟩ := id hs
  have hV13 : wV Y 13 0 := (wY_F hY).2.1
  have r1 : zld false (wd Y n s X) ps (zJ i + 1) = some (zJ (zRdN fa i 1)) := zSc_l (j := 1) hc hm hi (by decide)
  have r2 : zld false (wd Y n s X) ps (zJ i + 2) = some (zJ (zRdN fa i 2)) := zSc_l (j := 2) hc hm hi (by decide)
  obtain ⟨Y', n', s', X1, X2, code, a, e1, e2, e3, e4, hs', a13, a14, hV', b, c1, c2⟩ := law_step (s := s) (wr := fun W => ev_ G 199 0 [.ref (wA Y 13 0), .int (zJ (zRdN fa i 1)), .int (zJ (zRdN fa i 2)), .ref o, zU] [] W) (st := fun x => x.toInt64) hs (k_jointAnew hY hI (zRdN_r _ _ _) (zRdN_r _ _ _)) (by
    show ev_ G 199 0 _ [] _ = _
    rw [q_L_jointAnew_0, k13 hV13]) (fun E code h W => by
    simp only [List.mem_cons, List.not_mem_nil, or_false, Prod.mk.injEq] at h
    first
      | (rcases h with h | h | h <;> (obtain ⟨rfl, rfl⟩ := h; rfl))
      | (rcases h with h | h <;> (obtain ⟨rfl, rfl⟩ := h; rfl))
      | (obtain ⟨rfl, rfl⟩ := h; rfl))
  obtain ⟨-, -, -, hc'⟩ := id hs'
  have r1' : zld false (wd Y' n' s' X1) ps (zJ i + 1) = some (zJ (zRdN fa i 1)) := zSc_l (j := 1) hc' hm hi (by decide)
  have r2' : zld false (wd Y' n' s' X1) ps (zJ i + 2) = some (zJ (zRdN fa i 2)) := zSc_l (j := 2) hc' hm hi (by decide)
  have kk : ∀ (n s : Nat) (X : zX) (r : zR), zck 13 (wd Y' n s X) (wA Y 14 0) r = r := fun n s X r => by rw [← a14]; exact k14 hV'
  refine ⟨Y', n', s', X2, .int (zJ code), .int (zJ a), ?_, hs', c1, c2⟩
  rw [a13, a14, q_L_law_1951, r1, t_b, r2, t_b, e1, t_I, r1', t_b, r2', t_b, kk, e2, t_I, kk, e3, t_I, if_pos rfl]
  by_cases q : code = 0
  · have q' : zJ code = 0 := by rw [q]; rfl
    rw [if_pos q', e4 q, t_b, if_pos (lg_self _)]
  · rw [if_neg (zJ_n0 b q)]
theorem L_recall (hs : zSt G t ps o m fa Y n X) (hm : m ≤ 4000) (hi : 0 ≤ i ∧ i + 5 < m) (ht : t < 1000) : zNx G t ps o m fa Y n s X i u5 u6 2019 := by
  obtain ⟨hY, hG, hI, hc⟩ := id hs
  have hV13 : wV Y 13 0 := (wY_F hY).2.1
  have r1 : zld false (wd Y n s X) ps (zJ i + 1) = some (zJ (zRdN fa i 1)) := zSc_l (j := 1) hc hm hi (by decide)
  obtain ⟨Y', n', s', X1, X2, code, a, e1, e2, e3, e4, hs', a13, a14, hV', b, c1, c2⟩ := law_step (s := s) (wr := fun W => ev_ G 203 0 [.ref (wA Y 13 0), .int (zJ (zRdN fa i 1)), .ref o, zU] [] W) (st := fun x => x.toInt64) hs (k_recall hY hI (zRdN_r _ _ _)) (by
    show ev_ G 203 0 _ [] _ = _
    rw [q_L_recall_0, k13 hV13]) (fun E code h W => by
    simp only [List.mem_cons, List.not_mem_nil, or_false, Prod.mk.injEq] at h
    first
      | (rcases h with h | h | h <;> (obtain ⟨rfl, rfl⟩ := h; rfl))
      | (rcases h with h | h <;> (obtain ⟨rfl, rfl⟩ := h; rfl))
      | (obtain ⟨rfl, rfl⟩ := h; rfl))
  obtain ⟨-, -, -, hc'⟩ := id hs'
  have r1' : zld false (wd Y' n' s' X1) ps (zJ i + 1) = some (zJ (zRdN fa i 1)) := zSc_l (j := 1) hc' hm hi (by decide)
  have kk : ∀ (n s : Nat) (X : zX) (r : zR), zck 13 (wd Y' n s X) (wA Y 14 0) r = r := fun n s X r => by rw [← a14]; exact k14 hV'
  refine ⟨Y', n', s', X2, .int (zJ code), .int (zJ a), ?_, hs', c1, c2⟩
  rw [a13, a14, q_L_law_2019, r1, t_b, e1, t_I, r1', t_b, kk, e2, t_I, kk, e3, t_I, if_pos rfl]
  by_cases q : code = 0
  · have q' : zJ code = 0 := by rw [q]; rfl
    rw [if_pos q', e4 q, t_b, if_pos (lg_self _)]
  · rw [if_neg (zJ_n0 b q)]
end ZL
