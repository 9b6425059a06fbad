/-! THE LAW, 3: the other cases -/
section ZL
variable {Y Y' : zLy} {n n' s s' : Nat} {X X' X2 : zX} {G : Nat × Nat} {ps o m : Nat} {fa : Nat → Int32} {t i : Int} {u5 u6 : Value}
theorem law_stepN {ec : List (Nat × Int)} {cls : zW → zR} {rf : Nat → zW → zR} {wr : zW → zR} {hd : Nat → zW → zR} (hs : zSt G t ps o m fa Y n X) (k : zcaN ec t Y n s X cls rf) (hwr : wr (wd Y n s X) = zthV (cls (wd Y n s X)) (fun W1 => some (.inl (some (.int 0)), W1)) hd) (hhd : ∀ E code, (E, code) ∈ ec → ∀ W, hd E W = some (.inl (some (.int (zJ code))), W)) : ∃ (Y' : zLy) (n' s' : Nat) (X1 X2 : zX) (code : Int), wr (wd Y n s X) = some (.inl (some (.int (zJ code))), wd Y' n' s' X1) ∧ rf (wA Y 14 0) (wd Y' n' s' X1) = some (.inl none, wd Y' n' s' X2) ∧ ev_ G 35 0 [.ref (wA Y 14 0)] [] (wd Y' n' s' X2) = some (.inl (some (.int (zJ code))), wd Y' n' s' X2) ∧ zSt G (t + 1) ps o m fa Y' n' X2 ∧ wA Y' 13 0 = wA Y 13 0 ∧ wA Y' 14 0 = wA Y 14 0 ∧ wV Y' 14 0 ∧ (0 ≤ code ∧ code < 100) ∧ n' ≤ n + 30 ∧ s' ≤ s + 500 := by
  obtain ⟨hY, hG, hI, hc⟩ := hs
  obtain ⟨Y', n', s', X1, X2, code, e1, e2, e3, e4, hY', hl, b1, b2, b3, hI'⟩ := k
  have hl' := hl
  obtain ⟨l1, l2, l3, l4⟩ := hl'
  have hV13 : wV Y 13 0 := (wY_F hY).2.1
  have hV14 : wV Y 14 0 := (wY_M hY).2.1
  have a13 := (l3 13 0 (by decide) (by decide) hV13).2
  have a14 := (l3 14 0 (by decide) (by decide) hV14).2
  have hc' := zSc_k hc hl
  have hM' : wM Y' := wY_M hY'
  have r1 := e2 Y' n' s' hM'
  have hth := m_thrown (G := G) (n := n') (s := s') (X := X2) hM'
  rw [e3, a14] at hth
  rw [a14] at r1
  refine ⟨Y', n', s', X1, X2, code, ?_, r1, hth, ⟨hY', by rw [l2]; exact hG, hI', hc'⟩, a13, a14, hM'.2.1, e4, b1, b3⟩
  rcases e1 with ⟨rfl, e1⟩ | ⟨E, hE, hne, e1⟩
  · rw [hwr, e1, t_V]
    rfl
  · rw [hwr, e1, t_Ve, hhd E code hE]
theorem L_crimp (hs : zSt G t ps o m fa Y n X) (hm : m ≤ 4000) (hi : 0 ≤ i ∧ i + 5 < m) (ht : t < 1000) : zNx G t ps o m fa Y n s X i u5 u6 872 := by
  obtain ⟨hY, hG, hI, hc⟩ := id hs
  have hV13 : wV Y 13 0 := (wY_F hY).2.1
  have r1 : zld false (wd Y n s X) ps (zJ i + 1) = some (zJ (zRdN fa i 1)) := zSc_l (j := 1) hc hm hi (by decide)
  obtain ⟨Y', n', s', X1, X2, code, a, e1, e2, e3, e4, hs', a13, a14, hV', b, c1, c2⟩ := law_step (s := s) (wr := fun W => ev_ G 120 0 [.ref (wA Y 13 0), .int (zJ (zRdN fa i 1)), .ref o, zU] [] W) (st := fun x => if x = 0 then 0 else 1) (hd := fun E W9 => if E = 1 then some (.inl (some (.int 1)), W9) else none) hs (k_crimp hY hI ht (zRdN_r _ _ _)) (by
    show ev_ G 120 0 _ [] _ = _
    rw [q_L_crimp_0, k13 hV13]
    congr 1
    funext x W
    by_cases q : x = 0
    · rw [if_pos q, if_pos q]
    · rw [if_neg q, if_neg q]) (fun E code h W => by
    simp only [List.mem_cons, List.not_mem_nil, or_false, Prod.mk.injEq] at h
    obtain ⟨rfl, rfl⟩ := h
    rfl)
  obtain ⟨-, -, -, hc'⟩ := id hs'
  have r1' : zld false (wd Y' n' s' X1) ps (zJ i + 1) = some (zJ (zRdN fa i 1)) := zSc_l (j := 1) hc' hm hi (by decide)
  have kk : ∀ (n s : Nat) (X : zX) (r : zR), zck 13 (wd Y' n s X) (wA Y 14 0) r = r := fun n s X r => by rw [← a14]; exact k14 hV'
  refine ⟨Y', n', s', X2, .int (zJ code), .int (zJ a), ?_, hs', c1, c2⟩
  rw [a13, a14, q_L_law_872, r1, t_b, e1, t_I, r1', t_b, kk, e2, t_I, kk, e3, t_I, if_pos rfl]
  by_cases q : code = 0
  · have q' : zJ code = 0 := by rw [q]; rfl
    rw [if_pos q', e4 q, t_b]
    by_cases g : zJ a = 0
    · rw [if_pos g, if_pos g, if_pos (lg_self _)]
    · rw [if_neg g, if_neg g, if_pos (lg_self _)]
  · rw [if_neg (zJ_n0 b q)]
theorem zbo (x : Int32) : ∃ z : Int, (z = 0 ∨ z = 1) ∧ ∀ {α : Type} (f : Int32 → α), (if x = 0 then f 0 else f 1) = f (zJ z) := by
  by_cases h : x = 0
  · exact ⟨0, .inl rfl, fun f => if_pos h⟩
  · exact ⟨1, .inr rfl, fun f => if_neg h⟩
theorem L_open (hs : zSt G t ps o m fa Y n X) (hm : m ≤ 4000) (hi : 0 ≤ i ∧ i + 5 < m) (ht : t < 1000) : zNx G t ps o m fa Y n s X i u5 u6 1071 := by
  obtain ⟨hY, hG, hI, hc⟩ := id hs
  have hV13 : wV Y 13 0 := (wY_F hY).2.1
  have r1 : zld false (wd Y n s X) ps (zJ i + 1) = some (zJ (zRdN fa i 1)) := zSc_l (j := 1) hc hm hi (by decide)
  have r2 : zld false (wd Y n s X) ps (zJ i + 2) = some (zJ (zRdN fa i 2)) := zSc_l (j := 2) hc hm hi (by decide)
  obtain ⟨z, hz, hf⟩ := zbo (zJ (zRdN fa i 2))
  obtain ⟨Y', n', s', X1, X2, code, a, e1, e2, e3, e4, hs', a13, a14, hV', b, c1, c2⟩ := law_step (s := s) (wr := fun W => ev_ G 134 0 [.ref (wA Y 13 0), .int (zJ (zRdN fa i 1)), .int (zJ z), .ref o, zU] [] W) (st := fun x => x.toInt64) hs (k_open hY hI (zRdN_r _ _ _) hz) (by
    show ev_ G 134 0 _ [] _ = _
    rw [q_L_open_0, k13 hV13]) (fun E code h W => by
    simp only [List.mem_cons, List.not_mem_nil, or_false, Prod.mk.injEq] at h
    rcases h with h | h <;> (obtain ⟨rfl, rfl⟩ := h; rfl))
  obtain ⟨-, -, -, hc'⟩ := id hs'
  have r1' : zld false (wd Y' n' s' X1) ps (zJ i + 1) = some (zJ (zRdN fa i 1)) := zSc_l (j := 1) hc' hm hi (by decide)
  have r2' : zld false (wd Y' n' s' X1) ps (zJ i + 2) = some (zJ (zRdN fa i 2)) := zSc_l (j := 2) hc' hm hi (by decide)
  have kk : ∀ (n s : Nat) (X : zX) (r : zR), zck 13 (wd Y' n s X) (wA Y 14 0) r = r := fun n s X r => by rw [← a14]; exact k14 hV'
  refine ⟨Y', n', s', X2, .int (zJ code), .int (zJ a), ?_, hs', c1, c2⟩
  rw [a13, a14, q_L_law_1071, r1, t_b, r2, t_b, hf (fun x => ev_ G 205 1092 [.ref ps, .ref (wA Y 13 0), .ref (wA Y 14 0), .ref o, .int (zJ i), u5, u6] [.int x, .int (zJ (zRdN fa i 1)), .ref (wA Y 13 0)] (wd Y n s X)), q_L_law_1092, e1, t_I, r1', t_b, r2', t_b, hf (fun x => ev_ G 205 1119 [.ref ps, .ref (wA Y 13 0), .ref (wA Y 14 0), .ref o, .int (zJ i), .int (zJ code), u6] [.int x, .int (zJ (zRdN fa i 1)), .ref (wA Y 14 0)] (wd Y' n' s' X1)), q_L_law_1119, kk, e2, t_I, kk, e3, t_I, if_pos rfl]
  by_cases q : code = 0
  · have q' : zJ code = 0 := by rw [q]; rfl
    rw [if_pos q', e4 q, t_b, if_pos (lg_self _)]
  · rw [if_neg (zJ_n0 b q)]
theorem L_cover (hs : zSt G t ps o m fa Y n X) (hm : m ≤ 4000) (hi : 0 ≤ i ∧ i + 5 < m) (ht : t < 1000) : zNx G t ps o m fa Y n s X i u5 u6 1539 := by
  obtain ⟨hY, hG, hI, hc⟩ := id hs
  have hV13 : wV Y 13 0 := (wY_F hY).2.1
  have r1 : zld false (wd Y n s X) ps (zJ i + 1) = some (zJ (zRdN fa i 1)) := zSc_l (j := 1) hc hm hi (by decide)
  have r2 : zld false (wd Y n s X) ps (zJ i + 2) = some (zJ (zRdN fa i 2)) := zSc_l (j := 2) hc hm hi (by decide)
  obtain ⟨z, hz, hf⟩ := zbo (zJ (zRdN fa i 2))
  obtain ⟨Y', n', s', X1, X2, code, a, e1, e2, e3, e4, hs', a13, a14, hV', b, c1, c2⟩ := law_step (s := s) (wr := fun W => ev_ G 177 0 [.ref (wA Y 13 0), .int (zJ (zRdN fa i 1)), .int (zJ z), .ref o, zU] [] W) (st := fun x => x.toInt64) hs (k_cover hY hI (zRdN_r _ _ _) hz) (by
    show ev_ G 177 0 _ [] _ = _
    rw [q_L_cover_0, k13 hV13]) (fun E code h W => by
    simp only [List.mem_cons, List.not_mem_nil, or_false, Prod.mk.injEq] at h
    obtain ⟨rfl, rfl⟩ := h
    rfl)
  obtain ⟨-, -, -, hc'⟩ := id hs'
  have r1' : zld false (wd Y' n' s' X1) ps (zJ i + 1) = some (zJ (zRdN fa i 1)) := zSc_l (j := 1) hc' hm hi (by decide)
  have r2' : zld false (wd Y' n' s' X1) ps (zJ i + 2) = some (zJ (zRdN fa i 2)) := zSc_l (j := 2) hc' hm hi (by decide)
  have kk : ∀ (n s : Nat) (X : zX) (r : zR), zck 13 (wd Y' n s X) (wA Y 14 0) r = r := fun n s X r => by rw [← a14]; exact k14 hV'
  refine ⟨Y', n', s', X2, .int (zJ code), .int (zJ a), ?_, hs', c1, c2⟩
  rw [a13, a14, q_L_law_1539, r1, t_b, r2, t_b, hf (fun x => ev_ G 205 1560 [.ref ps, .ref (wA Y 13 0), .ref (wA Y 14 0), .ref o, .int (zJ i), u5, u6] [.int x, .int (zJ (zRdN fa i 1)), .ref (wA Y 13 0)] (wd Y n s X)), q_L_law_1560, e1, t_I, r1', t_b, r2', t_b, hf (fun x => ev_ G 205 1587 [.ref ps, .ref (wA Y 13 0), .ref (wA Y 14 0), .ref o, .int (zJ i), .int (zJ code), u6] [.int x, .int (zJ (zRdN fa i 1)), .ref (wA Y 14 0)] (wd Y' n' s' X1)), q_L_law_1587, kk, e2, t_I, kk, e3, t_I, if_pos rfl]
  by_cases q : code = 0
  · have q' : zJ code = 0 := by rw [q]; rfl
    rw [if_pos q', e4 q, t_b, if_pos (lg_self _)]
  · rw [if_neg (zJ_n0 b q)]
theorem L_flaw (hs : zSt G t ps o m fa Y n X) (hm : m ≤ 4000) (hi : 0 ≤ i ∧ i + 5 < m) (ht : t < 1000) : zNx G t ps o m fa Y n s X i u5 u6 1491 := by
  obtain ⟨hY, hG, hI, hc⟩ := id hs
  have hV13 : wV Y 13 0 := (wY_F hY).2.1
  have r1 : zld false (wd Y n s X) ps (zJ i + 1) = some (zJ (zRdN fa i 1)) := zSc_l (j := 1) hc hm hi (by decide)
  have r2 : zld false (wd Y n s X) ps (zJ i + 2) = some (zJ (zRdN fa i 2)) := zSc_l (j := 2) hc hm hi (by decide)
  obtain ⟨Y', n', s', X1, X2, code, e1, e2, e3, hs', a13, a14, hV', b, c1, c2⟩ := law_stepN (s := s) (wr := fun W => ev_ G 173 0 [.ref (wA Y 13 0), .int (zJ (zRdN fa i 1)), .int (zJ (zRdN fa i 2)), zU] [] W) hs (k_flaw hY hI (zRdN_r _ _ _) (zRdN_r _ _ _)) (by
    show ev_ G 173 0 _ [] _ = _
    rw [q_L_flaw_0, k13 hV13]) (fun E code h W => by
    simp only [List.mem_cons, List.not_mem_nil, or_false, Prod.mk.injEq] at h
    rcases h with h | h <;> (obtain ⟨rfl, rfl⟩ := h; rfl))
  obtain ⟨-, -, -, hc'⟩ := id hs'
  have r1' : zld false (wd Y' n' s' X1) ps (zJ i + 1) = some (zJ (zRdN fa i 1)) := zSc_l (j := 1) hc' hm hi (by decide)
  have r2' : zld false (wd Y' n' s' X1) ps (zJ i + 2) = some (zJ (zRdN fa i 2)) := zSc_l (j := 2) hc' hm hi (by decide)
  have kk : ∀ (n s : Nat) (X : zX) (r : zR), zck 13 (wd Y' n s X) (wA Y 14 0) r = r := fun n s X r => by rw [← a14]; exact k14 hV'
  refine ⟨Y', n', s', X2, .int (zJ code), u6, ?_, hs', c1, c2⟩
  rw [a13, a14, q_L_law_1491, r1, t_b, r2, t_b, e1, t_I, r1', t_b, r2', t_b, kk, e2, t_V, kk, e3, t_I, if_pos rfl]
theorem L_limits (hs : zSt G t ps o m fa Y n X) (hm : m ≤ 4000) (hi : 0 ≤ i ∧ i + 5 < m) (ht : t < 1000) : zNx G t ps o m fa Y n s X i u5 u6 1347 := by
  obtain ⟨hY, hG, hI, hc⟩ := id hs
  have hV13 : wV Y 13 0 := (wY_F hY).2.1
  have r1 : zld false (wd Y n s X) ps (zJ i + 1) = some (zJ (zRdN fa i 1)) := zSc_l (j := 1) hc hm hi (by decide)
  have r2 : zld false (wd Y n s X) ps (zJ i + 2) = some (zJ (zRdN fa i 2)) := zSc_l (j := 2) hc hm hi (by decide)
  have r3 : zld false (wd Y n s X) ps (zJ i + 3) = some (zJ (zRdN fa i 3)) := zSc_l (j := 3) hc hm hi (by decide)
  have r4 : zld false (wd Y n s X) ps (zJ i + 4) = some (zJ (zRdN fa i 4)) := zSc_l (j := 4) hc hm hi (by decide)
  obtain ⟨z, hz, hf⟩ := zbo (zJ (zRdN fa i 1))
  obtain ⟨Y', n', s', X1, X2, code, e1, e2, e3, hs', a13, a14, hV', b, c1, c2⟩ := law_stepN (s := s) (wr := fun W => ev_ G 158 0 [.ref (wA Y 13 0), .int (zJ z), .int (zJ (zRdN fa i 2)), .int (zJ (zRdN fa i 3)), .int (zJ (zRdN fa i 4)), zU] [] W) hs (k_limits hY hI (zRdN_r _ _ _) (zRdN_r _ _ _) (zRdN_r _ _ _) hz) (by
    show ev_ G 158 0 _ [] _ = _
    rw [q_L_limits_0, k13 hV13]) (fun E code h W => by
    simp only [List.mem_cons, List.not_mem_nil, or_false, Prod.mk.injEq] at h
    rcases h with h | h <;> (obtain ⟨rfl, rfl⟩ := h; rfl))
  obtain ⟨-, -, -, hc'⟩ := id hs'
  have r1' : zld false (wd Y' n' s' X1) ps (zJ i + 1) = some (zJ (zRdN fa i 1)) := zSc_l (j := 1) hc' hm hi (by decide)
  have r2' : zld false (wd Y' n' s' X1) ps (zJ i + 2) = some (zJ (zRdN fa i 2)) := zSc_l (j := 2) hc' hm hi (by decide)
  have r3' : zld false (wd Y' n' s' X1) ps (zJ i + 3) = some (zJ (zRdN fa i 3)) := zSc_l (j := 3) hc' hm hi (by decide)
  have r4' : zld false (wd Y' n' s' X1) ps (zJ i + 4) = some (zJ (zRdN fa i 4)) := zSc_l (j := 4) hc' hm hi (by decide)
  have kk : ∀ (n s : Nat) (X : zX) (r : zR), zck 13 (wd Y' n s X) (wA Y 14 0) r = r := fun n s X r => by rw [← a14]; exact k14 hV'
  refine ⟨Y', n', s', X2, .int (zJ code), u6, ?_, hs', c1, c2⟩
  rw [a13, a14, q_L_law_1347, r1, t_b, hf (fun x => ev_ G 205 1362 [.ref ps, .ref (wA Y 13 0), .ref (wA Y 14 0), .ref o, .int (zJ i), u5, u6] [.int x, .ref (wA Y 13 0)] (wd Y n s X)), q_L_law_1362, r2, t_b, r3, t_b, r4, t_b, e1, t_I, r1', t_b, hf (fun x => ev_ G 205 1400 [.ref ps, .ref (wA Y 13 0), .ref (wA Y 14 0), .ref o, .int (zJ i), .int (zJ code), u6] [.int x, .ref (wA Y 14 0)] (wd Y' n' s' X1)), q_L_law_1400, r2', t_b, r3', t_b, r4', t_b, kk, e2, t_V, kk, e3, t_I, if_pos rfl]
end ZL
