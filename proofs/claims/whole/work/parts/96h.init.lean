/-! THE TWO SIDES, 101: the beginning, on (printed with arrs.py's tables) -/
section ZS
variable {Y Y' Y2 : zLy} {n n' n2 s : Nat} {X X' : zX} {G : Nat × Nat} {R : List (Nat × Int × Nat)} {A : List (Nat × zE)}
set_option maxHeartbeats 4000000 in
set_option maxRecDepth 100000 in
theorem con_wS {n1 a0 b1 b2 b3 b4 b5 b6 b7 b8 b9 c1 c2 c3 c4 c5 c6 c7 c8 c9 d0 d1 d2 d3 d4 e1 e2 e3 e4 m0 m1 m2 m3 m4 m5 m6 m7 m8 m9 m10 m11 m12 m13 m14 m15 m16 m17 m18 m19 m20 m21 m22 m23 m24 m25 m26 m27 m28 m29 m30 m31 m32 m33 m34 : Nat} (h : zCon G Y n [(14, 0, n1), (15, 543, m34), (15, 542, m33), (15, 541, m32), (15, 540, m31), (15, 539, m30), (15, 538, m29), (15, 537, m28), (15, 536, m27), (15, 535, m26), (15, 533, m25), (15, 532, m24), (15, 531, m23), (15, 530, m22), (15, 529, m21), (15, 528, m20), (15, 527, m19), (15, 526, m18), (15, 523, m17), (15, 520, m16), (15, 519, m15), (15, 518, m14), (15, 516, m13), (15, 515, m12), (15, 514, m11), (15, 513, m10), (15, 512, m9), (15, 511, m8), (15, 509, m7), (15, 508, m6), (15, 507, m5), (15, 506, m4), (15, 504, m3), (15, 503, m2), (15, 502, m1), (15, 501, m0), (13, 0, a0), (1, 4, d4), (1, 3, d3), (8, 0, e4), (10, 8, c9), (15, 8, b9), (10, 7, c8), (15, 7, b8), (10, 6, c7), (15, 6, b7), (5, 0, e3), (10, 5, c6), (15, 5, b6), (7, 0, e2), (10, 4, c5), (15, 4, b5), (10, 3, c4), (15, 3, b4), (10, 2, c3), (15, 2, b3), (10, 1, c2), (15, 1, b2), (6, 0, e1), (10, 0, c1), (15, 0, b1), (1, 2, d2), (1, 1, d1), (1, 0, d0)] A) : wY Y n ∧ wM Y := by
  have hq := h.2.2.1
  have hY : wY Y n := by
    unfold wY
    rw [hq]
    refine ⟨wK_S h.1 (fun k i hk => ?_), wZq_0⟩
    rcases Nat.lt_or_ge k 17 with g | g
    · rw [zhas_i]
      rcases k_17 g hk with rfl | rfl | rfl | rfl | rfl | rfl | rfl | rfl | rfl | rfl | rfl | rfl | rfl | rfl | rfl | rfl
      all_goals
        simp only [zhas, List.any_cons, List.any_nil, Nat.beq, Nat.reduceBEq, Bool.false_and, Bool.true_and, Bool.false_or, Bool.or_false, Bool.or_eq_true, decide_eq_true_eq, wS, Bool.false_eq_true]
        first | omega | (constructor <;> intro g <;> first | cases g; done | (exfalso; omega))
    · refine ⟨fun q => ?_, fun q => absurd q (wS_k g)⟩
      obtain ⟨a, ha⟩ := q
      simp only [List.mem_cons, List.not_mem_nil, or_false, Prod.mk.injEq] at ha
      omega
  exact ⟨hY, wY_M hY⟩
end ZS
