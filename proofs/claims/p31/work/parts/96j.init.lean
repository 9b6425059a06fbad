/-! THE LAW, 18: the beginning -/
section ZS
variable {Y Y' Y2 : zLy} {n n' n2 s : Nat} {X X' : zX} {G : Nat × Nat} {R : List (Nat × Int × Nat)} {A : List (Nat × zE)}
/-- a row of the law's own -/
theorem con_arr2 {q : Int} {m : Nat} (h : zCon G Y n R A) (h0 : 0 ≤ q) (hm : m ≤ 1000) (hln : wln q = m) (hkd : wkd q = 0) (hno : zno R 15 q = true) (hX : ∀ j, X (500 + q) j = 0) : ∃ Y' : zLy, znai 0 (zJ m) (wd Y n s X) = wd Y' (n + 1) (s + m) X ∧ zCon G Y' (n + 1) ((15, q, n) :: R) A := by
  have hD : (Y.2.2.1 n).1 = 0 := h.1.2.1.1 n (Nat.le_refl _)
  have h1 := con_new (e := zEi 0 m (fun _ => 0)) h
  have e1 : znai 0 (zJ m) (wd Y n s X) = wd (yB Y n (zEi 0 m (fun _ => 0))) (n + 1) (s + m) X := by
    unfold znai
    rw [zJ_clamp (by omega) (by omega)]
    exact wd_B hD
  obtain ⟨w, h2⟩ := con_role (s := s + m) (X := X) (k0 := 15) (i0 := q) h1 (by decide) (by decide) hno (fun j g => absurd g (by decide)) (by
    show _ = zEi (wkd q) (wln q) (fun j => if 0 ≤ q then zJ (X (500 + q) j) else 0)
    rw [hln, hkd]
    refine congrArg (zEi 0 m) (funext fun j => ?_)
    rw [if_pos h0, hX]
    rfl)
  exact ⟨_, by rw [e1, w], h2⟩
theorem zov_l {f j : Int} (h : 1000 < f) : zov zXz f j = 0 := by
  unfold zov
  rw [if_neg (by omega), if_neg (by omega), wu_ne (by omega), wu_ne (by omega), wu_ne (by omega), wu_ne (by omega)]
  exact zXz_0 (by omega)
set_option maxHeartbeats 4000000 in
set_option maxRecDepth 100000 in
theorem con_wS {a0 b1 b2 b3 b4 b5 b6 b7 b8 b9 c1 c2 c3 c4 c5 c6 c7 c8 c9 d0 d1 d2 d3 d4 e1 e2 e3 e4 m0 m1 m2 m3 m4 m5 m6 m7 m8 m9 m10 m11 m12 m13 : Nat} (h : zCon G Y n [(15, 613, m13), (15, 612, m12), (15, 611, m11), (15, 610, m10), (15, 609, m9), (15, 608, m8), (15, 607, m7), (15, 606, m6), (15, 605, m5), (15, 604, m4), (15, 603, m3), (15, 602, m2), (15, 601, m1), (15, 600, m0), (13, 0, a0), (1, 4, d4), (1, 3, d3), (8, 0, e4), (10, 8, c9), (15, 8, b9), (10, 7, c8), (15, 7, b8), (10, 6, c7), (15, 6, b7), (5, 0, e3), (10, 5, c6), (15, 5, b6), (7, 0, e2), (10, 4, c5), (15, 4, b5), (10, 3, c4), (15, 3, b4), (10, 2, c3), (15, 2, b3), (10, 1, c2), (15, 1, b2), (6, 0, e1), (10, 0, c1), (15, 0, b1), (1, 2, d2), (1, 1, d1), (1, 0, d0)] A) : wY Y n := by
  have hq := h.2.2.1
  unfold wY
  rw [hq]
  refine ⟨wK_S h.1 (fun k i hk => ?_), wZq_0⟩
  rcases Nat.lt_or_ge k 17 with g | g
  · rw [zhas_i]
    rcases k_17 g hk with rfl | rfl | rfl | rfl | rfl | rfl | rfl | rfl | rfl | rfl | rfl | rfl | rfl | rfl | rfl | rfl
    all_goals
      simp only [zhas, List.any_cons, List.any_nil, Nat.beq, Nat.reduceBEq, Bool.false_and, Bool.true_and, Bool.false_or, Bool.or_false, Bool.or_eq_true, decide_eq_true_eq, wS, Bool.false_eq_true]
      first | omega | (constructor <;> intro g <;> first | cases g; done | (exfalso; omega))
  · refine ⟨fun q => ?_, fun q => absurd q (wS_k g)⟩
    obtain ⟨a, ha⟩ := q
    simp only [List.mem_cons, List.not_mem_nil, or_false, Prod.mk.injEq] at ha
    omega
theorem con_0 {M : Nat → Option zE} {ps : Nat} {e : zE} (hG : G.1 < n) (hM : M G.1 = some (zEq 5 0 (fun _ => none))) (hp : ps < n) (hpG : ps ≠ G.1) (he : M ps = some e) : zCon G (G.1, M, fun _ => (0, 0), fun _ _ => 0, fun _ _ => 0) n [] [(ps, e)] := by
  refine ⟨⟨fun a h => absurd rfl h, ⟨fun a h => rfl, hG, rfl, hM⟩, fun k i hk => ⟨fun h => absurd (congrArg Prod.fst h).symm hk, fun ⟨a, h⟩ => absurd h List.not_mem_nil⟩, fun k i j ⟨a, h⟩ => absurd h List.not_mem_nil, fun l j ⟨a, h⟩ => absurd h List.not_mem_nil⟩, rfl, rfl, fun k i a h => absurd h List.not_mem_nil, fun a e' h => ?_, List.pairwise_singleton ..⟩
  rw [List.mem_singleton] at h
  cases h
  exact ⟨hp, hpG, rfl, he⟩
set_option maxHeartbeats 4000000 in
set_option maxRecDepth 100000 in
theorem l_make {M : Nat → Option zE} {ps : Nat} {e : zE} (hG : G.1 < n) (hM : M G.1 = some (zEq 5 0 (fun _ => none))) (hp : ps < n) (hpG : ps ≠ G.1) (he : M ps = some e) : ∃ (Y : zLy) (n' s' : Nat), ev_ G 205 0 [.ref ps, zU, zU, zU, zU, zU, zU, zU, zU, zU, zU, zU, zU, zU, zU, zU, zU, zU, zU, zU, zU] [] (n, s, M) = ev_ G 205 92 [.ref ps, .ref (wA Y 13 0), .ref (wA Y 15 600), .ref (wA Y 15 601), .ref (wA Y 15 602), .ref (wA Y 15 603), .ref (wA Y 15 604), .ref (wA Y 15 605), .ref (wA Y 15 606), .ref (wA Y 15 607), .ref (wA Y 15 608), .ref (wA Y 15 609), .ref (wA Y 15 610), .ref (wA Y 15 611), .ref (wA Y 15 612), .ref (wA Y 15 613), .int 0, zU, zU, zU, zU] [] (wd Y n' s' (zov zXz)) ∧ wY Y n' ∧ Y.1 = G.1 ∧ Y.2.2.2.2 = (fun _ _ => 0) ∧ (ps < n' ∧ (Y.2.2.1 ps).1 = 0 ∧ Y.2.1 ps = some e) ∧ n' ≤ n + 100 ∧ s ≤ s' ∧ s' ≤ s + 1000 := by
  have h0 := con_0 hG hM hp hpG he
  rw [show ((n, s, M) : zW) = wd (G.1, M, fun _ => (0, 0), fun _ _ => 0, fun _ _ => 0) n s zXz from rfl, q_L_law_0, wdn_e]
  obtain ⟨Y1, n1, s1, b1, b2, b3, b4, b5, b6, b7, b8, b9, c1, c2, c3, c4, c5, c6, c7, c8, c9, d0, d1, d2, d3, d4, e1, e2, e3, e4, f1, h1, l1, l1', m1, m1'⟩ := n_class (s := s) h0
  rw [f1, t_V]
  obtain ⟨Z1, x1, k1⟩ := con_arr2 (q := 600) (m := 16) (s := s1) (X := zov zXz) h1 (by decide) (by decide) rfl rfl rfl (fun j => zov_l (by decide))
  obtain ⟨Z2, x2, k2⟩ := con_arr2 (q := 601) (m := 17) (s := s1 + 16) (X := zov zXz) k1 (by decide) (by decide) rfl rfl rfl (fun j => zov_l (by decide))
  obtain ⟨Z3, x3, k3⟩ := con_arr2 (q := 602) (m := 8) (s := s1 + 33) (X := zov zXz) k2 (by decide) (by decide) rfl rfl rfl (fun j => zov_l (by decide))
  obtain ⟨Z4, x4, k4⟩ := con_arr2 (q := 603) (m := 25) (s := s1 + 41) (X := zov zXz) k3 (by decide) (by decide) rfl rfl rfl (fun j => zov_l (by decide))
  obtain ⟨Z5, x5, k5⟩ := con_arr2 (q := 604) (m := 48) (s := s1 + 66) (X := zov zXz) k4 (by decide) (by decide) rfl rfl rfl (fun j => zov_l (by decide))
  obtain ⟨Z6, x6, k6⟩ := con_arr2 (q := 605) (m := 12) (s := s1 + 114) (X := zov zXz) k5 (by decide) (by decide) rfl rfl rfl (fun j => zov_l (by decide))
  obtain ⟨Z7, x7, k7⟩ := con_arr2 (q := 606) (m := 12) (s := s1 + 126) (X := zov zXz) k6 (by decide) (by decide) rfl rfl rfl (fun j => zov_l (by decide))
  obtain ⟨Z8, x8, k8⟩ := con_arr2 (q := 607) (m := 13) (s := s1 + 138) (X := zov zXz) k7 (by decide) (by decide) rfl rfl rfl (fun j => zov_l (by decide))
  obtain ⟨Z9, x9, k9⟩ := con_arr2 (q := 608) (m := 19) (s := s1 + 151) (X := zov zXz) k8 (by decide) (by decide) rfl rfl rfl (fun j => zov_l (by decide))
  obtain ⟨Z10, x10, k10⟩ := con_arr2 (q := 609) (m := 32) (s := s1 + 170) (X := zov zXz) k9 (by decide) (by decide) rfl rfl rfl (fun j => zov_l (by decide))
  obtain ⟨Z11, x11, k11⟩ := con_arr2 (q := 610) (m := 32) (s := s1 + 202) (X := zov zXz) k10 (by decide) (by decide) rfl rfl rfl (fun j => zov_l (by decide))
  obtain ⟨Z12, x12, k12⟩ := con_arr2 (q := 611) (m := 5) (s := s1 + 234) (X := zov zXz) k11 (by decide) (by decide) rfl rfl rfl (fun j => zov_l (by decide))
  obtain ⟨Z13, x13, k13⟩ := con_arr2 (q := 612) (m := 8) (s := s1 + 239) (X := zov zXz) k12 (by decide) (by decide) rfl rfl rfl (fun j => zov_l (by decide))
  obtain ⟨Z14, x14, k14⟩ := con_arr2 (q := 613) (m := 8) (s := s1 + 247) (X := zov zXz) k13 (by decide) (by decide) rfl rfl rfl (fun j => zov_l (by decide))
  have hY := con_wS k14
  obtain ⟨b1', b2', b3', b4'⟩ := k14.2.2.2.2.1 ps e (List.mem_singleton.mpr rfl)
  refine ⟨Z14, n1 + 14, s1 + 255, ?_, hY, k14.2.1, k14.2.2.1, ⟨by omega, b3', b4'⟩, by omega, by omega, by omega⟩
  rw [con_A k14 (k := 13) (i := 0) (a := n) (by simp), con_A k14 (k := 15) (i := 600) (a := n1) (by simp), con_A k14 (k := 15) (i := 601) (a := n1 + 1) (by simp), con_A k14 (k := 15) (i := 602) (a := n1 + 2) (by simp), con_A k14 (k := 15) (i := 603) (a := n1 + 3) (by simp), con_A k14 (k := 15) (i := 604) (a := n1 + 4) (by simp), con_A k14 (k := 15) (i := 605) (a := n1 + 5) (by simp), con_A k14 (k := 15) (i := 606) (a := n1 + 6) (by simp), con_A k14 (k := 15) (i := 607) (a := n1 + 7) (by simp), con_A k14 (k := 15) (i := 608) (a := n1 + 8) (by simp), con_A k14 (k := 15) (i := 609) (a := n1 + 9) (by simp), con_A k14 (k := 15) (i := 610) (a := n1 + 10) (by simp), con_A k14 (k := 15) (i := 611) (a := n1 + 11) (by simp), con_A k14 (k := 15) (i := 612) (a := n1 + 12) (by simp), con_A k14 (k := 15) (i := 613) (a := n1 + 13) (by simp)]
  rw [if_neg (show ¬zbad 16 by decide), if_neg (show ¬zbad 17 by decide), if_neg (show ¬zbad 8 by decide), if_neg (show ¬zbad 25 by decide), if_neg (show ¬zbad 48 by decide), if_neg (show ¬zbad 12 by decide), if_neg (show ¬zbad 12 by decide), if_neg (show ¬zbad 13 by decide), if_neg (show ¬zbad 19 by decide), if_neg (show ¬zbad 32 by decide), if_neg (show ¬zbad 32 by decide), if_neg (show ¬zbad 5 by decide), if_neg (show ¬zbad 8 by decide), if_neg (show ¬zbad 8 by decide)]
  have y1 : znai 0 16 (wd Y1 (n1) (s1) (zov zXz)) = wd Z1 (n1 + 1) (s1 + 16) (zov zXz) := x1
  rw [y1]
  have y2 : znai 0 17 (wd Z1 (n1 + 1) (s1 + 16) (zov zXz)) = wd Z2 (n1 + 2) (s1 + 33) (zov zXz) := x2
  rw [y2]
  have y3 : znai 0 8 (wd Z2 (n1 + 2) (s1 + 33) (zov zXz)) = wd Z3 (n1 + 3) (s1 + 41) (zov zXz) := x3
  rw [y3]
  have y4 : znai 0 25 (wd Z3 (n1 + 3) (s1 + 41) (zov zXz)) = wd Z4 (n1 + 4) (s1 + 66) (zov zXz) := x4
  rw [y4]
  have y5 : znai 0 48 (wd Z4 (n1 + 4) (s1 + 66) (zov zXz)) = wd Z5 (n1 + 5) (s1 + 114) (zov zXz) := x5
  rw [y5]
  have y6 : znai 0 12 (wd Z5 (n1 + 5) (s1 + 114) (zov zXz)) = wd Z6 (n1 + 6) (s1 + 126) (zov zXz) := x6
  rw [y6]
  have y7 : znai 0 12 (wd Z6 (n1 + 6) (s1 + 126) (zov zXz)) = wd Z7 (n1 + 7) (s1 + 138) (zov zXz) := x7
  rw [y7]
  have y8 : znai 0 13 (wd Z7 (n1 + 7) (s1 + 138) (zov zXz)) = wd Z8 (n1 + 8) (s1 + 151) (zov zXz) := x8
  rw [y8]
  have y9 : znai 0 19 (wd Z8 (n1 + 8) (s1 + 151) (zov zXz)) = wd Z9 (n1 + 9) (s1 + 170) (zov zXz) := x9
  rw [y9]
  have y10 : znai 0 32 (wd Z9 (n1 + 9) (s1 + 170) (zov zXz)) = wd Z10 (n1 + 10) (s1 + 202) (zov zXz) := x10
  rw [y10]
  have y11 : znai 0 32 (wd Z10 (n1 + 10) (s1 + 202) (zov zXz)) = wd Z11 (n1 + 11) (s1 + 234) (zov zXz) := x11
  rw [y11]
  have y12 : znai 0 5 (wd Z11 (n1 + 11) (s1 + 234) (zov zXz)) = wd Z12 (n1 + 12) (s1 + 239) (zov zXz) := x12
  rw [y12]
  have y13 : znai 0 8 (wd Z12 (n1 + 12) (s1 + 239) (zov zXz)) = wd Z13 (n1 + 13) (s1 + 247) (zov zXz) := x13
  rw [y13]
  have y14 : znai 0 8 (wd Z13 (n1 + 13) (s1 + 247) (zov zXz)) = wd Z14 (n1 + 14) (s1 + 255) (zov zXz) := x14
  rw [y14]
  rfl
end ZS
