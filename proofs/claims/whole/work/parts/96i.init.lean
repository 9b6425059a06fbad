/-! THE TWO SIDES, 102: the beginning, whole -/
section ZS
variable {Y Y' Y2 : zLy} {n n' n2 s : Nat} {X X' : zX} {G : Nat × Nat} {R : List (Nat × Int × Nat)} {A : List (Nat × zE)}
theorem con_0 {M : Nat → Option zE} {ps : Nat} {e : zE} (hG : G.1 < n) (hM : M G.1 = some (zEq 5 0 (fun _ => none))) (hp : ps < n) (hpG : ps ≠ G.1) (he : M ps = some e) : zCon G (G.1, M, fun _ => (0, 0), fun _ _ => 0, fun _ _ => 0) n [] [(ps, e)] := by
  refine ⟨⟨fun a h => absurd rfl h, ⟨fun a h => rfl, hG, rfl, hM⟩, fun k i hk => ⟨fun h => absurd (congrArg Prod.fst h).symm hk, fun ⟨a, h⟩ => absurd h List.not_mem_nil⟩, fun k i j ⟨a, h⟩ => absurd h List.not_mem_nil, fun l j ⟨a, h⟩ => absurd h List.not_mem_nil⟩, rfl, rfl, fun k i a h => absurd h List.not_mem_nil, fun a e' h => ?_, List.pairwise_singleton ..⟩
  rw [List.mem_singleton] at h
  cases h
  exact ⟨hp, hpG, rfl, he⟩
set_option maxHeartbeats 4000000 in
set_option maxRecDepth 100000 in
theorem l_begin {M : Nat → Option zE} {ps : Nat} {e : zE} (hG : G.1 < n) (hM : M G.1 = some (zEq 5 0 (fun _ => none))) (hp : ps < n) (hpG : ps ≠ G.1) (he : M ps = some e) : ∃ (Y : zLy) (n' s' o : Nat), ev_ G 205 0 [.ref ps, zU, zU, zU, zU, zU, zU] [] (n, s, M) = ev_ G 205 23 [.ref ps, .ref (wA Y 13 0), .ref (wA Y 14 0), .ref o, .int 0, zU, zU] [] (wd Y n' s' zXi) ∧ wY Y n' ∧ iAll 0 Y.2.2.2.2 zXi ∧ Y.1 = G.1 ∧ (ps < n' ∧ (Y.2.2.1 ps).1 = 0 ∧ Y.2.1 ps = some e) ∧ (o < n' ∧ o ≠ Y.1 ∧ (Y.2.2.1 o).1 = 0 ∧ Y.2.1 o = some (zEl 1 (fun _ => 0)) ∧ o ≠ ps) ∧ n' ≤ n + 150 ∧ s' ≤ s + 3000 := by
  have h0 := con_0 hG hM hp hpG he
  rw [show ((n, s, M) : zW) = wd (G.1, M, fun _ => (0, 0), fun _ _ => 0, fun _ _ => 0) n s zXz from rfl, q_L_law_0, wdn_e]
  obtain ⟨Y1, n1, s1, b1, b2, b3, b4, b5, b6, b7, b8, b9, c1, c2, c3, c4, c5, c6, c7, c8, c9, d0, d1, d2, d3, d4, e1, e2, e3, e4, f1, h1, l1, l1', m1, m1'⟩ := n_class (s := s) h0
  rw [f1, t_V, wdn_e]
  obtain ⟨Y2, n2, s2, m0, M1_, M2_, m3, m4, m5, m6, m7, m8, m9, m10, m11, m12, m13, m14, m15, m16, m17, m18, m19, m20, m21, m22, m23, m24, m25, m26, m27, m28, m29, m30, m31, m32, m33, m34, f2, h2, l2, l2', m2, m2'⟩ := n_model (s := s1) (X := zov zXz) h1 (fun f j h => by
    unfold zov
    rw [if_neg (by omega), if_neg (by omega), wu_ne (by omega), wu_ne (by omega), wu_ne (by omega), wu_ne (by omega)]
    exact zXz_0 (by omega)) (fun f j h h' => by
    unfold zov
    rw [if_neg (by omega), if_neg (by omega), wu_ne (by omega), wu_ne (by omega), wu_ne (by omega), wu_ne (by omega)]
    exact zXz_0 (by omega))
  obtain ⟨hY, hMo⟩ := con_wS h2
  have a13 : wA Y2 13 0 = n := con_A h2 (by simp)
  have a14 : wA Y2 14 0 = n1 := con_A h2 (by simp)
  have f3 := i_2 (G := G) (n := n2) (s := s2) hMo 8 0 (zov zXz) (by decide) (by decide)
  rw [a14] at f3
  replace f3 : ev_ G 11 283 [.ref n1, .int 0] [] (wd Y2 n2 s2 (zov zXz)) = some (.inl none, wd Y2 n2 s2 (zL5 (zL4 0 (zL3 0 (zL2 0 (zL1 0 (zov zXz))))))) := f3
  rw [f2, f3, t_V, if_neg (show ¬zbad 1 by decide), wdn_e]
  have hD : (Y2.2.2.1 n2).1 = 0 := h2.1.2.1.1 n2 (Nat.le_refl _)
  have hne : n2 ≠ Y2.1 := Nat.ne_of_gt h2.1.2.1.2.1
  obtain ⟨b1', b2', b3', b4'⟩ := h2.2.2.2.2.1 ps e (List.mem_singleton.mpr rfl)
  have f4 : znal 1 (wd Y2 n2 s2 (zL5 (zL4 0 (zL3 0 (zL2 0 (zL1 0 (zov zXz))))))) = wd (yB Y2 n2 (zEl 1 (fun _ => 0))) (n2 + 1) (s2 + 1) zXi := wd_B (X := zXi) hD
  rw [f4]
  refine ⟨yB Y2 n2 (zEl 1 (fun _ => 0)), n2 + 1, s2 + 1, n2, ?_, ⟨wK_B hY.1 (Nat.le_succ _) hne, hY.2⟩, ?_, h2.2.1, ⟨by omega, b3', (if_neg (by omega)).trans b4'⟩, ⟨Nat.lt_succ_self _, hne, hD, yB_b, by omega⟩, by omega, by omega⟩
  · show _ = ev_ G 205 23 [.ref ps, .ref (wA Y2 13 0), .ref (wA Y2 14 0), .ref n2, _, _, _] [] _
    rw [a13, a14]
  · show iAll 0 Y2.2.2.2.2 zXi
    rw [h2.2.2.1]
    exact zXi_I
end ZS
