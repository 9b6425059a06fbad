/-! THE LAW, 4: the loop over the calls -/
section ZL
variable {Y Y' : zLy} {n n' s s' : Nat} {X X' X2 : zX} {G : Nat × Nat} {ps o m : Nat} {fa : Nat → Int32} {t i : Int} {u5 u6 : Value}
theorem z31 (x : Int32) : 0 ≤ (x &&& 31).toInt ∧ (x &&& 31).toInt < 32 := by
  have e : (x &&& 31).toBitVec.toNat = x.toBitVec.toNat &&& 31 := by
    rw [Int32.toBitVec_and, BitVec.toNat_and]
    rfl
  have hl := Nat.and_le_right (n := x.toBitVec.toNat) (m := 31)
  have e2 : (x &&& 31).toInt = ((x &&& 31).toBitVec.toNat : Int) := BitVec.toInt_eq_toNat_of_lt (by rw [e]; omega)
  rw [e2, e]
  omega
def zpcs : List Nat := [168, 260, 340, 408, 512, 568, 636, 692, 760, 816, 872, 935, 991, 1071, 1155, 1223, 1267, 1347, 1435, 1491, 1539, 1623, 1679, 1759, 1815, 1871, 1951, 2019]
theorem zsw_v {x : Int32} {v : Int} (h : x.toInt = v) (h0 : 0 ≤ v) : zsw 0 zpcs 2075 x = (zpcs[v.toNat]?).getD 2075 := by
  unfold zsw
  rw [h, if_neg (by omega), Int.sub_zero]
  cases zpcs[v.toNat]? <;> rfl
theorem L_any (hs : zSt G t ps o m fa Y n X) (hm : m ≤ 4000) (hi : 0 ≤ i ∧ i + 5 < m) (ht : t < 1000) (v : Int) (hv : 0 ≤ v ∧ v < 28) (x : Int32) (hx : x.toInt = v) : zNx G t ps o m fa Y n s X i u5 u6 (zsw 0 zpcs 2075 x) := by
  rw [zsw_v hx hv.1]
  have : v = 0 ∨ v = 1 ∨ v = 2 ∨ v = 3 ∨ v = 4 ∨ v = 5 ∨ v = 6 ∨ v = 7 ∨ v = 8 ∨ v = 9 ∨ v = 10 ∨ v = 11 ∨ v = 12 ∨ v = 13 ∨ v = 14 ∨ v = 15 ∨ v = 16 ∨ v = 17 ∨ v = 18 ∨ v = 19 ∨ v = 20 ∨ v = 21 ∨ v = 22 ∨ v = 23 ∨ v = 24 ∨ v = 25 ∨ v = 26 ∨ v = 27 := by omega
  rcases this with rfl | rfl | rfl | rfl | rfl | rfl | rfl | rfl | rfl | rfl | rfl | rfl | rfl | rfl | rfl | rfl | rfl | rfl | rfl | rfl | rfl | rfl | rfl | rfl | rfl | rfl | rfl | rfl
  · exact L_bundle hs hm hi ht
  · exact L_connector hs hm hi ht
  · exact L_mates hs hm hi ht
  · exact L_wire hs hm hi ht
  · exact L_pull hs hm hi ht
  · exact L_ofWire hs hm hi ht
  · exact L_weight hs hm hi ht
  · exact L_order hs hm hi ht
  · exact L_least hs hm hi ht
  · exact L_leastAnew hs hm hi ht
  · exact L_crimp hs hm hi ht
  · exact L_crimps hs hm hi ht
  · exact L_reel hs hm hi ht
  · exact L_open hs hm hi ht
  · exact L_ofReel hs hm hi ht
  · exact L_board hs hm hi ht
  · exact L_place hs hm hi ht
  · exact L_limits hs hm hi ht
  · exact L_solder hs hm hi ht
  · exact L_flaw hs hm hi ht
  · exact L_cover hs hm hi ht
  · exact L_test hs hm hi ht
  · exact L_repair hs hm hi ht
  · exact L_ship hs hm hi ht
  · exact L_pass hs hm hi ht
  · exact L_ofSlot hs hm hi ht
  · exact L_jointAnew hs hm hi ht
  · exact L_recall hs hm hi ht
theorem zSc_len (h : zSc Y n ps o m fa) : zlen (wd Y n s X) ps = some (Int32.ofNat m) := by
  unfold zlen
  rw [wdx_0 h.1.2.1, h.1.2.2]
theorem law_loop (hm : m ≤ 4000) : ∀ (k : Nat) (i t : Int) (Y : zLy) (n s : Nat) (X : zX) (u5 u6 : Value), zSt G t ps o m fa Y n X → 0 ≤ i → i ≤ 5000 → (m : Int) - i < 6 * k + 6 → t + k ≤ 1000 → ∃ W : zW, ev_ G 205 23 [.ref ps, .ref (wA Y 13 0), .ref (wA Y 14 0), .ref o, .int (zJ i), u5, u6] [] (wd Y n s X) = some (.inl (some (.int 1)), W) ∧ W.1 ≤ n + 30 * k ∧ W.2.1 ≤ s + 500 * k := by
  have hend : ∀ (i t : Int) (Y : zLy) (n s : Nat) (X : zX) (u5 u6 : Value), zSt G t ps o m fa Y n X → 0 ≤ i → i ≤ 5000 → (m : Int) - 6 < i → ev_ G 205 23 [.ref ps, .ref (wA Y 13 0), .ref (wA Y 14 0), .ref o, .int (zJ i), u5, u6] [] (wd Y n s X) = some (.inl (some (.int 1)), wd Y n s X) := by
    intro i t Y n s X u5 u6 hs hi h5 h
    rw [q_L_law_23, zSc_len hs.2.2.2, t_b, zJ_ofNat, show (6 : Int32) = zJ 6 from rfl, zJ_sub, if_pos (show zJ ((m : Int) - 6) < zJ i by rw [zJ_lt (by omega) (by omega) (by omega) (by omega)]; exact h)]
    rfl
  intro k
  induction k with
  | zero =>
    intro i t Y n s X u5 u6 hs hi h5 hk ht
    exact ⟨wd Y n s X, hend i t Y n s X u5 u6 hs hi h5 (by omega), Nat.le_refl _, Nat.le_refl _⟩
  | succ k ih =>
    intro i t Y n s X u5 u6 hs hi h5 hk ht
    by_cases g : (m : Int) - 6 < i
    · exact ⟨wd Y n s X, hend i t Y n s X u5 u6 hs hi h5 g, Nat.le_add_right _ _, Nat.le_add_right _ _⟩
    · have hread := zSc_ld (s := s) (X := X) hs.2.2.2 hm hi (show i < m by omega)
      have hstep : ev_ G 205 23 [.ref ps, .ref (wA Y 13 0), .ref (wA Y 14 0), .ref o, .int (zJ i), u5, u6] [] (wd Y n s X) = ev_ G 205 (zsw 0 zpcs 2075 (fa i.toNat &&& 31)) [.ref ps, .ref (wA Y 13 0), .ref (wA Y 14 0), .ref o, .int (zJ i), u5, u6] [] (wd Y n s X) := by
        rw [q_L_law_23, zSc_len hs.2.2.2, t_b, zJ_ofNat, show (6 : Int32) = zJ 6 from rfl, zJ_sub, if_neg (show ¬zJ ((m : Int) - 6) < zJ i by rw [zJ_lt (by omega) (by omega) (by omega) (by omega)]; exact g), hread, t_b]
        rfl
      have hv := z31 (fa i.toNat)
      have hx : zNx G t ps o m fa Y n s X i u5 u6 (zsw 0 zpcs 2075 (fa i.toNat &&& 31)) ∨ zsw 0 zpcs 2075 (fa i.toNat &&& 31) = 2075 := by
        by_cases h : (fa i.toNat &&& 31).toInt < 28
        · exact .inl (L_any hs hm ⟨hi, by omega⟩ (by omega) _ ⟨hv.1, h⟩ _ rfl)
        · refine .inr ?_
          rw [zsw_v rfl hv.1, List.getElem?_eq_none (show zpcs.length ≤ _ by show 28 ≤ _; omega)]
          rfl
      rw [hstep]
      rcases hx with ⟨Y', n', s', X', v5, v6, e, hs', b1, b2⟩ | e
      · obtain ⟨W, w1, w2, w3⟩ := ih (i + 6) (t + 1) Y' n' s' X' v5 v6 hs' (by omega) (by omega) (by omega) (by omega)
        refine ⟨W, ?_, by omega, by omega⟩
        rw [e, q_L_law_2075, show (6 : Int32) = zJ 6 from rfl, zJ_add]
        exact w1
      · obtain ⟨W, w1, w2, w3⟩ := ih (i + 6) t Y n s X u5 u6 hs (by omega) (by omega) (by omega) (by omega)
        refine ⟨W, ?_, by omega, by omega⟩
        rw [e, q_L_law_2075, show (6 : Int32) = zJ 6 from rfl, zJ_add]
        exact w1
set_option maxRecDepth 100000 in
/-- the whole law -/
theorem law_whole {M : Nat → Option zE} (hm : m ≤ 4000) (hG : G.1 < n) (hM : M G.1 = some (zEq 5 0 (fun _ => none))) (hp : ps < n) (hpG : ps ≠ G.1) (he : M ps = some (zEi 4 m fa)) : ∃ W : zW, ev_ G 205 0 [.ref ps, zU, zU, zU, zU, zU, zU] [] (n, s, M) = some (.inl (some (.int 1)), W) ∧ W.1 ≤ n + 150 + 5 * m + 30 ∧ W.2.1 ≤ s + 3000 + 84 * m + 500 := by
  obtain ⟨Y, n', s', o, e1, hY, hI, hYG, h1, h2, b1, b2⟩ := l_begin (s := s) hG hM hp hpG he
  have hs : zSt G 0 ps o m fa Y n' zXi := ⟨hY, hYG, hI, h1, ⟨h2.1, h2.2.1, h2.2.2.1, _, h2.2.2.2.1⟩, h2.2.2.2.2⟩
  obtain ⟨W, w1, w2, w3⟩ := law_loop hm (m / 6 + 1) 0 0 Y n' s' zXi zU zU hs (by decide) (by decide) (by omega) (by omega)
  have c1 : ∀ a, a ≤ n' + 30 * (m / 6 + 1) → a ≤ n + 150 + 5 * m + 30 := fun a h => by omega
  have c2 : ∀ a, a ≤ s' + 500 * (m / 6 + 1) → a ≤ s + 3000 + 84 * m + 500 := fun a h => by omega
  exact ⟨W, e1.trans w1, c1 _ w2, c2 _ w3⟩
end ZL
