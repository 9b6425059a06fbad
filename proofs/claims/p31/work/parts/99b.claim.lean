/-! THE CLAIM, 2: the law from its entry -/
set_option maxRecDepth 100000 in
/-- YOUR PART: from the entry, for every script of at most 260 ints, the law comes to its end with true -/
theorem whole_start {p : Program} {e : Env} {s : State} {m : MethodId} {below : List Frame} {meth : Method} {c : Code} (l : Launch) (hflags : l.flags = flags0) {b L : Nat} {xs : Nat → Int32} (hL : L ≤ 260) (C0 : lw_At p s m meth c b L xs) : W p l e room_1 s m #[Value.ref b] below meth c s.heap [] 0 0 (lw_Z below #[Value.ref b] s) (entryFrame m ([Value.ref b] : List Value).toArray 21) := by
  obtain ⟨hx, hb, hr, hml, hown, hts, hX, hbl, hlocks, hgv⟩ := C0
  obtain ⟨D, cA, G, hCt, hT⟩ := z_Ct hts hgv
  have hz : ∀ w ∈ zT, w.before #[Value.ref b] s = true := fun w hw => hts w (zT_tbl hw)
  have hst : l.stackTraces = false := by
    unfold Launch.stackTraces
    rw [hflags]
    decide +kernel
  have hne : b ≠ G.1 := by
    rintro rfl
    obtain ⟨scr, x1, x2, -⟩ := hX
    obtain ⟨cell, t1, t2, -⟩ := hT
    cases x1.symm.trans t1
    obtain ⟨k1, y1, p1, z1⟩ := x2.2
    obtain ⟨k2, y2, p2, z2⟩ := t2.2
    cases y1.symm.trans y2
    rw [z1] at z2
    cases z2
  have hGlt : G.1 < s.heap.size := by
    obtain ⟨cell, t1, -⟩ := hT
    exact (Array.getElem?_eq_some_iff.mp t1).1
  have hGA : ¬s.heap.size ≤ G.1 := Nat.not_le.mpr hGlt
  have hbA : ¬s.heap.size ≤ b := Nat.not_le.mpr hbl
  let M : Nat → Option zE := fun a => if a = G.1 then some (zEq 5 0 (fun _ => none)) else if a = b then some (zEi 4 L xs) else none
  obtain ⟨Wd, w1, w2, w3⟩ := law_whole (G := G) (n := s.heap.size) (s := 0) (M := M) (ps := b) (m := L) (fa := xs) (Nat.le_trans hL (Nat.le_of_ble_eq_true rfl)) hGlt (if_pos rfl) hbl hne ((if_neg hne).trans (if_pos rfl))
  have hsim : zSim D cA s.heap.size s (s.heap.size, 0, M) s.heap := by
    refine ⟨rfl, fun a e' he => ?_⟩
    by_cases q : a = G.1
    · have : M a = some (zEq 5 0 (fun _ => none)) := if_pos q
      cases this.symm.trans he
      subst q
      exact Or.inl ⟨rfl, hT⟩
    · by_cases q2 : a = b
      · have : M a = some (zEi 4 L xs) := (if_neg q).trans (if_pos q2)
        cases this.symm.trans he
        subst q2
        exact Or.inl ⟨rfl, hX, hbA⟩
      · have : M a = none := (if_neg q).trans (if_neg q2)
        cases this.symm.trans he
  obtain ⟨g1, g2, g3⟩ := so_all (l := l) (D := D) (cA := cA) (zb := s.heap.size) 205 0 _ _ _ _ w1 zi_L_law zn_L_law
  rw [lg_entry_eq]
  have hl := zL_entry (as := [Value.ref b]) (n := 21) (fun v hv => by
    rw [List.mem_singleton] at hv
    subst hv
    exact ⟨rfl, fun h => by cases h⟩) (show 1 ≤ 21 by decide)
  have hc1 : 0 + (Wd.1 - s.heap.size) ≤ 690059 := by omega
  have hc2 : 0 + (Wd.2.1 - 0) ≤ 7031522 := by omega
  refine g3 p e room_1 s m _ below meth c ⟨hx, hb, hr, hml, hown, hz, hlocks, fun h => absurd h (show ¬yL_law.name = "<init>" by decide), Or.inl rfl, (show 13 ≤ 2048 by decide), (show 60 * 13 ≤ 84000 from Nat.le_of_ble_eq_true rfl), hst, hCt⟩ s.heap [] 0 0 _ _ _ _ hsim hl va_S.rf rfl rfl hc1 hc2 ?_
  intro H locs pc lsr h1 h2 h3
  refine va_forget (fun q hq => h2.2.2 q hq) ?_
  refine W.widen hc1 hc2 ?_
  exact lw_ret hx hb hr hlocks h3.1
