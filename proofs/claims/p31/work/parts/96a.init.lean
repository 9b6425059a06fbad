/-! THE TWO SIDES, 94: the two objects are made -/
/-- while they are made: the roles with their addresses, the cells without a role, the newest first -/
def zCon (G : Nat × Nat) (Y : zLy) (n : Nat) (R : List (Nat × Int × Nat)) (A : List (Nat × zE)) : Prop := wK Y n (fun k i => ∃ a, (k, i, a) ∈ R) ∧ Y.1 = G.1 ∧ Y.2.2.2.2 = (fun _ _ => 0) ∧ (∀ k i a, (k, i, a) ∈ R → wA Y k i = a ∧ k ≠ 0 ∧ k ≠ 16) ∧ (∀ a e, (a, e) ∈ A → a < n ∧ a ≠ Y.1 ∧ (Y.2.2.1 a).1 = 0 ∧ Y.2.1 a = some e) ∧ A.Pairwise (fun c d => d.1 < c.1)
def zno (R : List (Nat × Int × Nat)) (k : Nat) (i : Int) : Bool := R.all (fun r => !(Nat.beq r.1 k && decide (r.2.1 = i)))
def zhas (R : List (Nat × Int × Nat)) (k : Nat) (i : Int) : Bool := R.any (fun r => Nat.beq r.1 k && decide (r.2.1 = i))
theorem zno_e {R : List (Nat × Int × Nat)} {k : Nat} {i : Int} (h : zno R k i = true) : ¬∃ a, (k, i, a) ∈ R := by
  rintro ⟨a, ha⟩
  have := List.all_eq_true.mp h _ ha
  simp at this
theorem zhas_e {R : List (Nat × Int × Nat)} {k : Nat} {i : Int} (h : zhas R k i = true) : ∃ a, (k, i, a) ∈ R := by
  obtain ⟨⟨k', i', a⟩, h1, h2⟩ := List.any_eq_true.mp h
  rw [Bool.and_eq_true, decide_eq_true_iff] at h2
  have h3 := Nat.eq_of_beq_eq_true h2.1
  simp only at h3 h2
  rw [← h3, ← h2.2]
  exact ⟨a, h1⟩
section ZS
variable {Y Y' Y2 : zLy} {n n' n2 s : Nat} {X X' : zX} {G : Nat × Nat} {R : List (Nat × Int × Nat)} {A : List (Nat × zE)}
theorem con_new {e : zE} (h : zCon G Y n R A) : zCon G (yB Y n e) (n + 1) R ((n, e) :: A) := by
  obtain ⟨hK, h1, h2, h3, h4, h5⟩ := h
  have hN := hK.2.1
  have hne : n ≠ Y.1 := Nat.ne_of_gt hN.2.1
  refine ⟨wK_B hK (Nat.le_succ _) hne, h1, h2, h3, fun a e' h => ?_, List.pairwise_cons.mpr ⟨fun c hc => (h4 c.1 c.2 hc).1, h5⟩⟩
  rcases List.mem_cons.mp h with h | h
  · cases h
    exact ⟨Nat.lt_succ_self _, hne, hN.1 _ (Nat.le_refl _), yB_b⟩
  · obtain ⟨b1, b2, b3, b4⟩ := h4 a e' h
    exact ⟨by omega, b2, b3, (if_neg (by omega)).trans b4⟩
theorem con_pt {ci j a : Nat} {fs fs' : List Value} {v : Value} (h : zCon G Y n R ((a, zEo ci fs) :: A)) (hz : zset fs j v = fs') (hj : Nat.blt j fs.length = true) : zpt ci j (wd Y n s X) a v = some (wd (yB Y a (zEo ci fs')) n s X) ∧ zCon G (yB Y a (zEo ci fs')) n R ((a, zEo ci fs') :: A) := by
  obtain ⟨hK, h1, h2, h3, h4, h5⟩ := h
  obtain ⟨b1, b2, b3, b4⟩ := h4 a _ (List.mem_cons_self ..)
  refine ⟨b_pt2 b3 b4 hz hj, wK_B hK (Nat.le_refl _) b2, h1, h2, h3, fun c e h => ?_, List.pairwise_cons.mpr (List.pairwise_cons.mp h5)⟩
  rcases List.mem_cons.mp h with h | h
  · cases h
    exact ⟨b1, b2, b3, yB_b⟩
  · obtain ⟨c1, c2, c3, c4⟩ := h4 c e (List.mem_cons_of_mem _ h)
    have := (List.pairwise_cons.mp h5).1 _ h
    exact ⟨c1, c2, c3, (if_neg (by simp only at this; omega)).trans c4⟩
theorem con_role {a k0 : Nat} {i0 : Int} {e : zE} (h : zCon G Y n R ((a, e) :: A)) (h0 : k0 ≠ 0) (h16 : k0 ≠ 16) (hno : zno R k0 i0 = true) (hc : ∀ j, k0 < 15 → j < wnf k0 → (wis k0).elem j = false → 20 * k0 + j ≠ 22 → 20 * k0 + j ≠ 21 → zhas R (wtg (fun _ _ => 0) k0 j i0).1 (wtg (fun _ _ => 0) k0 j i0).2 = true) (he : e = wc (yR Y a k0 i0) X k0 i0) : wd Y n s X = wd (yR Y a k0 i0) n s X ∧ zCon G (yR Y a k0 i0) n ((k0, i0, a) :: R) A := by
  obtain ⟨hK, h1, h2, h3, h4, h5⟩ := h
  obtain ⟨b1, b2, b3, b4⟩ := h4 a _ (List.mem_cons_self ..)
  obtain ⟨w, hK'⟩ := wK_new (Y := Y) (n := n) (s := s) (a := a) (k0 := k0) (i0 := i0) (X := X) (X' := X) hK b1 b2 b3 h0 (zno_e hno) (fun _ _ _ _ _ => rfl) (fun _ _ _ _ => rfl) (fun j j1 j2 j3 j4 j5 => by
    rw [h2] at j5 ⊢
    exact zhas_e (hc j j1 j2 j3 j4 (fun g => j5 g rfl))) h16 (by rw [b4, he])
  refine ⟨w, wK_S hK' (fun k i _ => ?_), h1, h2, fun k i c hc => ?_, fun c e' hc => ?_, (List.pairwise_cons.mp h5).2⟩
  · constructor
    · rintro (⟨c, hc⟩ | ⟨rfl, rfl⟩)
      · exact ⟨c, List.mem_cons_of_mem _ hc⟩
      · exact ⟨a, List.mem_cons_self ..⟩
    · rintro ⟨c, hc⟩
      rcases List.mem_cons.mp hc with hc | hc
      · cases hc
        exact .inr ⟨rfl, rfl⟩
      · exact .inl ⟨c, hc⟩
  · rcases List.mem_cons.mp hc with hc | hc
    · cases hc
      exact ⟨if_pos ⟨rfl, rfl⟩, h0, h16⟩
    · have := h3 k i c hc
      refine ⟨?_, this.2⟩
      rw [← this.1]
      refine if_neg (fun g => zno_e hno ?_)
      rw [← g.1, ← g.2]
      exact ⟨c, hc⟩
  · obtain ⟨c1, c2, c3, c4⟩ := h4 c e' (List.mem_cons_of_mem _ hc)
    have := (List.pairwise_cons.mp h5).1 _ hc
    refine ⟨c1, c2, ?_, c4⟩
    show (if c = a then (k0, i0) else Y.2.2.1 c : Nat × Int).1 = 0
    rw [if_neg (by simp only at this; omega)]
    exact c3
/-- what a step that makes roles keeps -/
theorem con_k {R' : List (Nat × Int × Nat)} (h : zCon G Y n R A) (hK : wK Y' n' (fun k i => ∃ a, (k, i, a) ∈ R' ++ R)) (hl : wle Y n Y' n') (hq : Y'.2.2.2.2 = Y.2.2.2.2) (hR : ∀ k i a, (k, i, a) ∈ R' → wA Y' k i = a ∧ k ≠ 0 ∧ k ≠ 16) : zCon G Y' n' (R' ++ R) A := by
  obtain ⟨hK0, h1, h2, h3, h4, h5⟩ := h
  obtain ⟨l1, l2, l3, l4⟩ := hl
  refine ⟨hK, l2.trans h1, hq.trans h2, fun k i a ha => ?_, fun a e ha => ?_, h5⟩
  · rcases List.mem_append.mp ha with ha | ha
    · exact hR k i a ha
    · have := h3 k i a ha
      refine ⟨?_, this.2⟩
      rw [(l3 k i this.2.2 this.2.1 ((hK0.2.2.1 k i this.2.1).mpr ⟨a, ha⟩)).2]
      exact this.1
  · obtain ⟨c1, c2, c3, c4⟩ := h4 a e ha
    have := l4 a c1 c3
    exact ⟨by omega, by rw [l2]; exact c2, this.2, this.1.trans c4⟩
theorem con_list {l : Int} (h : zCon G Y n R A) (hno : zno R 1 l = true) (hX : X 20 l = 0) : ∃ Y' : zLy, ev_ G 2 0 [.ref n] [] (znew 0 3 [.int 0, .null, .int 0] (wd Y n s X)) = some (.inl none, wd Y' (n + 1) (s + 3) X) ∧ zCon G Y' (n + 1) ((1, l, n) :: R) A := by
  obtain ⟨Y', e1, e2, e3, e4, e5⟩ := c_newList (G := G) (n := n) (s := s) (X := X) (l := l) h.1 h.2.1 (zno_e hno) (by rw [h.2.2.1]) (by rw [h.2.2.1])
  have hu : wu X 20 l 0 = X := by
    funext f j
    unfold wu
    split
    · rename_i g
      rw [g.1, g.2, hX]
    · rfl
  rw [hu] at e1
  refine ⟨Y', e1, con_k (R' := [(1, l, n)]) h (wK_S e2 (fun k i _ => ?_)) e4 e5 (fun k i a ha => ?_)⟩
  · constructor
    · rintro (⟨c, hc⟩ | ⟨rfl, rfl⟩)
      · exact ⟨c, List.mem_cons_of_mem _ hc⟩
      · exact ⟨n, List.mem_cons_self ..⟩
    · rintro ⟨c, hc⟩
      rcases List.mem_cons.mp hc with hc | hc
      · cases hc
        exact .inr ⟨rfl, rfl⟩
      · exact .inl ⟨c, hc⟩
  · rw [List.mem_singleton] at ha
    cases ha
    exact ⟨e3, by decide, by decide⟩
theorem con_row {r : Int} {m : Nat} (h : zCon G Y n R A) (h0 : 0 ≤ r) (hln : wln r = m) (hkd : wkd r = 0) (hno : zno R 15 r = true) (hno2 : zno R 10 r = true) (hX : ∀ j, X (500 + r) j = 0) : ∃ (Y' : zLy) (p : Nat), ev_ G 3 0 [.ref n, .int (zJ m)] [] (znew 9 1 [.null] (wd Y n s X)) = some (.inl none, wd Y' (n + 2) (s + 1 + m) X) ∧ zCon G Y' (n + 2) ((10, r, n) :: (15, r, p) :: R) A := by
  obtain ⟨Y', e1, e2, e3, e4, e5⟩ := c_newRow (G := G) (n := n) (s := s) (X := X) (r := r) h.1 h0 hln hkd (zno_e hno) (zno_e hno2)
  have hu : zz X r = X := by
    funext f j
    unfold zz
    split
    · rename_i g
      rw [g, hX]
    · rfl
  rw [hu] at e1
  refine ⟨Y', wA Y' 15 r, e1, con_k (R' := [(10, r, n), (15, r, wA Y' 15 r)]) h (wK_S e2 (fun k i _ => ?_)) e4 e5 (fun k i a ha => ?_)⟩
  · constructor
    · rintro ((⟨c, hc⟩ | ⟨rfl, rfl⟩) | ⟨rfl, rfl⟩)
      · exact ⟨c, List.mem_cons_of_mem _ (List.mem_cons_of_mem _ hc)⟩
      · exact ⟨_, List.mem_cons_of_mem _ (List.mem_cons_self ..)⟩
      · exact ⟨_, List.mem_cons_self ..⟩
    · rintro ⟨c, hc⟩
      rcases List.mem_cons.mp hc with hc | hc
      · cases hc
        exact .inr ⟨rfl, rfl⟩
      · rcases List.mem_cons.mp hc with hc | hc
        · cases hc
          exact .inl (.inr ⟨rfl, rfl⟩)
        · exact .inl (.inl ⟨c, hc⟩)
  · simp only [List.mem_cons, List.not_mem_nil, or_false, Prod.mk.injEq] at ha
    rcases ha with ⟨rfl, rfl, rfl⟩ | ⟨rfl, rfl, rfl⟩
    · exact ⟨e3, by decide, by decide⟩
    · exact ⟨rfl, by decide, by decide⟩
/-- a field of an object in the making gets a row of numbers -/
theorem con_arr {q : Int} {m kd j a ci : Nat} {fs fs' : List Value} (h : zCon G Y n R ((a, zEo ci fs) :: A)) (h0 : 0 ≤ q) (hm : m ≤ 1000) (hln : wln q = m) (hkd : wkd q = kd) (hno : zno R 15 q = true) (hX : ∀ j, X (500 + q) j = 0) (hz : zset fs j (.ref n) = fs') (hj : Nat.blt j fs.length = true) : ∃ Y' : zLy, zpt ci j (znai kd (zJ m) (wd Y n s X)) a (.ref n) = some (wd Y' (n + 1) (s + m) X) ∧ zCon G Y' (n + 1) ((15, q, n) :: R) ((a, zEo ci fs') :: A) := by
  have hD : (Y.2.2.1 n).1 = 0 := h.1.2.1.1 n (Nat.le_refl _)
  have h1 := con_new (e := zEi kd m (fun _ => 0)) h
  have e1 : znai kd (zJ m) (wd Y n s X) = wd (yB Y n (zEi kd m (fun _ => 0))) (n + 1) (s + m) X := by
    unfold znai
    rw [zJ_clamp (by omega) (by omega)]
    exact wd_B hD
  obtain ⟨w, h2⟩ := con_role (s := s + m) (X := X) (k0 := 15) (i0 := q) h1 (by decide) (by decide) hno (fun j g => absurd g (by decide)) (by
    show _ = zEi (wkd q) (wln q) (fun j => if 0 ≤ q then zJ (X (500 + q) j) else 0)
    rw [hln, hkd]
    refine congrArg (zEi kd m) (funext fun j => ?_)
    rw [if_pos h0, hX]
    rfl)
  obtain ⟨e3, h3⟩ := con_pt (s := s + m) (X := X) (v := .ref n) h2 hz hj
  exact ⟨_, by rw [e1, w, e3], h3⟩
end ZS
