/-! THE TWO SIDES, 60: the layout's books: which roles stand, what refers to what -/
/-- the role to which a field refers; the role of a list's element -/
def wtg (Q : zQs) (k j : Nat) (i : Int) : Nat × Int := bif Nat.beq (20 * k + j) 21 then (16, i) else bif Nat.beq (20 * k + j) 43 then (1, (29 + i)) else bif Nat.beq (20 * k + j) 44 then (10, (9 + i)) else bif Nat.beq (20 * k + j) 102 then (10, 5) else bif Nat.beq (20 * k + j) 120 then (1, 0) else bif Nat.beq (20 * k + j) 121 then (1, 1) else bif Nat.beq (20 * k + j) 122 then (1, 2) else bif Nat.beq (20 * k + j) 123 then (10, 0) else bif Nat.beq (20 * k + j) 140 then (10, 1) else bif Nat.beq (20 * k + j) 141 then (10, 2) else bif Nat.beq (20 * k + j) 142 then (10, 3) else bif Nat.beq (20 * k + j) 143 then (10, 4) else bif Nat.beq (20 * k + j) 160 then (10, 6) else bif Nat.beq (20 * k + j) 161 then (10, 7) else bif Nat.beq (20 * k + j) 162 then (10, 8) else bif Nat.beq (20 * k + j) 200 then (15, i) else bif Nat.beq (20 * k + j) 240 then (4, (Q 2 i)) else bif Nat.beq (20 * k + j) 242 then (4, (Q 3 i)) else bif Nat.beq (20 * k + j) 247 then (1, (5 + i)) else bif Nat.beq (20 * k + j) 260 then (6, 0) else bif Nat.beq (20 * k + j) 261 then (7, 0) else bif Nat.beq (20 * k + j) 262 then (5, 0) else bif Nat.beq (20 * k + j) 263 then (8, 0) else bif Nat.beq (20 * k + j) 264 then (1, 3) else bif Nat.beq (20 * k + j) 265 then (1, 4) else (15, 500 + j)
def wet (Q : zQs) (l i : Int) : Nat × Int := if l = 0 then (3, i) else if l = 1 then (4, i) else if l = 2 then (12, i) else if l = 3 then (9, i) else if l = 4 then (2, i) else if l < 29 then (3, Q 4 (16 * (l - 5) + i)) else (11, 8 * (l - 29) + i)
theorem bif_f {α β : Type} {f : α → β} {b : Bool} {x y : α} : f (bif b then x else y) = bif b then f x else f y := by cases b <;> rfl
def wAp (Y : zLy) (q : Nat × Int) : Nat := wA Y q.1 q.2
theorem wrf_t {Y : zLy} {k j : Nat} {i : Int} : wrf Y k j i = if 20 * k + j = 21 ∧ Y.2.2.2.2 1 i = 0 then Y.1 else wA Y (wtg Y.2.2.2.2 k j i).1 (wtg Y.2.2.2.2 k j i).2 := by
  show _ = if 20 * k + j = 21 ∧ Y.2.2.2.2 1 i = 0 then Y.1 else wAp Y (wtg Y.2.2.2.2 k j i)
  unfold wrf wtg
  cases h : Nat.beq (20 * k + j) 21 with
  | true =>
    have := Nat.eq_of_beq_eq_true h
    by_cases h1 : Y.2.2.2.2 1 i = 0
    · simp only [cond_true, h1, this, and_self, if_true]
    · simp only [cond_true, h1, and_false, if_false]
      rfl
  | false =>
    have := Nat.ne_of_beq_eq_false h
    simp only [cond_false, this, false_and, if_false, bif_f (f := wAp Y)]
    rfl
theorem wel_t {Y : zLy} {l i : Int} : wel Y l i = wA Y (wet Y.2.2.2.2 l i).1 (wet Y.2.2.2.2 l i).2 := by
  unfold wel wet
  repeat (first | rfl | split)
theorem bif_0 {b : Bool} {p q : Nat × Int} (h : p.1 ≠ 0) (h' : q.1 ≠ 0) : (bif b then p else q).1 ≠ 0 := by cases b <;> assumption
theorem if_0 {c : Prop} [Decidable c] {p q : Nat × Int} (h : p.1 ≠ 0) (h' : q.1 ≠ 0) : (if c then p else q).1 ≠ 0 := by split <;> assumption
theorem wtg_0 {Q : zQs} {k j : Nat} {i : Int} : (wtg Q k j i).1 ≠ 0 := by
  unfold wtg
  repeat (refine bif_0 (Nat.succ_ne_zero _) ?_)
  exact Nat.succ_ne_zero _
theorem wet_0 {Q : zQs} {l i : Int} : (wet Q l i).1 ≠ 0 := by
  unfold wet
  repeat (refine if_0 (Nat.succ_ne_zero _) ?_)
  exact Nat.succ_ne_zero _
theorem wc_c {Y Y' : zLy} {X X' : zX} {k : Nat} {i : Int} (hX : ∀ j, (wis k).elem j = true → X' (wfx k j) i = X (wfx k j) i) (hX15 : k = 15 → 0 ≤ i → ∀ j, X' (500 + i) j = X (500 + i) j) (h0 : Y'.2.2.2.2 0 i = Y.2.2.2.2 0 i) (h1 : Y'.2.2.2.2 1 i = Y.2.2.2.2 1 i) (hrf : ∀ j, k < 15 → j < wnf k → (wis k).elem j = false → 20 * k + j ≠ 22 → wrf Y' k j i = wrf Y k j i) (hel : k = 16 → ∀ j, 0 ≤ j → j < Y.2.2.2.2 0 i → wel Y' i j = wel Y i j) : wc Y' X' k i = wc Y X k i := by
  unfold wc
  cases a15 : Nat.beq k 15 with
  | true =>
    refine congrArg (zEi (wkd i) (wln i)) (funext fun x => ?_)
    by_cases q0 : 0 ≤ i
    · rw [if_pos q0, if_pos q0, hX15 (Nat.eq_of_beq_eq_true a15) q0]
    · rw [if_neg q0, if_neg q0]
  | false =>
    cases a16 : Nat.beq k 16 with
    | true =>
      show zEq 3 (Y'.2.2.2.2 1 i).toNat (fun j => if (j : Int) < Y'.2.2.2.2 0 i then some (wel Y' i j) else none) = zEq 3 (Y.2.2.2.2 1 i).toNat (fun j => if (j : Int) < Y.2.2.2.2 0 i then some (wel Y i j) else none)
      rw [h1, h0]
      refine congrArg (zEq 3 _) (funext fun x => ?_)
      by_cases q : (x : Int) < Y.2.2.2.2 0 i
      · rw [if_pos q, if_pos q, hel (Nat.eq_of_beq_eq_true a16) x (by omega) q]
      · rw [if_neg q, if_neg q]
    | false =>
      refine congrArg (zEo (k - 1)) (List.map_congr_left (fun j hj => ?_))
      rw [List.mem_range] at hj
      unfold wfv
      cases h6 : (wis k).elem j with
      | true => exact congrArg (fun x => Value.int (zJ x)) (hX j h6)
      | false =>
        cases h22 : Nat.beq (20 * k + j) 22 with
        | false =>
          have hk : k < 15 := by
            rcases Nat.lt_or_ge k 15 with q | q
            · exact q
            · have : wnf k = 0 := by
                obtain ⟨m, rfl⟩ := Nat.exists_eq_add_of_le' q
                rfl
              rw [this] at hj
              exact absurd hj (Nat.not_lt_zero j)
          exact congrArg Value.ref (hrf j hk hj h6 (Nat.ne_of_beq_eq_false h22))
        | true => exact congrArg (fun x => Value.int (zJ x)) h0
def yB (Y : zLy) (a : Nat) (e : zE) : zLy := (Y.1, (fun b => if b = a then some e else Y.2.1 b), Y.2.2.1, Y.2.2.2.1, Y.2.2.2.2)
def yR (Y : zLy) (a k : Nat) (i : Int) : zLy := (Y.1, Y.2.1, (fun b => if b = a then (k, i) else Y.2.2.1 b), (fun k' i' => if k' = k ∧ i' = i then a else Y.2.2.2.1 k' i'), Y.2.2.2.2)
theorem yB_B {Y : zLy} {a : Nat} {e e' : zE} : yB (yB Y a e) a e' = yB Y a e' := by
  unfold yB
  refine congrArg (fun f => (Y.1, f, Y.2.2.1, Y.2.2.2.1, Y.2.2.2.2)) (funext fun b => ?_)
  show (if b = a then some e' else if b = a then some e else Y.2.1 b) = if b = a then some e' else Y.2.1 b
  split <;> rfl
theorem yB_cm {Y : zLy} {a b : Nat} {e e' : zE} (h : a ≠ b) : yB (yB Y a e) b e' = yB (yB Y b e') a e := by
  unfold yB
  refine congrArg (fun f => (Y.1, f, Y.2.2.1, Y.2.2.2.1, Y.2.2.2.2)) (funext fun c => ?_)
  show (if c = b then some e' else if c = a then some e else Y.2.1 c) = if c = a then some e else if c = b then some e' else Y.2.1 c
  by_cases h1 : c = b
  · rw [if_pos h1, if_neg (fun q => h (q.symm.trans h1)), if_pos h1]
  · rw [if_neg h1]
    split <;> rfl
section ZB
variable {Y : zLy} {n n' s s' : Nat} {X : zX} {a : Nat} {e : zE} {ci j : Nat} {fs fs' : List Value}
theorem wd_B (hD : (Y.2.2.1 a).1 = 0) : ((n', s', zup (wd Y n s X).2.2 a e) : zW) = wd (yB Y a e) n' s' X := by
  refine congrArg (fun M => ((n', s', M) : zW)) (funext fun b => ?_)
  show zup (wd Y n s X).2.2 a e b = (wd (yB Y a e) n' s' X).2.2 b
  by_cases h : b = a
  · subst h
    rw [up_s, wdx_0 (show ((yB Y b e).2.2.1 b).1 = 0 from hD)]
    exact (if_pos rfl).symm
  · rw [up_n h, wd_x, wd_x]
    have : (yB Y a e).2.1 b = Y.2.1 b := if_neg h
    rw [this]
    rfl
theorem wd_Bc (hD : (Y.2.2.1 a).1 = 0) : (wd (yB Y a e) n s X).2.2 a = some e := by
  rw [wdx_0 (show ((yB Y a e).2.2.1 a).1 = 0 from hD)]
  exact if_pos rfl
theorem b_pt {v : Value} (hD : (Y.2.2.1 a).1 = 0) (hz : zset fs j v = fs') (hj : Nat.blt j fs.length = true) : zpt ci j (wd (yB Y a (zEo ci fs)) n s X) a v = some (wd (yB Y a (zEo ci fs')) n s X) := by
  rw [x_pt (wd_Bc hD) hz hj]
  have := wd_B (Y := yB Y a (zEo ci fs)) (n := n) (s := s) (X := X) (n' := n) (s' := s) (a := a) (e := zEo ci fs') hD
  rw [yB_B] at this
  exact congrArg some this
theorem b_gI {x : Int32} (hD : (Y.2.2.1 a).1 = 0) (hj : znth fs j = some (.int x)) : zgI ci j (wd (yB Y a (zEo ci fs)) n s X) a = some x := x_gI (wd_Bc hD) hj
theorem b_gR {x : Nat} (hD : (Y.2.2.1 a).1 = 0) (hj : znth fs j = some (.ref x)) : zgR ci j (wd (yB Y a (zEo ci fs)) n s X) a = some x := x_gR (wd_Bc hD) hj
theorem b_ck {o : zR} (hD : (Y.2.2.1 a).1 = 0) : zck ci (wd (yB Y a (zEo ci fs)) n s X) a o = o := x_ck (wd_Bc hD)
theorem b_new {m : Nat} (hD : (Y.2.2.1 n).1 = 0) : znew ci m fs (wd Y n s X) = wd (yB Y n (zEo ci fs)) (n + 1) (s + m) X := wd_B hD
end ZB
/-- the books -/
def wK (Y : zLy) (n : Nat) (S : Nat → Int → Prop) : Prop := wI Y ∧ wN Y n ∧ (∀ k i, k ≠ 0 → (wV Y k i ↔ S k i)) ∧ (∀ k i j, S k i → k < 15 → j < wnf k → (wis k).elem j = false → 20 * k + j ≠ 22 → (20 * k + j = 21 → Y.2.2.2.2 1 i ≠ 0) → S (wtg Y.2.2.2.2 k j i).1 (wtg Y.2.2.2.2 k j i).2) ∧ (∀ l j, S 16 l → 0 ≤ j → j < Y.2.2.2.2 0 l → S (wet Y.2.2.2.2 l j).1 (wet Y.2.2.2.2 l j).2)
theorem wK_S {Y : zLy} {n : Nat} {S S' : Nat → Int → Prop} (h : wK Y n S) (hS : ∀ k i, k ≠ 0 → (S k i ↔ S' k i)) : wK Y n S' := by
  obtain ⟨h1, h2, h3, h4, h5⟩ := h
  refine ⟨h1, h2, fun k i hk => (h3 k i hk).trans (hS k i hk), fun k i j hs hk hj q1 q2 q3 => ?_, fun l j hs q1 q2 => ?_⟩
  · have hk0 : k ≠ 0 := by
      rintro rfl
      exact absurd hj (Nat.not_lt_zero j)
    exact (hS _ _ wtg_0).mp (h4 k i j ((hS k i hk0).mpr hs) hk hj q1 q2 q3)
  · exact (hS _ _ wet_0).mp (h5 l j ((hS _ _ (by decide)).mpr hs) q1 q2)
theorem wK_n {Y : zLy} {n n' : Nat} {S : Nat → Int → Prop} (h : wK Y n S) (hn : n ≤ n') : wK Y n' S := by
  obtain ⟨h1, ⟨g1, g2, g3, g4⟩, h3⟩ := h
  exact ⟨h1, ⟨fun a ha => g1 a (Nat.le_trans hn ha), Nat.lt_of_lt_of_le g2 hn, g3, g4⟩, h3⟩
theorem wK_B {Y : zLy} {n n' a : Nat} {e : zE} {S : Nat → Int → Prop} (h : wK Y n S) (hn : n ≤ n') (ha : a ≠ Y.1) : wK (yB Y a e) n' S := by
  obtain ⟨h1, ⟨g1, g2, g3, g4⟩, h3⟩ := h
  exact ⟨h1, ⟨fun a ha => g1 a (Nat.le_trans hn ha), Nat.lt_of_lt_of_le g2 hn, g3, (if_neg (Ne.symm ha)).trans g4⟩, h3⟩
theorem wK_new {Y : zLy} {n s a k0 : Nat} {i0 : Int} {X X' : zX} {S : Nat → Int → Prop} (hK : wK Y n S) (ha : a < n) (hae : a ≠ Y.1) (hD : (Y.2.2.1 a).1 = 0) (h0 : k0 ≠ 0) (hS : ¬S k0 i0) (hX : ∀ k i j, S k i → (wis k).elem j = true → X' (wfx k j) i = X (wfx k j) i) (hX15 : ∀ q j, S 15 q → 0 ≤ q → X' (500 + q) j = X (500 + q) j) (hc1 : ∀ j, k0 < 15 → j < wnf k0 → (wis k0).elem j = false → 20 * k0 + j ≠ 22 → (20 * k0 + j = 21 → Y.2.2.2.2 1 i0 ≠ 0) → S (wtg Y.2.2.2.2 k0 j i0).1 (wtg Y.2.2.2.2 k0 j i0).2) (hc2 : k0 ≠ 16) (hb : Y.2.1 a = some (wc (yR Y a k0 i0) X' k0 i0)) : wd Y n s X = wd (yR Y a k0 i0) n s X' ∧ wK (yR Y a k0 i0) n (fun k i => S k i ∨ (k = k0 ∧ i = i0)) := by
  obtain ⟨hI, ⟨g1, g2, g3, g4⟩, h3, h4, h5⟩ := hK
  have hA : ∀ k i, ¬(k = k0 ∧ i = i0) → wA (yR Y a k0 i0) k i = wA Y k i := fun k i h => if_neg h
  have hAS : ∀ k i, S k i → wA (yR Y a k0 i0) k i = wA Y k i := fun k i h => hA k i (fun q => hS (q.1 ▸ q.2 ▸ h))
  have hDa : (yR Y a k0 i0).2.2.1 a = (k0, i0) := if_pos rfl
  have hDb : ∀ b, b ≠ a → (yR Y a k0 i0).2.2.1 b = Y.2.2.1 b := fun b h => if_neg h
  have hst : ∀ b, (Y.2.2.1 b).1 ≠ 0 → S (Y.2.2.1 b).1 (Y.2.2.1 b).2 := by
    intro b hb0
    rw [← h3 _ _ hb0]
    unfold wV
    rw [← hI b hb0]
  constructor
  · refine congrArg (fun M => ((n, s, M) : zW)) (funext fun b => ?_)
    show (wd Y n s X).2.2 b = (wd (yR Y a k0 i0) n s X').2.2 b
    by_cases q : b = a
    · subst q
      rw [wdx_0 hD, wdx_k hDa h0, hb]
    · by_cases hb0 : (Y.2.2.1 b).1 = 0
      · rw [wdx_0 hb0, wdx_0 (by rw [hDb b q]; exact hb0)]
        rfl
      · rw [wdx_k (show Y.2.2.1 b = ((Y.2.2.1 b).1, (Y.2.2.1 b).2) from rfl) hb0, wdx_k (show (yR Y a k0 i0).2.2.1 b = ((Y.2.2.1 b).1, (Y.2.2.1 b).2) from hDb b q) hb0]
        have hs := hst b hb0
        generalize (Y.2.2.1 b).1 = k at hs hb0
        generalize (Y.2.2.1 b).2 = i at hs
        refine congrArg some (wc_c (Y := Y) (Y' := yR Y a k0 i0) (fun j => hX k i j hs) (fun hk hi j => hX15 i j (hk ▸ hs) hi) rfl rfl ?_ ?_).symm
        · intro j q1 q2 q3 q4
          rw [wrf_t, wrf_t]
          show (if 20 * k + j = 21 ∧ Y.2.2.2.2 1 i = 0 then Y.1 else wA (yR Y a k0 i0) (wtg Y.2.2.2.2 k j i).1 (wtg Y.2.2.2.2 k j i).2) = _
          by_cases q5 : 20 * k + j = 21 ∧ Y.2.2.2.2 1 i = 0
          · rw [if_pos q5, if_pos q5]
          · rw [if_neg q5, if_neg q5]
            exact hAS _ _ (h4 k i j hs q1 q2 q3 q4 (fun u v => q5 ⟨u, v⟩))
        · intro hk j q1 q2
          subst hk
          rw [wel_t, wel_t]
          exact hAS _ _ (h5 i j hs q1 q2)
  · refine ⟨?_, ⟨fun b hb' => ?_, g2, ?_, g4⟩, fun k i hk => ?_, fun k i j hs q1 q2 q3 q4 q5 => ?_, fun l j hs q1 q2 => ?_⟩
    · intro b hb0
      by_cases q : b = a
      · subst q
        rw [hDa]
        exact (if_pos ⟨rfl, rfl⟩).symm
      · rw [hDb b q] at hb0 ⊢
        rw [hAS _ _ (hst b hb0)]
        exact hI b hb0
    · rw [hDb b (by omega)]
      exact g1 b hb'
    · show ((yR Y a k0 i0).2.2.1 Y.1).1 = 0
      rw [hDb _ (Ne.symm hae)]
      exact g3
    · by_cases q : k = k0 ∧ i = i0
      · obtain ⟨rfl, rfl⟩ := q
        refine ⟨fun _ => .inr ⟨rfl, rfl⟩, fun _ => ?_⟩
        unfold wV
        rw [show wA (yR Y a k i) k i = a from if_pos ⟨rfl, rfl⟩]
        exact hDa
      · unfold wV
        rw [hA k i q]
        by_cases q2 : wA Y k i = a
        · rw [q2, hDa]
          refine ⟨fun h => absurd ⟨(congrArg Prod.fst h).symm, (congrArg Prod.snd h).symm⟩ q, fun h => ?_⟩
          rcases h with h | h
          · rw [← h3 k i hk] at h
            unfold wV at h
            rw [q2] at h
            rw [h] at hD
            exact absurd hD hk
          · exact absurd h q
        · rw [hDb _ q2]
          exact ⟨fun h => .inl ((h3 k i hk).mp h), fun h => h.elim (fun h => (h3 k i hk).mpr h) (fun h => absurd h q)⟩
    · rcases hs with hs | ⟨rfl, rfl⟩
      · exact .inl (h4 k i j hs q1 q2 q3 q4 q5)
      · exact .inl (hc1 j q1 q2 q3 q4 q5)
    · rcases hs with hs | ⟨hs, -⟩
      · exact .inl (h5 l j hs q1 q2)
      · exact absurd hs.symm hc2
