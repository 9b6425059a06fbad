/-! THE TWO SIDES, 13: lists and new cells by their roles -/
abbrev zq (Y : zLy) (j : Nat) (i : Int) : Int := Y.2.2.2.2 j i
/-- fresh from n on; the empty row -/
def wN (Y : zLy) (n : Nat) : Prop := (∀ a, n ≤ a → (Y.2.2.1 a).1 = 0) ∧ Y.1 < n ∧ (Y.2.2.1 Y.1).1 = 0 ∧ Y.2.1 Y.1 = some (zEq 5 0 (fun _ => none))
def yQ (Y : zLy) (j : Nat) (i v : Int) : zLy := (Y.1, Y.2.1, Y.2.2.1, Y.2.2.2.1, fun a b => if a = j ∧ b = i then v else Y.2.2.2.2 a b)
theorem wc_1 {Y : zLy} {X : zX} {l : Int} : wc Y X 1 l = zEo 0 [.int (zJ (X 20 l)), .ref (if Y.2.2.2.2 1 l = 0 then Y.1 else wA Y 16 l), .int (zJ (Y.2.2.2.2 0 l))] := rfl
theorem wc_16 {Y : zLy} {X : zX} {l : Int} : wc Y X 16 l = zEq 3 (Y.2.2.2.2 1 l).toNat (fun j => if (j : Int) < Y.2.2.2.2 0 l then some (wel Y l j) else none) := rfl
theorem wd_x {Y : zLy} {n s : Nat} {X : zX} {b : Nat} : (wd Y n s X).2.2 b = bif Nat.beq (Y.2.2.1 b).1 0 then Y.2.1 b else some (wc Y X (Y.2.2.1 b).1 (Y.2.2.1 b).2) := rfl
theorem wdx_0 {Y : zLy} {n s : Nat} {X : zX} {b : Nat} (h : (Y.2.2.1 b).1 = 0) : (wd Y n s X).2.2 b = Y.2.1 b := by
  rw [wd_x, h]
  rfl
theorem wdx_k {Y : zLy} {n s : Nat} {X : zX} {b k : Nat} {i : Int} (h : Y.2.2.1 b = (k, i)) (hk : k ≠ 0) : (wd Y n s X).2.2 b = some (wc Y X k i) := by
  rw [wd_x, h]
  cases k with
  | zero => exact absurd rfl hk
  | succ k => rfl
/-- a change of a list's size, room and row leaves the other cells -/
theorem wc_l {Y Y' : zLy} {X : zX} {l : Int} {v : Int} (h1 : Y'.1 = Y.1) (hA : ∀ k i, ¬(k = 16 ∧ i = l) → wA Y' k i = wA Y k i) (hQ : ∀ j i, i ≠ l ∨ 2 ≤ j → Y'.2.2.2.2 j i = Y.2.2.2.2 j i) {k : Nat} {i : Int} (hk : ¬(k = 1 ∧ i = l)) (hk' : ¬(k = 16 ∧ i = l)) : wc Y' (wu X 20 l v) k i = wc Y X k i := by
  have hA' : ∀ k i, k ≠ 16 → wA Y' k i = wA Y k i := fun k i h => hA k i (fun q => h q.1)
  have hw : ∀ l' j, wel Y' l' j = wel Y l' j := by
    intro l' j
    unfold wel
    rw [hA' 3 j (by decide), hA' 4 j (by decide), hA' 12 j (by decide), hA' 9 j (by decide), hA' 2 j (by decide), hQ 4 _ (Or.inr (by decide)), hA' 3 _ (by decide), hA' 11 _ (by decide)]
  unfold wc
  cases a15 : Nat.beq k 15 with
  | true =>
    refine congrArg (zEi (wkd i) (wln i)) (funext fun x => ?_)
    by_cases q0 : 0 ≤ i
    · rw [if_pos q0, if_pos q0]
      exact congrArg zJ (if_neg (by omega))
    · rw [if_neg q0, if_neg q0]
  | false =>
    cases a16 : Nat.beq k 16 with
    | true =>
      have hki : i ≠ l := fun q => hk' ⟨Nat.eq_of_beq_eq_true a16, q⟩
      show zEq 3 (Y'.2.2.2.2 1 i).toNat (fun j => if (j : Int) < Y'.2.2.2.2 0 i then some (wel Y' i j) else none) = zEq 3 (Y.2.2.2.2 1 i).toNat (fun j => if (j : Int) < Y.2.2.2.2 0 i then some (wel Y i j) else none)
      rw [hQ 1 i (Or.inl hki), hQ 0 i (Or.inl hki)]
      refine congrArg (zEq 3 _) (funext fun x => ?_)
      rw [hw]
    | false =>
      refine congrArg (zEo (k - 1)) (List.map_congr_left (fun j hj => ?_))
      rw [List.mem_range] at hj
      have hk0 : k ≠ 0 := by
        rintro rfl
        exact absurd hj (Nat.not_lt_zero j)
      unfold wfv
      cases h6 : (wis k).elem j with
      | true =>
        have hl := wis_le h6
        refine congrArg (fun x => Value.int (zJ x)) (if_neg ?_)
        rintro ⟨q, q'⟩
        have : wfx k j = wfx 1 0 := by
          have e : (20 : Int) = ((wfx 1 0 : Nat) : Int) := rfl
          rw [e] at q
          exact_mod_cast q
        exact hk ⟨(wfx_inj h6 (by decide : (wis 1).elem 0 = true) this).1, q'⟩
      | false =>
        have hj45 : j < 46 := by
          have : ∀ k, wnf k ≤ 45 := by
            intro k
            unfold wnf
            repeat (first | omega | (cases Nat.beq k _ <;> simp only [cond_true, cond_false]))
          have := this k
          omega
        have hk1 : 20 * k + j = 22 ∨ 20 * k + j = 21 → i ≠ l := by
          intro q qi
          have hw1 : ∀ k, k < 2 → wnf k ≤ 3 := by decide
          have : k = 1 := by omega
          exact hk ⟨this, qi⟩
        have b1 : ∀ i, wA Y' 1 i = wA Y 1 i := fun i => hA' 1 i (by decide)
        have b4 : ∀ i, wA Y' 4 i = wA Y 4 i := fun i => hA' 4 i (by decide)
        have b5 : ∀ i, wA Y' 5 i = wA Y 5 i := fun i => hA' 5 i (by decide)
        have b6 : ∀ i, wA Y' 6 i = wA Y 6 i := fun i => hA' 6 i (by decide)
        have b7 : ∀ i, wA Y' 7 i = wA Y 7 i := fun i => hA' 7 i (by decide)
        have b8 : ∀ i, wA Y' 8 i = wA Y 8 i := fun i => hA' 8 i (by decide)
        have b10 : ∀ i, wA Y' 10 i = wA Y 10 i := fun i => hA' 10 i (by decide)
        have b15 : ∀ i, wA Y' 15 i = wA Y 15 i := fun i => hA' 15 i (by decide)
        have q2 := hQ 2 i (Or.inr (by decide))
        have q3 := hQ 3 i (Or.inr (by decide))
        have hr : wrf Y' k j i = wrf Y k j i := by
          unfold wrf
          simp only [b1, b4, b5, b6, b7, b8, b10, b15, q2, q3]
          cases h21 : Nat.beq (20 * k + j) 21 with
          | false => rfl
          | true =>
            have hil := hk1 (Or.inr (Nat.eq_of_beq_eq_true h21))
            simp only [cond_true]
            rw [hQ 1 i (Or.inl hil), h1, hA 16 i (fun q => hil q.2)]
        rw [hr]
        cases h22 : Nat.beq (20 * k + j) 22 with
        | false => rfl
        | true =>
          have hil := hk1 (Or.inl (Nat.eq_of_beq_eq_true h22))
          rw [hQ 0 i (Or.inl hil)]
          rfl
/-- the layout behind a list's add: room was left, or a new row stands at n -/
def yA0 (Y : zLy) (l : Int) : zLy := (Y.1, Y.2.1, Y.2.2.1, Y.2.2.2.1, fun a b => if a = 0 ∧ b = l then Y.2.2.2.2 0 l + 1 else Y.2.2.2.2 a b)
def yA1 (Y : zLy) (X : zX) (n : Nat) (l m : Int) : zLy := (Y.1, (fun a => if 0 < Y.2.2.2.2 1 l ∧ a = wA Y 16 l then some (wc Y X 16 l) else Y.2.1 a), (fun a => if a = n then (16, l) else if 0 < Y.2.2.2.2 1 l ∧ a = wA Y 16 l then (0, 0) else Y.2.2.1 a), (fun k i => if k = 16 ∧ i = l then n else Y.2.2.2.1 k i), fun a b => if b = l ∧ a = 0 then Y.2.2.2.2 0 l + 1 else if b = l ∧ a = 1 then m else Y.2.2.2.2 a b)
theorem yA0_q {Y : zLy} {l : Int} (a : Nat) (b : Int) : (yA0 Y l).2.2.2.2 a b = if a = 0 ∧ b = l then Y.2.2.2.2 0 l + 1 else Y.2.2.2.2 a b := rfl
section ZL
variable {Y : zLy} {n s : Nat} {X : zX} {G : Nat × Nat} {l : Int}
theorem wl_io {k : Nat} {i : Int} (h : wV Y k i) (hk : 1 ≤ k ∧ k ≤ 14) : zio (wd Y n s X) (wA Y k i) = true := wd_io h (Nat.ble_eq_true_of_le (by omega)) (Nat.ble_eq_true_of_le (by omega))
theorem wA_lt {k : Nat} {i : Int} (hN : wN Y n) (h : wV Y k i) (hk : k ≠ 0) : wA Y k i < n := by
  rcases Nat.lt_or_ge (wA Y k i) n with q | q
  · exact q
  · have := hN.1 _ q
    unfold wV at h
    rw [h] at this
    exact absurd this hk
theorem c_add0 {e : Nat} (hl : wLs Y l) (hI : wI Y) (he : e = wel Y l (Y.2.2.2.2 0 l)) (hio : zio (wd Y n s X) e = true) (hs : Y.2.2.2.2 0 l < Y.2.2.2.2 1 l) : ev_ G 27 0 [.ref (wA Y 1 l), .ref e] [] (wd Y n s X) = some (.inl (some (.int 1)), wd (yA0 Y l) n s (wu X 20 l (X 20 l + 1))) := by
  obtain ⟨h1, h2, h3, h4, h5⟩ := hl
  have h16 := h5 (by omega)
  have ha := wd_at (n := n) (s := s) (X := X) h1 (by decide)
  rw [wc_1, if_neg (by omega)] at ha
  have hd := wd_at (n := n) (s := s) (X := X) h16 (by decide)
  rw [wc_16] at hd
  rw [x_add0 ha hd hio h2 (by omega) (by omega)]
  have hne : wA Y 1 l ≠ wA Y 16 l := by
    intro q
    unfold wV at h1 h16
    rw [q, h16] at h1
    exact absurd (congrArg Prod.fst h1) (show ¬(16 : Nat) = 1 by decide)
  refine congrArg (fun w => some (Sum.inl (some (Value.int 1)), w)) ?_
  show ((n, s, _) : zW) = (n, s, _)
  refine congrArg (fun M => ((n, s, M) : zW)) (funext fun b => ?_)
  have hA : ∀ k i, wA (yA0 Y l) k i = wA Y k i := fun k i => rfl
  have hW : ∀ l' j, wel (yA0 Y l) l' j = wel Y l' j := by
    intro l' j
    unfold wel
    rfl
  show zup (zup (wd Y n s X).2.2 (wA Y 16 l) _) (wA Y 1 l) _ b = (wd (yA0 Y l) n s (wu X 20 l (X 20 l + 1))).2.2 b
  by_cases b1 : b = wA Y 1 l
  · subst b1
    rw [up_s, wdx_k (show (yA0 Y l).2.2.1 (wA Y 1 l) = (1, l) from h1) (by decide), wc_1]
    have e1 : (yA0 Y l).2.2.2.2 1 l = Y.2.2.2.2 1 l := by rw [yA0_q, if_neg (fun q => absurd q.1 (by decide))]
    have e0 : (yA0 Y l).2.2.2.2 0 l = Y.2.2.2.2 0 l + 1 := by rw [yA0_q, if_pos ⟨rfl, rfl⟩]
    rw [e1, e0, if_neg (by omega), hA, l_1, zJ_add]
    have : wu X 20 l (X 20 l + 1) 20 l = X 20 l + 1 := if_pos ⟨rfl, rfl⟩
    rw [this]
  · rw [up_n b1]
    by_cases b2 : b = wA Y 16 l
    · subst b2
      rw [up_s, wdx_k (show (yA0 Y l).2.2.1 (wA Y 16 l) = (16, l) from h16) (by decide), wc_16]
      have e1 : (yA0 Y l).2.2.2.2 1 l = Y.2.2.2.2 1 l := by rw [yA0_q, if_neg (fun q => absurd q.1 (by decide))]
      have e0 : (yA0 Y l).2.2.2.2 0 l = Y.2.2.2.2 0 l + 1 := by rw [yA0_q, if_pos ⟨rfl, rfl⟩]
      rw [e1, e0]
      refine congrArg some (congrArg (zEq 3 _) (funext fun j => ?_))
      unfold va_up
      rw [hW]
      by_cases q : j = (Y.2.2.2.2 0 l).toNat
      · rw [if_pos q, if_pos (by omega), he]
        congr 2
        omega
      · rw [if_neg q]
        dsimp only
        by_cases q2 : (j : Int) < Y.2.2.2.2 0 l
        · rw [if_pos q2, if_pos (by omega)]
        · rw [if_neg q2, if_neg (by omega)]
    · rw [up_n b2]
      cases h0 : Nat.beq (Y.2.2.1 b).1 0 with
      | true =>
        have h0 := Nat.eq_of_beq_eq_true h0
        rw [wdx_0 h0, wdx_0 (show ((yA0 Y l).2.2.1 b).1 = 0 from h0)]
        rfl
      | false =>
        have h0 : (Y.2.2.1 b).1 ≠ 0 := Nat.ne_of_beq_eq_false h0
        have hb := hI b h0
        rw [wdx_k (show Y.2.2.1 b = ((Y.2.2.1 b).1, (Y.2.2.1 b).2) from rfl) h0, wdx_k (show (yA0 Y l).2.2.1 b = ((Y.2.2.1 b).1, (Y.2.2.1 b).2) from rfl) h0]
        refine congrArg some (wc_l (Y := Y) (Y' := yA0 Y l) (l := l) (X := X) rfl (fun k i _ => rfl) (fun j i h => by rw [yA0_q, if_neg (by omega)]) ?_ ?_).symm
        · rintro ⟨q1, q2⟩
          rw [q1, q2] at hb
          exact b1 hb
        · rintro ⟨q1, q2⟩
          rw [q1, q2] at hb
          exact b2 hb
theorem yA1_q {m : Int} (a : Nat) (b : Int) : (yA1 Y X n l m).2.2.2.2 a b = if b = l ∧ a = 0 then Y.2.2.2.2 0 l + 1 else if b = l ∧ a = 1 then m else Y.2.2.2.2 a b := rfl
theorem yA1_A {m : Int} (k : Nat) (i : Int) : wA (yA1 Y X n l m) k i = if k = 16 ∧ i = l then n else wA Y k i := rfl
theorem yA1_D {m : Int} (a : Nat) : (yA1 Y X n l m).2.2.1 a = if a = n then (16, l) else if 0 < Y.2.2.2.2 1 l ∧ a = wA Y 16 l then (0, 0) else Y.2.2.1 a := rfl
theorem yA1_B {m : Int} (a : Nat) : (yA1 Y X n l m).2.1 a = if 0 < Y.2.2.2.2 1 l ∧ a = wA Y 16 l then some (wc Y X 16 l) else Y.2.1 a := rfl
theorem c_add1 {e : Nat} (hl : wLs Y l) (hI : wI Y) (hN : wN Y n) (hG : Y.1 = G.1) (he : e = wel Y l (Y.2.2.2.2 0 l)) (hen : e < n) (hio : ∀ j, 0 ≤ j → j < Y.2.2.2.2 0 l → zio (wd Y n s X) (wel Y l j) = true ∧ wel Y l j < n) (hie : zio (wd Y n s X) e = true) (hs : Y.2.2.2.2 0 l = Y.2.2.2.2 1 l) (hm : Y.2.2.2.2 1 l ≤ 400) (hv : Y.2.2.2.2 1 l = 0 → ¬wV Y 16 l) : ∃ m : Nat, (m : Int) ≤ Y.2.2.2.2 0 l + 10 + Y.2.2.2.2 0 l ∧ Y.2.2.2.2 0 l < m ∧ ev_ G 27 0 [.ref (wA Y 1 l), .ref e] [] (wd Y n s X) = some (.inl (some (.int 1)), wd (yA1 Y X n l m) (n + 1) (s + m) (wu X 20 l (X 20 l + 1))) := by
  obtain ⟨h1, h2, h3, h4, h5⟩ := hl
  have ha := wd_at (n := n) (s := s) (X := X) h1 (by decide)
  rw [wc_1] at ha
  have hlt := wA_lt hN h1 (by decide)
  have hd : ∃ k f, (wd Y n s X).2.2 (if Y.2.2.2.2 1 l = 0 then Y.1 else wA Y 16 l) = some (zEq k (Y.2.2.2.2 1 l).toNat f) ∧ (((Y.2.2.2.2 1 l).toNat = 0 ∧ (if Y.2.2.2.2 1 l = 0 then Y.1 else wA Y 16 l) = G.1 ∧ Y.2.2.2.2 0 l = 0) ∨ (0 < (Y.2.2.2.2 1 l).toNat ∧ k = 3)) ∧ (if Y.2.2.2.2 1 l = 0 then Y.1 else wA Y 16 l) ≠ n ∧ ∀ j : Nat, j < (Y.2.2.2.2 1 l).toNat → f j = some (wel Y l j) := by
    by_cases q : Y.2.2.2.2 1 l = 0
    · rw [if_pos q, wdx_0 hN.2.2.1, hN.2.2.2, q]
      exact ⟨5, _, rfl, Or.inl ⟨rfl, hG, by omega⟩, Nat.ne_of_lt hN.2.1, fun j hj => absurd hj (Nat.not_lt_zero j)⟩
    · have h16 := h5 (by omega)
      have hd := wd_at (n := n) (s := s) (X := X) h16 (by decide)
      rw [wc_16] at hd
      rw [if_neg q]
      exact ⟨3, _, hd, Or.inr ⟨by omega, rfl⟩, Nat.ne_of_lt (wA_lt hN h16 (by decide)), fun j hj => if_pos (by omega)⟩
  obtain ⟨k, f, hd, hk, hdn, hf⟩ := hd
  have hx := x_add1 (G := G) (W := wd Y n s X) (sz := Y.2.2.2.2 0 l) ha hd hk hie (Nat.ne_of_lt hen) (Nat.ne_of_lt hlt) hdn (by omega) (by omega) (fun j y hj hy => by
    rw [hf j hj] at hy
    have := Option.some.inj hy
    subst this
    have hj' := hio j (by omega) (by omega)
    exact ⟨Nat.ne_of_lt hj'.2, hj'.1⟩)
  refine ⟨if (Y.2.2.2.2 1 l).toNat = 0 then 10 else (Y.2.2.2.2 1 l).toNat + max 1 ((Y.2.2.2.2 1 l).toNat / 2), ?_, ?_, ?_⟩
  · split <;> omega
  · split <;> omega
  rw [hx]
  generalize hmm : (if (Y.2.2.2.2 1 l).toNat = 0 then 10 else (Y.2.2.2.2 1 l).toNat + max 1 ((Y.2.2.2.2 1 l).toNat / 2)) = m
  have hm0 : 0 < m := by
    rw [← hmm]
    split <;> omega
  refine congrArg (fun w => some (Sum.inl (some (Value.int 1)), w)) ?_
  show ((n + 1, s + m, _) : zW) = (n + 1, s + m, _)
  refine congrArg (fun M => ((n + 1, s + m, M) : zW)) (funext fun b => ?_)
  have hW : ∀ l' j, wel (yA1 Y X n l m) l' j = wel Y l' j := by
    intro l' j
    have a0 : ∀ k i, k ≠ 16 → wA (yA1 Y X n l m) k i = wA Y k i := fun k i h => by rw [yA1_A, if_neg (fun q => h q.1)]
    have q4 : ∀ x, (yA1 Y X n l m).2.2.2.2 4 x = Y.2.2.2.2 4 x := fun x => by rw [yA1_q, if_neg (fun q => absurd q.2 (by decide)), if_neg (fun q => absurd q.2 (by decide))]
    unfold wel
    rw [a0 3 j (by decide), a0 4 j (by decide), a0 12 j (by decide), a0 9 j (by decide), a0 2 j (by decide), q4, a0 3 _ (by decide), a0 11 _ (by decide)]
  have e0 : (yA1 Y X n l m).2.2.2.2 0 l = Y.2.2.2.2 0 l + 1 := by rw [yA1_q, if_pos ⟨rfl, rfl⟩]
  have e1 : (yA1 Y X n l m).2.2.2.2 1 l = m := by rw [yA1_q, if_neg (fun q => absurd q.2 (by decide)), if_pos ⟨rfl, rfl⟩]
  have ne1 : 0 < Y.2.2.2.2 1 l → wA Y 1 l ≠ wA Y 16 l := by
    intro q q2
    have h16 := h5 q
    unfold wV at h1 h16
    rw [q2, h16] at h1
    exact absurd (congrArg Prod.fst h1) (show ¬(16 : Nat) = 1 by decide)
  show zup (zup (wd Y n s X).2.2 n _) (wA Y 1 l) _ b = (wd (yA1 Y X n l m) (n + 1) (s + m) (wu X 20 l (X 20 l + 1))).2.2 b
  by_cases b1 : b = wA Y 1 l
  · subst b1
    have hD : (yA1 Y X n l m).2.2.1 (wA Y 1 l) = (1, l) := by
      rw [yA1_D, if_neg (Nat.ne_of_lt hlt), if_neg (fun q => ne1 q.1 q.2)]
      exact h1
    rw [up_s, wdx_k hD (by decide), wc_1, e1, e0, if_neg (by omega), yA1_A, if_pos ⟨rfl, rfl⟩, l_1, zJ_add]
    have : wu X 20 l (X 20 l + 1) 20 l = X 20 l + 1 := if_pos ⟨rfl, rfl⟩
    rw [this]
    rfl
  · rw [up_n b1]
    by_cases b2 : b = n
    · subst b2
      have hD : (yA1 Y X b l m).2.2.1 b = (16, l) := by rw [yA1_D, if_pos rfl]
      rw [up_s, wdx_k hD (by decide), wc_16, e1, e0]
      refine congrArg some (congrArg (zEq 3 m) (funext fun j => ?_))
      unfold va_up
      rw [hW]
      by_cases q : j = (Y.2.2.2.2 1 l).toNat
      · rw [if_pos q, if_pos (by omega), he]
        congr 2
        omega
      · rw [if_neg q]
        dsimp only
        by_cases q2 : j < (Y.2.2.2.2 1 l).toNat
        · rw [if_pos q2, if_pos (by omega), hf j q2]
        · rw [if_neg q2, if_neg (by omega)]
    · rw [up_n b2]
      by_cases b3 : 0 < Y.2.2.2.2 1 l ∧ b = wA Y 16 l
      · have hD : ((yA1 Y X n l m).2.2.1 b).1 = 0 := by rw [yA1_D, if_neg b2, if_pos b3]
        rw [wdx_0 hD, yA1_B, if_pos b3, b3.2, wd_at (h5 b3.1) (by decide)]
      · have hD : (yA1 Y X n l m).2.2.1 b = Y.2.2.1 b := by rw [yA1_D, if_neg b2, if_neg b3]
        cases h0 : Nat.beq (Y.2.2.1 b).1 0 with
        | true =>
          have h0 := Nat.eq_of_beq_eq_true h0
          rw [wdx_0 h0, wdx_0 (by rw [hD]; exact h0), yA1_B, if_neg b3]
        | false =>
          have h0 : (Y.2.2.1 b).1 ≠ 0 := Nat.ne_of_beq_eq_false h0
          have hb := hI b h0
          rw [wdx_k (show Y.2.2.1 b = ((Y.2.2.1 b).1, (Y.2.2.1 b).2) from rfl) h0, wdx_k (show (yA1 Y X n l m).2.2.1 b = ((Y.2.2.1 b).1, (Y.2.2.1 b).2) from hD) h0]
          refine congrArg some (wc_l (Y := Y) (Y' := yA1 Y X n l m) (l := l) (X := X) rfl (fun k i h => by rw [yA1_A, if_neg h]) (fun j i h => by rw [yA1_q, if_neg (by omega), if_neg (by omega)]) ?_ ?_).symm
          · rintro ⟨q1, q2⟩
            rw [q1, q2] at hb
            exact b1 hb
          · rintro ⟨q1, q2⟩
            rw [q1, q2] at hb
            by_cases q3 : 0 < Y.2.2.2.2 1 l
            · exact b3 ⟨q3, hb⟩
            · refine hv (by omega) ?_
              unfold wV
              rw [← hb, ← q1, ← q2]
end ZL
