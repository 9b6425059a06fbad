/-! THE TWO SIDES, 1: numbers; the cells by what they are. A cell has a role: its kind (the class's number and one more; 15 rows of numbers, 16 rows of references) and its number among its kind. -/
def zJ (x : Int) : Int32 := Int32.ofInt x
abbrev zX : Type := Int → Int → Int
abbrev zQs : Type := Nat → Int → Int
/-- the empty row's address; the cells without a role; roles of addresses; addresses of roles; sizes and the like -/
abbrev zLy : Type := Nat × (Nat → Option zE) × (Nat → Nat × Int) × (Nat → Int → Nat) × zQs
def wA (Y : zLy) (k : Nat) (i : Int) : Nat := Y.2.2.2.1 k i
def wV (Y : zLy) (k : Nat) (i : Int) : Prop := Y.2.2.1 (wA Y k i) = (k, i)
def wI (Y : zLy) : Prop := ∀ a, (Y.2.2.1 a).1 ≠ 0 → a = wA Y (Y.2.2.1 a).1 (Y.2.2.1 a).2
def wu (X : zX) (f i v : Int) : zX := fun g j => if g = f ∧ j = i then v else X g j
def wfx (k j : Nat) : Nat := bif Nat.beq k 14 then 400 + j else 20 * k + j
def wnf (k : Nat) : Nat := bif Nat.beq k 1 then 3 else bif Nat.beq k 2 then 5 else bif Nat.beq k 3 then 5 else bif Nat.beq k 4 then 5 else bif Nat.beq k 5 then 4 else bif Nat.beq k 6 then 4 else bif Nat.beq k 7 then 5 else bif Nat.beq k 8 then 3 else bif Nat.beq k 9 then 5 else bif Nat.beq k 10 then 1 else bif Nat.beq k 11 then 8 else bif Nat.beq k 12 then 8 else bif Nat.beq k 13 then 8 else 0
def wis (k : Nat) : List Nat := bif Nat.beq k 1 then [0] else bif Nat.beq k 2 then [0, 1, 2] else bif Nat.beq k 3 then [0, 1, 2, 3, 4] else bif Nat.beq k 4 then [0, 1, 2, 3, 4] else bif Nat.beq k 5 then [0, 1, 3] else bif Nat.beq k 6 then [] else bif Nat.beq k 7 then [4] else bif Nat.beq k 8 then [] else bif Nat.beq k 9 then [0, 1, 2, 3, 4] else bif Nat.beq k 10 then [] else bif Nat.beq k 11 then [0, 1, 2, 3, 4, 5, 6, 7] else bif Nat.beq k 12 then [1, 3, 4, 5, 6] else bif Nat.beq k 13 then [6, 7] else []
def wrf (Y : zLy) (k j : Nat) (i : Int) : Nat := bif Nat.beq (20 * k + j) 21 then (if Y.2.2.2.2 1 i = 0 then Y.1 else wA Y 16 i) else bif Nat.beq (20 * k + j) 43 then (wA Y 1 (29 + i)) else bif Nat.beq (20 * k + j) 44 then (wA Y 10 (9 + i)) else bif Nat.beq (20 * k + j) 102 then (wA Y 10 5) else bif Nat.beq (20 * k + j) 120 then (wA Y 1 0) else bif Nat.beq (20 * k + j) 121 then (wA Y 1 1) else bif Nat.beq (20 * k + j) 122 then (wA Y 1 2) else bif Nat.beq (20 * k + j) 123 then (wA Y 10 0) else bif Nat.beq (20 * k + j) 140 then (wA Y 10 1) else bif Nat.beq (20 * k + j) 141 then (wA Y 10 2) else bif Nat.beq (20 * k + j) 142 then (wA Y 10 3) else bif Nat.beq (20 * k + j) 143 then (wA Y 10 4) else bif Nat.beq (20 * k + j) 160 then (wA Y 10 6) else bif Nat.beq (20 * k + j) 161 then (wA Y 10 7) else bif Nat.beq (20 * k + j) 162 then (wA Y 10 8) else bif Nat.beq (20 * k + j) 200 then (wA Y 15 i) else bif Nat.beq (20 * k + j) 240 then (wA Y 4 (Y.2.2.2.2 2 i)) else bif Nat.beq (20 * k + j) 242 then (wA Y 4 (Y.2.2.2.2 3 i)) else bif Nat.beq (20 * k + j) 247 then (wA Y 1 (5 + i)) else bif Nat.beq (20 * k + j) 260 then (wA Y 6 0) else bif Nat.beq (20 * k + j) 261 then (wA Y 7 0) else bif Nat.beq (20 * k + j) 262 then (wA Y 5 0) else bif Nat.beq (20 * k + j) 263 then (wA Y 8 0) else bif Nat.beq (20 * k + j) 264 then (wA Y 1 3) else bif Nat.beq (20 * k + j) 265 then (wA Y 1 4) else wA Y 15 (500 + j)
def wln (q : Int) : Nat := Nat.min (if 1000 ≤ q then (if q % 4 = 3 then 8 else 9) else if q = 0 then 8 else if q = 1 then 5 else if q = 2 then 5 else if q = 3 then 32 else if q = 4 then 32 else if q = 5 then 8 else if q = 6 then 4 else if q = 7 then 6 else if q = 8 then 6 else if q = 600 then 16 else if q = 601 then 17 else if q = 602 then 8 else if q = 603 then 25 else if q = 604 then 48 else if q = 605 then 12 else if q = 606 then 12 else if q = 607 then 13 else if q = 608 then 19 else if q = 609 then 32 else if q = 610 then 32 else if q = 611 then 5 else if q = 612 then 8 else if q = 613 then 8 else 4) 400
def wkd (q : Int) : Nat := 0
def wel (Y : zLy) (l i : Int) : Nat := if l = 0 then wA Y 3 i else if l = 1 then wA Y 4 i else if l = 2 then wA Y 12 i else if l = 3 then wA Y 9 i else if l = 4 then wA Y 2 i else if l < 29 then wA Y 3 (Y.2.2.2.2 4 (16 * (l - 5) + i)) else wA Y 11 (8 * (l - 29) + i)
def wfv (Y : zLy) (X : zX) (k : Nat) (i : Int) (j : Nat) : Value := bif (wis k).elem j then .int (zJ (X (wfx k j) i)) else bif Nat.beq (20 * k + j) 22 then .int (zJ (Y.2.2.2.2 0 i)) else .ref (wrf Y k j i)
def wc (Y : zLy) (X : zX) (k : Nat) (i : Int) : zE :=
  bif Nat.beq k 15 then zEi (wkd i) (wln i) (fun j => if 0 ≤ i then zJ (X (500 + i) j) else 0)
  else bif Nat.beq k 16 then zEq 3 (Y.2.2.2.2 1 i).toNat (fun j => if (j : Int) < Y.2.2.2.2 0 i then some (wel Y i j) else none)
  else zEo (k - 1) ((List.range (wnf k)).map (wfv Y X k i))
def wd (Y : zLy) (n s : Nat) (X : zX) : zW := (n, s, fun a => bif Nat.beq (Y.2.2.1 a).1 0 then Y.2.1 a else some (wc Y X (Y.2.2.1 a).1 (Y.2.2.1 a).2))
theorem zJ_toInt {a : Int} (h : -2147483648 ≤ a) (g : a < 2147483648) : (zJ a).toInt = a := Int32.toInt_ofInt_of_le h g
theorem zJ_of (x : Int32) : x = zJ x.toInt := (Int32.ofInt_toInt x).symm
theorem zJ_add (a b : Int) : zJ a + zJ b = zJ (a + b) := (Int32.ofInt_add a b).symm
theorem zJ_sub (a b : Int) : zJ a - zJ b = zJ (a - b) := (Int32.ofInt_sub a b).symm
theorem zJ_mul (a b : Int) : zJ a * zJ b = zJ (a * b) := (Int32.ofInt_mul a b).symm
theorem zJ_neg (a : Int) : -zJ a = zJ (-a) := (Int32.ofInt_neg a).symm
theorem zJ_lt {a b : Int} (ha : -2147483648 ≤ a) (ha' : a < 2147483648) (hb : -2147483648 ≤ b) (hb' : b < 2147483648) : (zJ a < zJ b) = (a < b) := by
  rw [Int32.lt_iff_toInt_lt, zJ_toInt ha ha', zJ_toInt hb hb']
theorem zJ_le {a b : Int} (ha : -2147483648 ≤ a) (ha' : a < 2147483648) (hb : -2147483648 ≤ b) (hb' : b < 2147483648) : (zJ a ≤ zJ b) = (a ≤ b) := by
  rw [Int32.le_iff_toInt_le, zJ_toInt ha ha', zJ_toInt hb hb']
theorem zJ_eq {a b : Int} (ha : -2147483648 ≤ a) (ha' : a < 2147483648) (hb : -2147483648 ≤ b) (hb' : b < 2147483648) : (zJ a = zJ b) = (a = b) := by
  refine propext ⟨fun h => ?_, fun h => h ▸ rfl⟩
  have := congrArg Int32.toInt h
  rwa [zJ_toInt ha ha', zJ_toInt hb hb'] at this
theorem zJ_ofNat (n : Nat) : Int32.ofNat n = zJ n := by
  unfold zJ
  exact (Int32.ofInt_eq_ofNat).symm
theorem zJ_clamp {a : Int} (h : 0 ≤ a) (g : a < 2147483648) : (zJ a).toNatClampNeg = a.toNat := by
  show (zJ a).toInt.toNat = _
  rw [zJ_toInt (by omega) g]
theorem zoff_not {i : Int} {n : Nat} (hi : 0 ≤ i) (hl : i < n) (hn : n ≤ 2000) : ¬ zoff (zJ i) n := by
  rintro (hh | hh)
  · rw [show (0 : Int32) = zJ 0 from rfl, zJ_lt (by omega) (by omega) (by omega) (by omega)] at hh; omega
  · rw [zJ_clamp hi (by omega)] at hh; omega
theorem wln_le (q : Int) : wln q ≤ 400 := by
  unfold wln
  exact Nat.min_le_right _ _
theorem znth_get : ∀ (l : List Value) (j : Nat), znth l j = l[j]? := by
  intro l
  induction l with
  | nil => intro j; rfl
  | cons v l ih => intro j; cases j with
    | zero => rfl
    | succ j => exact ih j
theorem zset_set : ∀ (l : List Value) (j : Nat) (v : Value), zset l j v = l.set j v := by
  intro l
  induction l with
  | nil => intro j v; rfl
  | cons w l ih => intro j v; cases j with
    | zero => rfl
    | succ j => exact congrArg (w :: ·) (ih j v)
theorem znth_map {g : Nat → Value} {m j : Nat} (h : j < m) : znth ((List.range m).map g) j = some (g j) := by
  rw [znth_get, List.getElem?_map, List.getElem?_range h]
  rfl
theorem zset_map {g g' : Nat → Value} {m j : Nat} {v : Value} (h : ∀ i, i < m → g' i = if i = j then v else g i) : zset ((List.range m).map g) j v = (List.range m).map g' := by
  rw [zset_set]
  apply List.ext_getElem?
  intro i
  rw [List.getElem?_set, List.getElem?_map, List.getElem?_map, List.length_map, List.length_range]
  by_cases hi : i < m
  · rw [List.getElem?_range hi]
    show _ = some (g' i)
    rw [h i hi]
    by_cases hj : j = i
    · subst hj
      rw [if_pos rfl, if_pos hi, if_pos rfl]
    · rw [if_neg hj, if_neg (Ne.symm hj)]
      rfl
  · have : (List.range m)[i]? = none := by rw [List.getElem?_eq_none]; rw [List.length_range]; omega
    rw [this]
    by_cases hj : j = i
    · subst hj
      rw [if_pos rfl, if_neg hi]; rfl
    · rw [if_neg hj]; rfl
section ZC
variable {Y : zLy} {n s : Nat} {X : zX} {i : Int} {k j ci f : Nat}
theorem wd_at (h : wV Y k i) (hk : k ≠ 0) : (wd Y n s X).2.2 (wA Y k i) = some (wc Y X k i) := by
  unfold wV at h
  show (bif Nat.beq (Y.2.2.1 (wA Y k i)).1 0 then _ else _) = _
  rw [h]
  cases k with
  | zero => exact absurd rfl hk
  | succ k => rfl
theorem wd_up {X' : zX} {e : zE} (h : wV Y k i) (hk : k ≠ 0) (hI : wI Y) (he : wc Y X' k i = e) (ho : ∀ k' i', ¬(k' = k ∧ i' = i) → wc Y X' k' i' = wc Y X k' i') : ((n, s, zup (wd Y n s X).2.2 (wA Y k i) e) : zW) = wd Y n s X' := by
  have : zup (wd Y n s X).2.2 (wA Y k i) e = (wd Y n s X').2.2 := by
    funext b
    unfold zup
    by_cases hb : b = wA Y k i
    · rw [if_pos hb, hb, wd_at h hk, he]
    · rw [if_neg hb]
      show (bif Nat.beq (Y.2.2.1 b).1 0 then _ else some (wc Y X _ _)) = (bif Nat.beq (Y.2.2.1 b).1 0 then _ else some (wc Y X' _ _))
      cases h0 : Nat.beq (Y.2.2.1 b).1 0 with
      | true => rfl
      | false =>
        show some _ = some _
        rw [ho]
        rintro ⟨hk', hi'⟩
        have := hI b (fun q => by rw [q] at h0; exact absurd h0 (by decide))
        rw [hk', hi'] at this
        exact hb this
  rw [this]
  rfl
/-- whether a field of a kind holds a number -/
def wok (k ci j f : Nat) : Bool := Nat.blt k 15 && Nat.beq k (ci + 1) && Nat.blt j (wnf k) && (wis k).elem j && Nat.beq f (wfx k j)
def wokR (k ci j : Nat) : Bool := Nat.blt k 15 && Nat.beq k (ci + 1) && Nat.blt j (wnf k) && !(wis k).elem j && !Nat.beq (20 * k + j) 22
theorem wis_le {k j : Nat} (h : (wis k).elem j = true) : k < 15 ∧ j < 45 ∧ (k < 14 → j < 20) := by
  have hm : j ∈ wis k := List.elem_iff.mp h
  have key : ∀ k, k < 15 → ∀ j ∈ wis k, j < 45 ∧ (k < 14 → j < 20) := by decide
  by_cases hk : k < 15
  · exact ⟨hk, key k hk j hm⟩
  · obtain ⟨m, rfl⟩ := Nat.exists_eq_add_of_le' (Nat.le_of_not_lt hk)
    rw [show wis (m + 15) = [] from rfl] at hm
    exact absurd hm List.not_mem_nil
theorem wfx_inj {k j k' j' : Nat} (h : (wis k).elem j = true) (h' : (wis k').elem j' = true) (g : wfx k j = wfx k' j') : k = k' ∧ j = j' := by
  have h1 := wis_le h
  have h2 := wis_le h'
  unfold wfx at g
  cases a : Nat.beq k 14 with
  | true =>
    have := Nat.eq_of_beq_eq_true a
    rw [a] at g
    cases b : Nat.beq k' 14 with
    | true => have := Nat.eq_of_beq_eq_true b; rw [b] at g; simp only [cond_true] at g; omega
    | false => have : k' ≠ 14 := Nat.ne_of_beq_eq_false b; rw [b] at g; simp only [cond_true, cond_false] at g; omega
  | false =>
    have : k ≠ 14 := Nat.ne_of_beq_eq_false a
    rw [a] at g
    cases b : Nat.beq k' 14 with
    | true => have := Nat.eq_of_beq_eq_true b; rw [b] at g; simp only [cond_true, cond_false] at g; omega
    | false => have : k' ≠ 14 := Nat.ne_of_beq_eq_false b; rw [b] at g; simp only [cond_false] at g; omega
theorem wfx_lt {k j : Nat} (h : (wis k).elem j = true) : wfx k j < 500 := by
  have h1 := wis_le h
  unfold wfx
  cases a : Nat.beq k 14 with
  | true => simp only [cond_true]; omega
  | false => have : k ≠ 14 := Nat.ne_of_beq_eq_false a; simp only [cond_false]; omega
theorem wd_ob (h : wV Y k i) (hk : Nat.blt k 15 = true) (hc : Nat.beq k (ci + 1) = true) : zob ci (wd Y n s X) (wA Y k i) = some ((List.range (wnf k)).map (wfv Y X k i)) := by
  have hk := Nat.le_of_ble_eq_true hk
  have hc := Nat.eq_of_beq_eq_true hc
  unfold zob
  rw [wd_at h (by omega)]
  unfold wc
  rw [show Nat.beq k 15 = false from Bool.eq_false_iff.mpr (fun q => by have := Nat.eq_of_beq_eq_true q; omega), show Nat.beq k 16 = false from Bool.eq_false_iff.mpr (fun q => by have := Nat.eq_of_beq_eq_true q; omega)]
  show (if k - 1 = ci then _ else _) = _
  rw [if_pos (by omega)]
theorem wd_ck {o : zR} (h : wV Y k i) (hk : Nat.blt k 15 = true) (hc : Nat.beq k (ci + 1) = true) : zck ci (wd Y n s X) (wA Y k i) o = o := by
  unfold zck
  rw [wd_ob h hk hc]
theorem wd_io (h : wV Y k i) (hk : Nat.blt k 15 = true) (h0 : Nat.blt 0 k = true) : zio (wd Y n s X) (wA Y k i) = true := by
  have hk := Nat.le_of_ble_eq_true hk
  have h0 := Nat.le_of_ble_eq_true h0
  unfold zio
  rw [wd_at h (by omega)]
  unfold wc
  rw [show Nat.beq k 15 = false from Bool.eq_false_iff.mpr (fun q => by have := Nat.eq_of_beq_eq_true q; omega), show Nat.beq k 16 = false from Bool.eq_false_iff.mpr (fun q => by have := Nat.eq_of_beq_eq_true q; omega)]
  show Nat.blt (k - 1) 14 = true
  exact Nat.ble_eq_true_of_le (by omega)
theorem wd_any {o : zR} (h : wV Y k i) (hk : Nat.blt k 15 = true) (h0 : Nat.blt 0 k = true) : zany (wd Y n s X) (wA Y k i) o = o := by
  unfold zany
  rw [wd_io h hk h0]
  rfl
theorem wd_gI {f : Nat} (h : wV Y k i) (hk : wok k ci j f = true) : zgI ci j (wd Y n s X) (wA Y k i) = some (zJ (X (f : Int) i)) := by
  unfold wok at hk
  simp only [Bool.and_eq_true] at hk
  obtain ⟨⟨⟨⟨h1, h2⟩, h3⟩, h4⟩, h5⟩ := hk
  have h3 : j < wnf k := Nat.le_of_ble_eq_true h3
  have h5 := Nat.eq_of_beq_eq_true h5
  subst h5
  unfold zgI
  rw [wd_ob h h1 h2]
  show (match znth ((List.range (wnf k)).map (wfv Y X k i)) j with | some (.int x) => some x | _ => none) = _
  rw [znth_map h3]
  unfold wfv
  rw [h4]
  rfl
theorem wd_gR {b : Nat} (h : wV Y k i) (hk : wokR k ci j = true) (hb : wrf Y k j i = b) : zgR ci j (wd Y n s X) (wA Y k i) = some b := by
  unfold wokR at hk
  simp only [Bool.and_eq_true, Bool.not_eq_true'] at hk
  obtain ⟨⟨⟨⟨h1, h2⟩, h3⟩, h4⟩, h5⟩ := hk
  have h3 : j < wnf k := Nat.le_of_ble_eq_true h3
  subst hb
  unfold zgR
  rw [wd_ob h h1 h2]
  show (match znth ((List.range (wnf k)).map (wfv Y X k i)) j with | some (.ref x) => some x | _ => none) = _
  rw [znth_map h3]
  unfold wfv
  rw [h4, h5]
  rfl
theorem wd_gS (h : wV Y 1 i) : zgI 0 2 (wd Y n s X) (wA Y 1 i) = some (zJ (Y.2.2.2.2 0 i)) := by
  unfold zgI
  rw [wd_ob h (by decide) (by decide)]
  show (match znth ((List.range (wnf 1)).map (wfv Y X 1 i)) 2 with | some (.int x) => some x | _ => none) = _
  rw [znth_map (by decide)]
  rfl
theorem wd_pI {f : Nat} {v : Int} (h : wV Y k i) (hI : wI Y) (hk : wok k ci j f = true) : zpt ci j (wd Y n s X) (wA Y k i) (.int (zJ v)) = some (wd Y n s (wu X (f : Int) i v)) := by
  unfold wok at hk
  simp only [Bool.and_eq_true] at hk
  obtain ⟨⟨⟨⟨h1, h2⟩, h3⟩, h4⟩, h5⟩ := hk
  have h3 : j < wnf k := Nat.le_of_ble_eq_true h3
  have h5 := Nat.eq_of_beq_eq_true h5
  subst h5
  have hl := wis_le h4
  have hc := Nat.eq_of_beq_eq_true h2
  have e15 : Nat.beq k 15 = false := Bool.eq_false_iff.mpr (fun q => by have := Nat.eq_of_beq_eq_true q; omega)
  have e16 : Nat.beq k 16 = false := Bool.eq_false_iff.mpr (fun q => by have := Nat.eq_of_beq_eq_true q; omega)
  unfold zpt
  rw [wd_ob h h1 h2]
  show (if j < ((List.range (wnf k)).map (wfv Y X k i)).length then _ else _) = _
  rw [List.length_map, List.length_range, if_pos h3]
  show some ((n, s, zup (wd Y n s X).2.2 (wA Y k i) _) : zW) = _
  refine congrArg some (wd_up h (by omega) hI ?_ ?_)
  · unfold wc
    rw [e15, e16]
    show zEo (k - 1) _ = zEo ci _
    rw [show k - 1 = ci by omega]
    refine congrArg (zEo ci) (zset_map fun j' hj' => ?_).symm
    unfold wfv
    by_cases e : j' = j
    · rw [if_pos e, e, h4]
      show Value.int (zJ (wu X _ i v _ i)) = _
      unfold wu
      rw [if_pos ⟨rfl, rfl⟩]
    · rw [if_neg e]
      cases h6 : (wis k).elem j' with
      | false => rfl
      | true =>
        show Value.int (zJ (wu X _ i v _ i)) = .int (zJ (X _ i))
        unfold wu
        rw [if_neg]
        rintro ⟨q, -⟩
        exact e (wfx_inj h6 h4 (by exact_mod_cast q)).2
  · intro k' i' hne
    have hf := wfx_lt h4
    unfold wc
    cases a15 : Nat.beq k' 15 with
    | true =>
      refine congrArg (zEi (wkd i') (wln i')) (funext fun x => ?_)
      by_cases q0 : 0 ≤ i'
      · rw [if_pos q0, if_pos q0]
        unfold wu
        rw [if_neg]
        rintro ⟨q, -⟩
        omega
      · rw [if_neg q0, if_neg q0]
    | false =>
      cases a16 : Nat.beq k' 16 with
      | true => rfl
      | false =>
        refine congrArg (fun g => zEo (k' - 1) ((List.range (wnf k')).map g)) (funext fun j' => ?_)
        unfold wfv
        cases h6 : (wis k').elem j' with
        | false => rfl
        | true =>
          show Value.int (zJ (wu X _ i v _ i')) = .int (zJ (X _ i'))
          unfold wu
          rw [if_neg]
          rintro ⟨q, q'⟩
          exact hne ⟨(wfx_inj h6 h4 (by exact_mod_cast q)).1, q'⟩
-- arrays of numbers
variable {q : Int}
theorem wd_a15 (h : wV Y 15 q) (h0 : 0 ≤ q) : (wd Y n s X).2.2 (wA Y 15 q) = some (zEi (wkd q) (wln q) (fun j => zJ (X (500 + q) j))) := by
  rw [wd_at h (by decide)]
  unfold wc
  show some (zEi (wkd q) (wln q) (fun j => if 0 ≤ q then zJ (X (500 + q) j) else 0)) = _
  simp only [if_pos h0]
theorem wd_ld {b : Bool} (h : wV Y 15 q) (h0 : 0 ≤ q) (hi : 0 ≤ i) (hl : i < wln q) (hb : b = decide (wkd q = 1)) : zld b (wd Y n s X) (wA Y 15 q) (zJ i) = some (zJ (X (500 + q) i)) := by
  have := wln_le q
  unfold zld
  rw [wd_a15 h h0]
  show (if zoff (zJ i) (wln q) ∨ b ≠ decide (wkd q = 1) then none else some (zJ (X (500 + q) ((zJ i).toNatClampNeg)))) = _
  rw [if_neg (fun hh => hh.elim (zoff_not hi hl (by omega)) (fun g => g hb)), zJ_clamp hi (by omega), Int.toNat_of_nonneg hi]
theorem wd_st {k0 : Nat} {v : Int} (h : wV Y 15 q) (hI : wI Y) (h0 : 0 ≤ q) (hi : 0 ≤ i) (hl : i < wln q) (hk : k0 = wkd q) : zsto k0 (wd Y n s X) (wA Y 15 q) (zJ i) (zJ v) = some (wd Y n s (wu X (500 + q) i v)) := by
  have := wln_le q
  subst hk
  unfold zsto
  rw [wd_a15 h h0]
  show (if zoff (zJ i) (wln q) ∨ wkd q ≠ wkd q then none else some ((n, s, zup (wd Y n s X).2.2 (wA Y 15 q) (zEi (wkd q) (wln q) (upd (fun j => zJ (X (500 + q) j)) (zJ i).toNatClampNeg (zJ v)))) : zW)) = _
  rw [if_neg (fun hh => hh.elim (zoff_not hi hl (by omega)) (fun g => g rfl)), zJ_clamp hi (by omega)]
  · refine congrArg some (wd_up h (by decide) hI ?_ ?_)
    · unfold wc
      refine congrArg (zEi (wkd q) (wln q)) (funext fun x => ?_)
      rw [if_pos h0]
      unfold wu upd
      by_cases e : x = i.toNat
      · rw [if_pos e, if_pos ⟨rfl, by omega⟩]
      · rw [if_neg e, if_neg (fun r => e (by omega))]
    · intro k' i' hne
      unfold wc
      cases a15 : Nat.beq k' 15 with
      | true =>
        have := Nat.eq_of_beq_eq_true a15
        refine congrArg (zEi (wkd i') (wln i')) (funext fun x => ?_)
        by_cases q0 : 0 ≤ i'
        · rw [if_pos q0, if_pos q0]
          unfold wu
          rw [if_neg]
          rintro ⟨r, -⟩
          exact hne ⟨this, by omega⟩
        · rw [if_neg q0, if_neg q0]
      | false =>
        cases a16 : Nat.beq k' 16 with
        | true => rfl
        | false =>
          refine congrArg (fun g => zEo (k' - 1) ((List.range (wnf k')).map g)) (funext fun j' => ?_)
          unfold wfv
          cases h6 : (wis k').elem j' with
          | false => rfl
          | true =>
            have := wfx_lt h6
            show Value.int (zJ (wu X _ i v _ i')) = .int (zJ (X _ i'))
            unfold wu
            rw [if_neg]
            rintro ⟨r, -⟩
            omega
theorem wd_len (h : wV Y 15 q) (h0 : 0 ≤ q) : zlen (wd Y n s X) (wA Y 15 q) = some (zJ (wln q)) := by
  unfold zlen
  rw [wd_a15 h h0]
  exact congrArg some (zJ_ofNat _)
-- rows of references
theorem wd_a16 (h : wV Y 16 q) : (wd Y n s X).2.2 (wA Y 16 q) = some (zEq 3 (Y.2.2.2.2 1 q).toNat (fun j => if (j : Int) < Y.2.2.2.2 0 q then some (wel Y q j) else none)) := by
  rw [wd_at h (by decide)]
  rfl
theorem wd_ldq (h : wV Y 16 q) (hi : 0 ≤ i) (hl : i < Y.2.2.2.2 0 q) (hc : Y.2.2.2.2 0 q ≤ Y.2.2.2.2 1 q) (hm : Y.2.2.2.2 1 q ≤ 1000) : zldq (wd Y n s X) (wA Y 16 q) (zJ i) = some (wel Y q i) := by
  unfold zldq
  rw [wd_a16 h]
  show (if zoff (zJ i) (Y.2.2.2.2 1 q).toNat then none else (if ((zJ i).toNatClampNeg : Int) < Y.2.2.2.2 0 q then some (wel Y q (zJ i).toNatClampNeg) else none)) = _
  rw [if_neg (zoff_not hi (by omega) (by omega)), zJ_clamp hi (by omega), Int.toNat_of_nonneg hi, if_pos hl]
end ZC
-- behind a call
theorem t_I {x : Int32} {W : zW} {f : Int32 → zW → zR} {fe : Nat → zW → zR} : zthI (some (.inl (some (.int x)), W)) f fe = f x W := rfl
theorem t_Ie {E : Nat} {W : zW} {f : Int32 → zW → zR} {fe : Nat → zW → zR} : zthI (some (.inr E, W)) f fe = fe E W := rfl
theorem t_R {x : Nat} {W : zW} {f : Nat → zW → zR} {fe : Nat → zW → zR} : zthR (some (.inl (some (.ref x)), W)) f fe = f x W := rfl
theorem t_Re {E : Nat} {W : zW} {f : Nat → zW → zR} {fe : Nat → zW → zR} : zthR (some (.inr E, W)) f fe = fe E W := rfl
theorem t_N {x : Nat} {W : zW} {f : Nat → zW → zR} {fn : zW → zR} {fe : Nat → zW → zR} : zthN (some (.inl (some (.ref x)), W)) f fn fe = f x W := rfl
theorem t_Nn {W : zW} {f : Nat → zW → zR} {fn : zW → zR} {fe : Nat → zW → zR} : zthN (some (.inl (some .null), W)) f fn fe = fn W := rfl
theorem t_V {W : zW} {f : zW → zR} {fe : Nat → zW → zR} : zthV (some (.inl none, W)) f fe = f W := rfl
theorem t_Ve {E : Nat} {W : zW} {f : zW → zR} {fe : Nat → zW → zR} : zthV (some (.inr E, W)) f fe = fe E W := rfl
theorem t_b {α β : Type} {a : α} {f : α → Option β} : (some a).bind f = f a := rfl
theorem t_x {E : Nat} {W : zW} : zxe E W = some (.inr E, W) := rfl
theorem t_w {Y : zLy} {n s : Nat} {X : zX} : (((wd Y n s X).1 + 1, (wd Y n s X).2.1 + 6, (wd Y n s X).2.2) : zW) = wd Y (n + 1) (s + 6) X := rfl
theorem t_1 {α : Type} {a b : α} : (if (1 : Int32) &&& 1 = 1 then a else b) = a := if_pos (by decide)
theorem t_0 {α : Type} {a b : α} : (if (0 : Int32) &&& 1 = 0 then a else b) = a := if_pos (by decide)
-- the rows of the class and of the reference
theorem g1_0 {Y : zLy} {n s : Nat} {X : zX} {i : Int} (h : wV Y 1 i) : zgI 0 0 (wd Y n s X) (wA Y 1 i) = some (zJ (X 20 i)) := wd_gI h (by decide)
theorem p1_0 {Y : zLy} {n s : Nat} {X : zX} {i : Int} {v : Int} (h : wV Y 1 i) (hI : wI Y) : zpt 0 0 (wd Y n s X) (wA Y 1 i) (.int (zJ v)) = some (wd Y n s (wu X 20 i v)) := wd_pI h hI (by decide)
theorem g2_0 {Y : zLy} {n s : Nat} {X : zX} {i : Int} (h : wV Y 2 i) : zgI 1 0 (wd Y n s X) (wA Y 2 i) = some (zJ (X 40 i)) := wd_gI h (by decide)
theorem p2_0 {Y : zLy} {n s : Nat} {X : zX} {i : Int} {v : Int} (h : wV Y 2 i) (hI : wI Y) : zpt 1 0 (wd Y n s X) (wA Y 2 i) (.int (zJ v)) = some (wd Y n s (wu X 40 i v)) := wd_pI h hI (by decide)
theorem g2_1 {Y : zLy} {n s : Nat} {X : zX} {i : Int} (h : wV Y 2 i) : zgI 1 1 (wd Y n s X) (wA Y 2 i) = some (zJ (X 41 i)) := wd_gI h (by decide)
theorem p2_1 {Y : zLy} {n s : Nat} {X : zX} {i : Int} {v : Int} (h : wV Y 2 i) (hI : wI Y) : zpt 1 1 (wd Y n s X) (wA Y 2 i) (.int (zJ v)) = some (wd Y n s (wu X 41 i v)) := wd_pI h hI (by decide)
theorem g2_2 {Y : zLy} {n s : Nat} {X : zX} {i : Int} (h : wV Y 2 i) : zgI 1 2 (wd Y n s X) (wA Y 2 i) = some (zJ (X 42 i)) := wd_gI h (by decide)
theorem p2_2 {Y : zLy} {n s : Nat} {X : zX} {i : Int} {v : Int} (h : wV Y 2 i) (hI : wI Y) : zpt 1 2 (wd Y n s X) (wA Y 2 i) (.int (zJ v)) = some (wd Y n s (wu X 42 i v)) := wd_pI h hI (by decide)
theorem g3_0 {Y : zLy} {n s : Nat} {X : zX} {i : Int} (h : wV Y 3 i) : zgI 2 0 (wd Y n s X) (wA Y 3 i) = some (zJ (X 60 i)) := wd_gI h (by decide)
theorem p3_0 {Y : zLy} {n s : Nat} {X : zX} {i : Int} {v : Int} (h : wV Y 3 i) (hI : wI Y) : zpt 2 0 (wd Y n s X) (wA Y 3 i) (.int (zJ v)) = some (wd Y n s (wu X 60 i v)) := wd_pI h hI (by decide)
theorem g3_1 {Y : zLy} {n s : Nat} {X : zX} {i : Int} (h : wV Y 3 i) : zgI 2 1 (wd Y n s X) (wA Y 3 i) = some (zJ (X 61 i)) := wd_gI h (by decide)
theorem p3_1 {Y : zLy} {n s : Nat} {X : zX} {i : Int} {v : Int} (h : wV Y 3 i) (hI : wI Y) : zpt 2 1 (wd Y n s X) (wA Y 3 i) (.int (zJ v)) = some (wd Y n s (wu X 61 i v)) := wd_pI h hI (by decide)
theorem g3_2 {Y : zLy} {n s : Nat} {X : zX} {i : Int} (h : wV Y 3 i) : zgI 2 2 (wd Y n s X) (wA Y 3 i) = some (zJ (X 62 i)) := wd_gI h (by decide)
theorem p3_2 {Y : zLy} {n s : Nat} {X : zX} {i : Int} {v : Int} (h : wV Y 3 i) (hI : wI Y) : zpt 2 2 (wd Y n s X) (wA Y 3 i) (.int (zJ v)) = some (wd Y n s (wu X 62 i v)) := wd_pI h hI (by decide)
theorem g3_3 {Y : zLy} {n s : Nat} {X : zX} {i : Int} (h : wV Y 3 i) : zgI 2 3 (wd Y n s X) (wA Y 3 i) = some (zJ (X 63 i)) := wd_gI h (by decide)
theorem p3_3 {Y : zLy} {n s : Nat} {X : zX} {i : Int} {v : Int} (h : wV Y 3 i) (hI : wI Y) : zpt 2 3 (wd Y n s X) (wA Y 3 i) (.int (zJ v)) = some (wd Y n s (wu X 63 i v)) := wd_pI h hI (by decide)
theorem g3_4 {Y : zLy} {n s : Nat} {X : zX} {i : Int} (h : wV Y 3 i) : zgI 2 4 (wd Y n s X) (wA Y 3 i) = some (zJ (X 64 i)) := wd_gI h (by decide)
theorem p3_4 {Y : zLy} {n s : Nat} {X : zX} {i : Int} {v : Int} (h : wV Y 3 i) (hI : wI Y) : zpt 2 4 (wd Y n s X) (wA Y 3 i) (.int (zJ v)) = some (wd Y n s (wu X 64 i v)) := wd_pI h hI (by decide)
theorem g4_0 {Y : zLy} {n s : Nat} {X : zX} {i : Int} (h : wV Y 4 i) : zgI 3 0 (wd Y n s X) (wA Y 4 i) = some (zJ (X 80 i)) := wd_gI h (by decide)
theorem p4_0 {Y : zLy} {n s : Nat} {X : zX} {i : Int} {v : Int} (h : wV Y 4 i) (hI : wI Y) : zpt 3 0 (wd Y n s X) (wA Y 4 i) (.int (zJ v)) = some (wd Y n s (wu X 80 i v)) := wd_pI h hI (by decide)
theorem g4_1 {Y : zLy} {n s : Nat} {X : zX} {i : Int} (h : wV Y 4 i) : zgI 3 1 (wd Y n s X) (wA Y 4 i) = some (zJ (X 81 i)) := wd_gI h (by decide)
theorem p4_1 {Y : zLy} {n s : Nat} {X : zX} {i : Int} {v : Int} (h : wV Y 4 i) (hI : wI Y) : zpt 3 1 (wd Y n s X) (wA Y 4 i) (.int (zJ v)) = some (wd Y n s (wu X 81 i v)) := wd_pI h hI (by decide)
theorem g4_2 {Y : zLy} {n s : Nat} {X : zX} {i : Int} (h : wV Y 4 i) : zgI 3 2 (wd Y n s X) (wA Y 4 i) = some (zJ (X 82 i)) := wd_gI h (by decide)
theorem p4_2 {Y : zLy} {n s : Nat} {X : zX} {i : Int} {v : Int} (h : wV Y 4 i) (hI : wI Y) : zpt 3 2 (wd Y n s X) (wA Y 4 i) (.int (zJ v)) = some (wd Y n s (wu X 82 i v)) := wd_pI h hI (by decide)
theorem g4_3 {Y : zLy} {n s : Nat} {X : zX} {i : Int} (h : wV Y 4 i) : zgI 3 3 (wd Y n s X) (wA Y 4 i) = some (zJ (X 83 i)) := wd_gI h (by decide)
theorem p4_3 {Y : zLy} {n s : Nat} {X : zX} {i : Int} {v : Int} (h : wV Y 4 i) (hI : wI Y) : zpt 3 3 (wd Y n s X) (wA Y 4 i) (.int (zJ v)) = some (wd Y n s (wu X 83 i v)) := wd_pI h hI (by decide)
theorem g4_4 {Y : zLy} {n s : Nat} {X : zX} {i : Int} (h : wV Y 4 i) : zgI 3 4 (wd Y n s X) (wA Y 4 i) = some (zJ (X 84 i)) := wd_gI h (by decide)
theorem p4_4 {Y : zLy} {n s : Nat} {X : zX} {i : Int} {v : Int} (h : wV Y 4 i) (hI : wI Y) : zpt 3 4 (wd Y n s X) (wA Y 4 i) (.int (zJ v)) = some (wd Y n s (wu X 84 i v)) := wd_pI h hI (by decide)
theorem g5_0 {Y : zLy} {n s : Nat} {X : zX} {i : Int} (h : wV Y 5 i) : zgI 4 0 (wd Y n s X) (wA Y 5 i) = some (zJ (X 100 i)) := wd_gI h (by decide)
theorem p5_0 {Y : zLy} {n s : Nat} {X : zX} {i : Int} {v : Int} (h : wV Y 5 i) (hI : wI Y) : zpt 4 0 (wd Y n s X) (wA Y 5 i) (.int (zJ v)) = some (wd Y n s (wu X 100 i v)) := wd_pI h hI (by decide)
theorem g5_1 {Y : zLy} {n s : Nat} {X : zX} {i : Int} (h : wV Y 5 i) : zgI 4 1 (wd Y n s X) (wA Y 5 i) = some (zJ (X 101 i)) := wd_gI h (by decide)
theorem p5_1 {Y : zLy} {n s : Nat} {X : zX} {i : Int} {v : Int} (h : wV Y 5 i) (hI : wI Y) : zpt 4 1 (wd Y n s X) (wA Y 5 i) (.int (zJ v)) = some (wd Y n s (wu X 101 i v)) := wd_pI h hI (by decide)
theorem g5_3 {Y : zLy} {n s : Nat} {X : zX} {i : Int} (h : wV Y 5 i) : zgI 4 3 (wd Y n s X) (wA Y 5 i) = some (zJ (X 103 i)) := wd_gI h (by decide)
theorem p5_3 {Y : zLy} {n s : Nat} {X : zX} {i : Int} {v : Int} (h : wV Y 5 i) (hI : wI Y) : zpt 4 3 (wd Y n s X) (wA Y 5 i) (.int (zJ v)) = some (wd Y n s (wu X 103 i v)) := wd_pI h hI (by decide)
theorem g7_4 {Y : zLy} {n s : Nat} {X : zX} {i : Int} (h : wV Y 7 i) : zgI 6 4 (wd Y n s X) (wA Y 7 i) = some (zJ (X 144 i)) := wd_gI h (by decide)
theorem p7_4 {Y : zLy} {n s : Nat} {X : zX} {i : Int} {v : Int} (h : wV Y 7 i) (hI : wI Y) : zpt 6 4 (wd Y n s X) (wA Y 7 i) (.int (zJ v)) = some (wd Y n s (wu X 144 i v)) := wd_pI h hI (by decide)
theorem g9_0 {Y : zLy} {n s : Nat} {X : zX} {i : Int} (h : wV Y 9 i) : zgI 8 0 (wd Y n s X) (wA Y 9 i) = some (zJ (X 180 i)) := wd_gI h (by decide)
theorem p9_0 {Y : zLy} {n s : Nat} {X : zX} {i : Int} {v : Int} (h : wV Y 9 i) (hI : wI Y) : zpt 8 0 (wd Y n s X) (wA Y 9 i) (.int (zJ v)) = some (wd Y n s (wu X 180 i v)) := wd_pI h hI (by decide)
theorem g9_1 {Y : zLy} {n s : Nat} {X : zX} {i : Int} (h : wV Y 9 i) : zgI 8 1 (wd Y n s X) (wA Y 9 i) = some (zJ (X 181 i)) := wd_gI h (by decide)
theorem p9_1 {Y : zLy} {n s : Nat} {X : zX} {i : Int} {v : Int} (h : wV Y 9 i) (hI : wI Y) : zpt 8 1 (wd Y n s X) (wA Y 9 i) (.int (zJ v)) = some (wd Y n s (wu X 181 i v)) := wd_pI h hI (by decide)
theorem g9_2 {Y : zLy} {n s : Nat} {X : zX} {i : Int} (h : wV Y 9 i) : zgI 8 2 (wd Y n s X) (wA Y 9 i) = some (zJ (X 182 i)) := wd_gI h (by decide)
theorem p9_2 {Y : zLy} {n s : Nat} {X : zX} {i : Int} {v : Int} (h : wV Y 9 i) (hI : wI Y) : zpt 8 2 (wd Y n s X) (wA Y 9 i) (.int (zJ v)) = some (wd Y n s (wu X 182 i v)) := wd_pI h hI (by decide)
theorem g9_3 {Y : zLy} {n s : Nat} {X : zX} {i : Int} (h : wV Y 9 i) : zgI 8 3 (wd Y n s X) (wA Y 9 i) = some (zJ (X 183 i)) := wd_gI h (by decide)
theorem p9_3 {Y : zLy} {n s : Nat} {X : zX} {i : Int} {v : Int} (h : wV Y 9 i) (hI : wI Y) : zpt 8 3 (wd Y n s X) (wA Y 9 i) (.int (zJ v)) = some (wd Y n s (wu X 183 i v)) := wd_pI h hI (by decide)
theorem g9_4 {Y : zLy} {n s : Nat} {X : zX} {i : Int} (h : wV Y 9 i) : zgI 8 4 (wd Y n s X) (wA Y 9 i) = some (zJ (X 184 i)) := wd_gI h (by decide)
theorem p9_4 {Y : zLy} {n s : Nat} {X : zX} {i : Int} {v : Int} (h : wV Y 9 i) (hI : wI Y) : zpt 8 4 (wd Y n s X) (wA Y 9 i) (.int (zJ v)) = some (wd Y n s (wu X 184 i v)) := wd_pI h hI (by decide)
theorem g11_0 {Y : zLy} {n s : Nat} {X : zX} {i : Int} (h : wV Y 11 i) : zgI 10 0 (wd Y n s X) (wA Y 11 i) = some (zJ (X 220 i)) := wd_gI h (by decide)
theorem p11_0 {Y : zLy} {n s : Nat} {X : zX} {i : Int} {v : Int} (h : wV Y 11 i) (hI : wI Y) : zpt 10 0 (wd Y n s X) (wA Y 11 i) (.int (zJ v)) = some (wd Y n s (wu X 220 i v)) := wd_pI h hI (by decide)
theorem g11_1 {Y : zLy} {n s : Nat} {X : zX} {i : Int} (h : wV Y 11 i) : zgI 10 1 (wd Y n s X) (wA Y 11 i) = some (zJ (X 221 i)) := wd_gI h (by decide)
theorem p11_1 {Y : zLy} {n s : Nat} {X : zX} {i : Int} {v : Int} (h : wV Y 11 i) (hI : wI Y) : zpt 10 1 (wd Y n s X) (wA Y 11 i) (.int (zJ v)) = some (wd Y n s (wu X 221 i v)) := wd_pI h hI (by decide)
theorem g11_2 {Y : zLy} {n s : Nat} {X : zX} {i : Int} (h : wV Y 11 i) : zgI 10 2 (wd Y n s X) (wA Y 11 i) = some (zJ (X 222 i)) := wd_gI h (by decide)
theorem p11_2 {Y : zLy} {n s : Nat} {X : zX} {i : Int} {v : Int} (h : wV Y 11 i) (hI : wI Y) : zpt 10 2 (wd Y n s X) (wA Y 11 i) (.int (zJ v)) = some (wd Y n s (wu X 222 i v)) := wd_pI h hI (by decide)
theorem g11_3 {Y : zLy} {n s : Nat} {X : zX} {i : Int} (h : wV Y 11 i) : zgI 10 3 (wd Y n s X) (wA Y 11 i) = some (zJ (X 223 i)) := wd_gI h (by decide)
theorem p11_3 {Y : zLy} {n s : Nat} {X : zX} {i : Int} {v : Int} (h : wV Y 11 i) (hI : wI Y) : zpt 10 3 (wd Y n s X) (wA Y 11 i) (.int (zJ v)) = some (wd Y n s (wu X 223 i v)) := wd_pI h hI (by decide)
theorem g11_4 {Y : zLy} {n s : Nat} {X : zX} {i : Int} (h : wV Y 11 i) : zgI 10 4 (wd Y n s X) (wA Y 11 i) = some (zJ (X 224 i)) := wd_gI h (by decide)
theorem p11_4 {Y : zLy} {n s : Nat} {X : zX} {i : Int} {v : Int} (h : wV Y 11 i) (hI : wI Y) : zpt 10 4 (wd Y n s X) (wA Y 11 i) (.int (zJ v)) = some (wd Y n s (wu X 224 i v)) := wd_pI h hI (by decide)
theorem g11_5 {Y : zLy} {n s : Nat} {X : zX} {i : Int} (h : wV Y 11 i) : zgI 10 5 (wd Y n s X) (wA Y 11 i) = some (zJ (X 225 i)) := wd_gI h (by decide)
theorem p11_5 {Y : zLy} {n s : Nat} {X : zX} {i : Int} {v : Int} (h : wV Y 11 i) (hI : wI Y) : zpt 10 5 (wd Y n s X) (wA Y 11 i) (.int (zJ v)) = some (wd Y n s (wu X 225 i v)) := wd_pI h hI (by decide)
theorem g11_6 {Y : zLy} {n s : Nat} {X : zX} {i : Int} (h : wV Y 11 i) : zgI 10 6 (wd Y n s X) (wA Y 11 i) = some (zJ (X 226 i)) := wd_gI h (by decide)
theorem p11_6 {Y : zLy} {n s : Nat} {X : zX} {i : Int} {v : Int} (h : wV Y 11 i) (hI : wI Y) : zpt 10 6 (wd Y n s X) (wA Y 11 i) (.int (zJ v)) = some (wd Y n s (wu X 226 i v)) := wd_pI h hI (by decide)
theorem g11_7 {Y : zLy} {n s : Nat} {X : zX} {i : Int} (h : wV Y 11 i) : zgI 10 7 (wd Y n s X) (wA Y 11 i) = some (zJ (X 227 i)) := wd_gI h (by decide)
theorem p11_7 {Y : zLy} {n s : Nat} {X : zX} {i : Int} {v : Int} (h : wV Y 11 i) (hI : wI Y) : zpt 10 7 (wd Y n s X) (wA Y 11 i) (.int (zJ v)) = some (wd Y n s (wu X 227 i v)) := wd_pI h hI (by decide)
theorem g12_1 {Y : zLy} {n s : Nat} {X : zX} {i : Int} (h : wV Y 12 i) : zgI 11 1 (wd Y n s X) (wA Y 12 i) = some (zJ (X 241 i)) := wd_gI h (by decide)
theorem p12_1 {Y : zLy} {n s : Nat} {X : zX} {i : Int} {v : Int} (h : wV Y 12 i) (hI : wI Y) : zpt 11 1 (wd Y n s X) (wA Y 12 i) (.int (zJ v)) = some (wd Y n s (wu X 241 i v)) := wd_pI h hI (by decide)
theorem g12_3 {Y : zLy} {n s : Nat} {X : zX} {i : Int} (h : wV Y 12 i) : zgI 11 3 (wd Y n s X) (wA Y 12 i) = some (zJ (X 243 i)) := wd_gI h (by decide)
theorem p12_3 {Y : zLy} {n s : Nat} {X : zX} {i : Int} {v : Int} (h : wV Y 12 i) (hI : wI Y) : zpt 11 3 (wd Y n s X) (wA Y 12 i) (.int (zJ v)) = some (wd Y n s (wu X 243 i v)) := wd_pI h hI (by decide)
theorem g12_4 {Y : zLy} {n s : Nat} {X : zX} {i : Int} (h : wV Y 12 i) : zgI 11 4 (wd Y n s X) (wA Y 12 i) = some (zJ (X 244 i)) := wd_gI h (by decide)
theorem p12_4 {Y : zLy} {n s : Nat} {X : zX} {i : Int} {v : Int} (h : wV Y 12 i) (hI : wI Y) : zpt 11 4 (wd Y n s X) (wA Y 12 i) (.int (zJ v)) = some (wd Y n s (wu X 244 i v)) := wd_pI h hI (by decide)
theorem g12_5 {Y : zLy} {n s : Nat} {X : zX} {i : Int} (h : wV Y 12 i) : zgI 11 5 (wd Y n s X) (wA Y 12 i) = some (zJ (X 245 i)) := wd_gI h (by decide)
theorem p12_5 {Y : zLy} {n s : Nat} {X : zX} {i : Int} {v : Int} (h : wV Y 12 i) (hI : wI Y) : zpt 11 5 (wd Y n s X) (wA Y 12 i) (.int (zJ v)) = some (wd Y n s (wu X 245 i v)) := wd_pI h hI (by decide)
theorem g12_6 {Y : zLy} {n s : Nat} {X : zX} {i : Int} (h : wV Y 12 i) : zgI 11 6 (wd Y n s X) (wA Y 12 i) = some (zJ (X 246 i)) := wd_gI h (by decide)
theorem p12_6 {Y : zLy} {n s : Nat} {X : zX} {i : Int} {v : Int} (h : wV Y 12 i) (hI : wI Y) : zpt 11 6 (wd Y n s X) (wA Y 12 i) (.int (zJ v)) = some (wd Y n s (wu X 246 i v)) := wd_pI h hI (by decide)
theorem g13_6 {Y : zLy} {n s : Nat} {X : zX} {i : Int} (h : wV Y 13 i) : zgI 12 6 (wd Y n s X) (wA Y 13 i) = some (zJ (X 266 i)) := wd_gI h (by decide)
theorem p13_6 {Y : zLy} {n s : Nat} {X : zX} {i : Int} {v : Int} (h : wV Y 13 i) (hI : wI Y) : zpt 12 6 (wd Y n s X) (wA Y 13 i) (.int (zJ v)) = some (wd Y n s (wu X 266 i v)) := wd_pI h hI (by decide)
theorem g13_7 {Y : zLy} {n s : Nat} {X : zX} {i : Int} (h : wV Y 13 i) : zgI 12 7 (wd Y n s X) (wA Y 13 i) = some (zJ (X 267 i)) := wd_gI h (by decide)
theorem p13_7 {Y : zLy} {n s : Nat} {X : zX} {i : Int} {v : Int} (h : wV Y 13 i) (hI : wI Y) : zpt 12 7 (wd Y n s X) (wA Y 13 i) (.int (zJ v)) = some (wd Y n s (wu X 267 i v)) := wd_pI h hI (by decide)
theorem g1_1 {Y : zLy} {n s : Nat} {X : zX} {i : Int} (h : wV Y 1 i) : zgR 0 1 (wd Y n s X) (wA Y 1 i) = some (if Y.2.2.2.2 1 i = 0 then Y.1 else wA Y 16 i) := wd_gR h (by decide) rfl
theorem g2_3 {Y : zLy} {n s : Nat} {X : zX} {i : Int} (h : wV Y 2 i) : zgR 1 3 (wd Y n s X) (wA Y 2 i) = some (wA Y 1 (29 + i)) := wd_gR h (by decide) rfl
theorem g2_4 {Y : zLy} {n s : Nat} {X : zX} {i : Int} (h : wV Y 2 i) : zgR 1 4 (wd Y n s X) (wA Y 2 i) = some (wA Y 10 (9 + i)) := wd_gR h (by decide) rfl
theorem g5_2 {Y : zLy} {n s : Nat} {X : zX} {i : Int} (h : wV Y 5 i) : zgR 4 2 (wd Y n s X) (wA Y 5 i) = some (wA Y 10 5) := wd_gR h (by decide) rfl
theorem g6_0 {Y : zLy} {n s : Nat} {X : zX} {i : Int} (h : wV Y 6 i) : zgR 5 0 (wd Y n s X) (wA Y 6 i) = some (wA Y 1 0) := wd_gR h (by decide) rfl
theorem g6_1 {Y : zLy} {n s : Nat} {X : zX} {i : Int} (h : wV Y 6 i) : zgR 5 1 (wd Y n s X) (wA Y 6 i) = some (wA Y 1 1) := wd_gR h (by decide) rfl
theorem g6_2 {Y : zLy} {n s : Nat} {X : zX} {i : Int} (h : wV Y 6 i) : zgR 5 2 (wd Y n s X) (wA Y 6 i) = some (wA Y 1 2) := wd_gR h (by decide) rfl
theorem g6_3 {Y : zLy} {n s : Nat} {X : zX} {i : Int} (h : wV Y 6 i) : zgR 5 3 (wd Y n s X) (wA Y 6 i) = some (wA Y 10 0) := wd_gR h (by decide) rfl
theorem g7_0 {Y : zLy} {n s : Nat} {X : zX} {i : Int} (h : wV Y 7 i) : zgR 6 0 (wd Y n s X) (wA Y 7 i) = some (wA Y 10 1) := wd_gR h (by decide) rfl
theorem g7_1 {Y : zLy} {n s : Nat} {X : zX} {i : Int} (h : wV Y 7 i) : zgR 6 1 (wd Y n s X) (wA Y 7 i) = some (wA Y 10 2) := wd_gR h (by decide) rfl
theorem g7_2 {Y : zLy} {n s : Nat} {X : zX} {i : Int} (h : wV Y 7 i) : zgR 6 2 (wd Y n s X) (wA Y 7 i) = some (wA Y 10 3) := wd_gR h (by decide) rfl
theorem g7_3 {Y : zLy} {n s : Nat} {X : zX} {i : Int} (h : wV Y 7 i) : zgR 6 3 (wd Y n s X) (wA Y 7 i) = some (wA Y 10 4) := wd_gR h (by decide) rfl
theorem g8_0 {Y : zLy} {n s : Nat} {X : zX} {i : Int} (h : wV Y 8 i) : zgR 7 0 (wd Y n s X) (wA Y 8 i) = some (wA Y 10 6) := wd_gR h (by decide) rfl
theorem g8_1 {Y : zLy} {n s : Nat} {X : zX} {i : Int} (h : wV Y 8 i) : zgR 7 1 (wd Y n s X) (wA Y 8 i) = some (wA Y 10 7) := wd_gR h (by decide) rfl
theorem g8_2 {Y : zLy} {n s : Nat} {X : zX} {i : Int} (h : wV Y 8 i) : zgR 7 2 (wd Y n s X) (wA Y 8 i) = some (wA Y 10 8) := wd_gR h (by decide) rfl
theorem g10_0 {Y : zLy} {n s : Nat} {X : zX} {i : Int} (h : wV Y 10 i) : zgR 9 0 (wd Y n s X) (wA Y 10 i) = some (wA Y 15 i) := wd_gR h (by decide) rfl
theorem g12_0 {Y : zLy} {n s : Nat} {X : zX} {i : Int} (h : wV Y 12 i) : zgR 11 0 (wd Y n s X) (wA Y 12 i) = some (wA Y 4 (Y.2.2.2.2 2 i)) := wd_gR h (by decide) rfl
theorem g12_2 {Y : zLy} {n s : Nat} {X : zX} {i : Int} (h : wV Y 12 i) : zgR 11 2 (wd Y n s X) (wA Y 12 i) = some (wA Y 4 (Y.2.2.2.2 3 i)) := wd_gR h (by decide) rfl
theorem g12_7 {Y : zLy} {n s : Nat} {X : zX} {i : Int} (h : wV Y 12 i) : zgR 11 7 (wd Y n s X) (wA Y 12 i) = some (wA Y 1 (5 + i)) := wd_gR h (by decide) rfl
theorem g13_0 {Y : zLy} {n s : Nat} {X : zX} {i : Int} (h : wV Y 13 i) : zgR 12 0 (wd Y n s X) (wA Y 13 i) = some (wA Y 6 0) := wd_gR h (by decide) rfl
theorem g13_1 {Y : zLy} {n s : Nat} {X : zX} {i : Int} (h : wV Y 13 i) : zgR 12 1 (wd Y n s X) (wA Y 13 i) = some (wA Y 7 0) := wd_gR h (by decide) rfl
theorem g13_2 {Y : zLy} {n s : Nat} {X : zX} {i : Int} (h : wV Y 13 i) : zgR 12 2 (wd Y n s X) (wA Y 13 i) = some (wA Y 5 0) := wd_gR h (by decide) rfl
theorem g13_3 {Y : zLy} {n s : Nat} {X : zX} {i : Int} (h : wV Y 13 i) : zgR 12 3 (wd Y n s X) (wA Y 13 i) = some (wA Y 8 0) := wd_gR h (by decide) rfl
theorem g13_4 {Y : zLy} {n s : Nat} {X : zX} {i : Int} (h : wV Y 13 i) : zgR 12 4 (wd Y n s X) (wA Y 13 i) = some (wA Y 1 3) := wd_gR h (by decide) rfl
theorem g13_5 {Y : zLy} {n s : Nat} {X : zX} {i : Int} (h : wV Y 13 i) : zgR 12 5 (wd Y n s X) (wA Y 13 i) = some (wA Y 1 4) := wd_gR h (by decide) rfl
theorem g1_2 {Y : zLy} {n s : Nat} {X : zX} {i : Int} (h : wV Y 1 i) : zgI 0 2 (wd Y n s X) (wA Y 1 i) = some (zJ (Y.2.2.2.2 0 i)) := wd_gS h
theorem k1 {Y : zLy} {n s : Nat} {X : zX} {i : Int} {o : zR} (h : wV Y 1 i) : zck 0 (wd Y n s X) (wA Y 1 i) o = o := wd_ck h (by decide) (by decide)
theorem o1 {Y : zLy} {n s : Nat} {X : zX} {i : Int} {o : zR} (h : wV Y 1 i) : zany (wd Y n s X) (wA Y 1 i) o = o := wd_any h (by decide) (by decide)
theorem k2 {Y : zLy} {n s : Nat} {X : zX} {i : Int} {o : zR} (h : wV Y 2 i) : zck 1 (wd Y n s X) (wA Y 2 i) o = o := wd_ck h (by decide) (by decide)
theorem o2 {Y : zLy} {n s : Nat} {X : zX} {i : Int} {o : zR} (h : wV Y 2 i) : zany (wd Y n s X) (wA Y 2 i) o = o := wd_any h (by decide) (by decide)
theorem k3 {Y : zLy} {n s : Nat} {X : zX} {i : Int} {o : zR} (h : wV Y 3 i) : zck 2 (wd Y n s X) (wA Y 3 i) o = o := wd_ck h (by decide) (by decide)
theorem o3 {Y : zLy} {n s : Nat} {X : zX} {i : Int} {o : zR} (h : wV Y 3 i) : zany (wd Y n s X) (wA Y 3 i) o = o := wd_any h (by decide) (by decide)
theorem k4 {Y : zLy} {n s : Nat} {X : zX} {i : Int} {o : zR} (h : wV Y 4 i) : zck 3 (wd Y n s X) (wA Y 4 i) o = o := wd_ck h (by decide) (by decide)
theorem o4 {Y : zLy} {n s : Nat} {X : zX} {i : Int} {o : zR} (h : wV Y 4 i) : zany (wd Y n s X) (wA Y 4 i) o = o := wd_any h (by decide) (by decide)
theorem k5 {Y : zLy} {n s : Nat} {X : zX} {i : Int} {o : zR} (h : wV Y 5 i) : zck 4 (wd Y n s X) (wA Y 5 i) o = o := wd_ck h (by decide) (by decide)
theorem o5 {Y : zLy} {n s : Nat} {X : zX} {i : Int} {o : zR} (h : wV Y 5 i) : zany (wd Y n s X) (wA Y 5 i) o = o := wd_any h (by decide) (by decide)
theorem k6 {Y : zLy} {n s : Nat} {X : zX} {i : Int} {o : zR} (h : wV Y 6 i) : zck 5 (wd Y n s X) (wA Y 6 i) o = o := wd_ck h (by decide) (by decide)
theorem o6 {Y : zLy} {n s : Nat} {X : zX} {i : Int} {o : zR} (h : wV Y 6 i) : zany (wd Y n s X) (wA Y 6 i) o = o := wd_any h (by decide) (by decide)
theorem k7 {Y : zLy} {n s : Nat} {X : zX} {i : Int} {o : zR} (h : wV Y 7 i) : zck 6 (wd Y n s X) (wA Y 7 i) o = o := wd_ck h (by decide) (by decide)
theorem o7 {Y : zLy} {n s : Nat} {X : zX} {i : Int} {o : zR} (h : wV Y 7 i) : zany (wd Y n s X) (wA Y 7 i) o = o := wd_any h (by decide) (by decide)
theorem k8 {Y : zLy} {n s : Nat} {X : zX} {i : Int} {o : zR} (h : wV Y 8 i) : zck 7 (wd Y n s X) (wA Y 8 i) o = o := wd_ck h (by decide) (by decide)
theorem o8 {Y : zLy} {n s : Nat} {X : zX} {i : Int} {o : zR} (h : wV Y 8 i) : zany (wd Y n s X) (wA Y 8 i) o = o := wd_any h (by decide) (by decide)
theorem k9 {Y : zLy} {n s : Nat} {X : zX} {i : Int} {o : zR} (h : wV Y 9 i) : zck 8 (wd Y n s X) (wA Y 9 i) o = o := wd_ck h (by decide) (by decide)
theorem o9 {Y : zLy} {n s : Nat} {X : zX} {i : Int} {o : zR} (h : wV Y 9 i) : zany (wd Y n s X) (wA Y 9 i) o = o := wd_any h (by decide) (by decide)
theorem k10 {Y : zLy} {n s : Nat} {X : zX} {i : Int} {o : zR} (h : wV Y 10 i) : zck 9 (wd Y n s X) (wA Y 10 i) o = o := wd_ck h (by decide) (by decide)
theorem o10 {Y : zLy} {n s : Nat} {X : zX} {i : Int} {o : zR} (h : wV Y 10 i) : zany (wd Y n s X) (wA Y 10 i) o = o := wd_any h (by decide) (by decide)
theorem k11 {Y : zLy} {n s : Nat} {X : zX} {i : Int} {o : zR} (h : wV Y 11 i) : zck 10 (wd Y n s X) (wA Y 11 i) o = o := wd_ck h (by decide) (by decide)
theorem o11 {Y : zLy} {n s : Nat} {X : zX} {i : Int} {o : zR} (h : wV Y 11 i) : zany (wd Y n s X) (wA Y 11 i) o = o := wd_any h (by decide) (by decide)
theorem k12 {Y : zLy} {n s : Nat} {X : zX} {i : Int} {o : zR} (h : wV Y 12 i) : zck 11 (wd Y n s X) (wA Y 12 i) o = o := wd_ck h (by decide) (by decide)
theorem o12 {Y : zLy} {n s : Nat} {X : zX} {i : Int} {o : zR} (h : wV Y 12 i) : zany (wd Y n s X) (wA Y 12 i) o = o := wd_any h (by decide) (by decide)
theorem k13 {Y : zLy} {n s : Nat} {X : zX} {i : Int} {o : zR} (h : wV Y 13 i) : zck 12 (wd Y n s X) (wA Y 13 i) o = o := wd_ck h (by decide) (by decide)
theorem o13 {Y : zLy} {n s : Nat} {X : zX} {i : Int} {o : zR} (h : wV Y 13 i) : zany (wd Y n s X) (wA Y 13 i) o = o := wd_any h (by decide) (by decide)
theorem ln_0 : wln 0 = 8 := rfl
theorem ln_1 : wln 1 = 5 := rfl
theorem ln_2 : wln 2 = 5 := rfl
theorem ln_3 : wln 3 = 32 := rfl
theorem ln_4 : wln 4 = 32 := rfl
theorem ln_5 : wln 5 = 8 := rfl
theorem ln_6 : wln 6 = 4 := rfl
theorem ln_7 : wln 7 = 6 := rfl
theorem ln_8 : wln 8 = 6 := rfl
theorem ln_600 : wln 600 = 16 := rfl
theorem ln_601 : wln 601 = 17 := rfl
theorem ln_602 : wln 602 = 8 := rfl
theorem ln_603 : wln 603 = 25 := rfl
theorem ln_604 : wln 604 = 48 := rfl
theorem ln_605 : wln 605 = 12 := rfl
theorem ln_606 : wln 606 = 12 := rfl
theorem ln_607 : wln 607 = 13 := rfl
theorem ln_608 : wln 608 = 19 := rfl
theorem ln_609 : wln 609 = 32 := rfl
theorem ln_610 : wln 610 = 32 := rfl
theorem ln_611 : wln 611 = 5 := rfl
theorem ln_612 : wln 612 = 8 := rfl
theorem ln_613 : wln 613 = 8 := rfl
