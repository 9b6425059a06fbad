/-! THE TWO SIDES, 90: the least weight of families: the class's two ways and the reference's enumeration, each the least over ordered divisions -/
theorem zan_k2 : ∀ a b : Fin 32, ∀ k : Fin 5, zbt (zan (a.val : Int) (b.val : Int)) (k.val : Int) = (zbt (a.val : Int) (k.val : Int) && !zbt (b.val : Int) (k.val : Int)) := by decide +kernel
theorem zex_k : ∀ a b : Fin 32, (∀ k : Fin 5, zbt (a.val : Int) (k.val : Int) = zbt (b.val : Int) (k.val : Int)) → a = b := by decide +kernel
theorem zan_k3 : ∀ a b : Fin 32, (∀ k : Fin 5, zbt (a.val : Int) (k.val : Int) = true → zbt (b.val : Int) (k.val : Int) = true) → zan (a.val : Int) (b.val : Int) = 0 := by decide +kernel
theorem zan_k4 : ∀ a b : Fin 32, zan (a.val : Int) (b.val : Int) = 0 → a.val ≤ b.val := by decide +kernel
theorem zlow_k2 : ∀ a : Fin 32, 0 < a.val → ∃ k : Fin 5, zbt (a.val : Int) (k.val : Int) = true ∧ ∀ i : Fin 32, zbt (i.val : Int) (k.val : Int) = true → ¬zad (i.val : Int) (zad (a.val : Int) (-(a.val : Int))) = 0 ∧ zad (a.val : Int) (-(a.val : Int)) ≤ (i.val : Int) := by decide +kernel
theorem zbt_k0 : ∀ k : Fin 5, zbt 0 (k.val : Int) = false := by decide +kernel
theorem zan_k0 : ∀ a : Fin 32, zan (a.val : Int) 0 = (a.val : Int) := by decide +kernel
theorem zall_k : ∀ n : Fin 6, ∀ k : Fin 5, zbt (zall (n.val : Int)) (k.val : Int) = decide (k.val < n.val) := by decide +kernel
theorem zall_k2 : ∀ n : Fin 6, ∀ a : Fin 32, (∀ k : Fin 5, zbt (a.val : Int) (k.val : Int) = true → k.val < n.val) → (a.val : Int) ≤ zall (n.val : Int) := by decide +kernel
theorem zan_b {a b k : Int} (ha : 0 ≤ a ∧ a < 32) (hb : 0 ≤ b ∧ b < 32) (hk : 0 ≤ k ∧ k < 5) : zbt (zan a b) k = (zbt a k && !zbt b k) := by
  obtain ⟨x, rfl⟩ := zJ_fin ha.1 32 ha.2
  obtain ⟨y, rfl⟩ := zJ_fin hb.1 32 hb.2
  obtain ⟨z, rfl⟩ := zJ_fin hk.1 5 hk.2
  exact zan_k2 x y z
theorem zex {a b : Int} (ha : 0 ≤ a ∧ a < 32) (hb : 0 ≤ b ∧ b < 32) (h : ∀ k, 0 ≤ k → k < 5 → zbt a k = zbt b k) : a = b := by
  obtain ⟨x, rfl⟩ := zJ_fin ha.1 32 ha.2
  obtain ⟨y, rfl⟩ := zJ_fin hb.1 32 hb.2
  rw [zex_k x y (fun k => h _ (by omega) (by omega))]
theorem zan_0 {a b : Int} (ha : 0 ≤ a ∧ a < 32) (hb : 0 ≤ b ∧ b < 32) (h : ∀ k, 0 ≤ k → k < 5 → zbt a k = true → zbt b k = true) : zan a b = 0 := by
  obtain ⟨x, rfl⟩ := zJ_fin ha.1 32 ha.2
  obtain ⟨y, rfl⟩ := zJ_fin hb.1 32 hb.2
  exact zan_k3 x y (fun k => h _ (by omega) (by omega))
theorem zbt_0 {k : Int} (hk : 0 ≤ k ∧ k < 5) : zbt 0 k = false := by
  obtain ⟨z, rfl⟩ := zJ_fin hk.1 5 hk.2
  exact zbt_k0 z
theorem zan_i {a b k : Int} (ha : 0 ≤ a ∧ a < 32) (hb : 0 ≤ b ∧ b < 32) (hk : 0 ≤ k ∧ k < 5) (h : zan a b = 0) (h' : zbt a k = true) : zbt b k = true := by
  have := zan_b ha hb hk
  rw [h, zbt_0 hk, h'] at this
  revert this
  cases zbt b k <;> decide
theorem zan_l {a b : Int} (ha : 0 ≤ a ∧ a < 32) (hb : 0 ≤ b ∧ b < 32) (h : zan a b = 0) : a ≤ b := by
  obtain ⟨x, rfl⟩ := zJ_fin ha.1 32 ha.2
  obtain ⟨y, rfl⟩ := zJ_fin hb.1 32 hb.2
  have := zan_k4 x y h
  omega
theorem zan_z {a : Int} (ha : 0 ≤ a ∧ a < 32) : zan a 0 = a := by
  obtain ⟨x, rfl⟩ := zJ_fin ha.1 32 ha.2
  exact zan_k0 x
theorem zan_w {a b : Int} (ha : 0 ≤ a ∧ a < 32) (hb : 0 ≤ b ∧ b < 32) : 0 ≤ zan a b ∧ zan a b < 32 := by
  have := zan_s ha.1 ha.2 hb.1 hb.2
  omega
/-- a value of an ordered division of a set into so many parts -/
def zDv (w : Int → Int) : Nat → Int → Int → Prop
  | 0, r, v => r = 0 ∧ v = 0
  | q + 1, r, v => ∃ i u, (0 ≤ i ∧ i < 32) ∧ zan i r = 0 ∧ zDv w q (zan r i) u ∧ v = w i + u
theorem zDv_n {w : Int → Int} (hw : ∀ r, 0 ≤ w r) : ∀ (q : Nat) (r v : Int), zDv w q r v → 0 ≤ v := by
  intro q
  induction q with
  | zero => rintro r v ⟨-, rfl⟩; exact Int.le_refl _
  | succ q ih =>
    rintro r v ⟨i, u, -, -, h, rfl⟩
    have := ih _ _ h
    have := hw i
    omega
theorem zDv_0 {w : Int → Int} (h0 : w 0 = 0) : ∀ q : Nat, zDv w q 0 0 := by
  intro q
  induction q with
  | zero => exact ⟨rfl, rfl⟩
  | succ q ih => exact ⟨0, 0, by omega, by decide, by rw [show zan 0 0 = 0 from by decide]; exact ih, by omega⟩
theorem zDv_s {w : Int → Int} (h0 : w 0 = 0) {q : Nat} {r v : Int} (hr : 0 ≤ r ∧ r < 32) (h : zDv w q r v) : zDv w (q + 1) r v := ⟨0, v, by omega, zan_0 (by omega) hr (fun k a b c => by rw [zbt_0 ⟨a, b⟩] at c; cases c), by rw [zan_z hr]; exact h, by omega⟩
theorem zDv_x {w : Int → Int} {k : Int} (hk : 0 ≤ k ∧ k < 5) : ∀ (q : Nat) (r v : Int), 0 ≤ r ∧ r < 32 → zDv w q r v → zbt r k = true → ∃ q' j u, q = q' + 1 ∧ (0 ≤ j ∧ j < 32) ∧ zan j r = 0 ∧ zbt j k = true ∧ zDv w q' (zan r j) u ∧ v = w j + u := by
  intro q
  induction q with
  | zero =>
    rintro r v hr ⟨rfl, -⟩ h
    rw [zbt_0 hk] at h
    cases h
  | succ q ih =>
    rintro r v hr ⟨i, u, hi, h1, h2, rfl⟩ h
    by_cases g : zbt i k = true
    · exact ⟨q, i, u, rfl, hi, h1, g, h2, rfl⟩
    · have hri := zan_w hr hi
      obtain ⟨q', j, u', e1, hj, e2, e3, e4, e5⟩ := ih (zan r i) u hri h2 (by rw [zan_b hr hi hk, h]; simp [g])
      subst e1
      have hrj := zan_w hr hj
      have hij : ∀ m, 0 ≤ m → m < 5 → zbt j m = true → zbt r m = true ∧ zbt i m = false := by
        intro m m0 m1 hm
        have := zan_i hj hri ⟨m0, m1⟩ e2 hm
        rw [zan_b hr hi ⟨m0, m1⟩] at this
        revert this
        cases zbt r m <;> cases zbt i m <;> decide
      refine ⟨q' + 1, j, w i + u', rfl, hj, zan_0 hj hr (fun m m0 m1 hm => (hij m m0 m1 hm).1), e3, ⟨i, u', hi, zan_0 hi hrj (fun m m0 m1 hm => ?_), ?_, rfl⟩, by omega⟩
      · rw [zan_b hr hj ⟨m0, m1⟩, zan_i hi hr ⟨m0, m1⟩ h1 hm]
        by_cases gj : zbt j m = true
        · rw [(hij m m0 m1 gj).2] at hm
          cases hm
        · simp [gj]
      · have : zan (zan r j) i = zan (zan r i) j := zex (zan_w hrj hi) (zan_w hri hj) (fun m m0 m1 => by
          rw [zan_b hrj hi ⟨m0, m1⟩, zan_b hr hj ⟨m0, m1⟩, zan_b hri hj ⟨m0, m1⟩, zan_b hr hi ⟨m0, m1⟩]
          cases zbt r m <;> cases zbt i m <;> cases zbt j m <;> rfl)
        rw [this]
        exact e4
/-- the least value, or a thousand million where there is none -/
def zIs (w : Int → Int) (q : Nat) (r R : Int) : Prop := (∀ v, zDv w q r v → R ≤ v) ∧ (R = 1000000000 ∨ zDv w q r R) ∧ R ≤ 1000000000
theorem zIs_u {w : Int → Int} {q : Nat} {r R R' : Int} (h : zIs w q r R) (h' : zIs w q r R') : R = R' := by
  obtain ⟨a, b, c⟩ := h
  obtain ⟨a', b', c'⟩ := h'
  have g1 : R ≤ R' := by
    rcases b' with b' | b'
    · omega
    · exact a _ b'
  have g2 : R' ≤ R := by
    rcases b with b | b
    · omega
    · exact a' _ b
  omega
theorem zll_le {sub w : Int → Int} {rest low : Int} (hs : ∀ r, 0 ≤ sub r) (hw : ∀ r, 0 ≤ w r) {j : Int} (h1 : zan j rest = 0) (h2 : ¬zad j low = 0) : ∀ (k : Nat) (i t : Int), 0 ≤ t → i ≤ j → j < i + k → zll sub w rest low k i t ≤ w j + sub (zan rest j) := by
  intro k
  induction k with
  | zero => intro i t h a b; omega
  | succ k ih =>
    intro i t h a b
    have h3 := hs (zan rest i)
    have h4 := hw i
    show zll sub w rest low k (i + 1) _ ≤ _
    by_cases g : i = j
    · subst g
      rw [if_pos ⟨h1, h2⟩]
      have := (zll_r (rest := rest) (low := low) hs hw k (i + 1) (min t (w i + sub (zan rest i))) (by omega)).2
      omega
    · exact ih _ _ (by split <;> omega) (by omega) (by omega)
theorem zll_at {sub w : Int → Int} {rest low : Int} : ∀ (k : Nat) (i t : Int), zll sub w rest low k i t = t ∨ ∃ j, i ≤ j ∧ j < i + k ∧ zan j rest = 0 ∧ zll sub w rest low k i t = w j + sub (zan rest j) := by
  intro k
  induction k with
  | zero => intro i t; exact .inl rfl
  | succ k ih =>
    intro i t
    show zll sub w rest low k (i + 1) _ = t ∨ ∃ j, i ≤ j ∧ j < i + ((k + 1 : Nat) : Int) ∧ zan j rest = 0 ∧ zll sub w rest low k (i + 1) _ = _
    rcases ih (i + 1) (if zan i rest = 0 ∧ ¬zad i low = 0 then min t (w i + sub (zan rest i)) else t) with h | ⟨j, a, b, c, d⟩
    · rw [h]
      by_cases g : zan i rest = 0 ∧ ¬zad i low = 0
      · rw [if_pos g]
        by_cases g2 : t ≤ w i + sub (zan rest i)
        · exact .inl (by omega)
        · exact .inr ⟨i, by omega, by omega, g.1, by omega⟩
      · rw [if_neg g]
        exact .inl rfl
    · exact .inr ⟨j, by omega, by omega, c, d⟩
theorem zlr_is {w : Int → Int} (hw : ∀ r, 0 ≤ w r) (h0 : w 0 = 0) : ∀ (d q : Nat) (r : Int), 0 ≤ r ∧ r < 32 → q < d → zIs w q r (zlr w d r q) := by
  intro d
  induction d with
  | zero => intro q r hr hq; omega
  | succ d ih =>
    intro q r hr hq
    unfold zlr
    by_cases g : r = 0
    · rw [if_pos g]
      subst g
      exact ⟨fun v hv => zDv_n hw _ _ _ hv, .inr (zDv_0 h0 q), by omega⟩
    · rw [if_neg g]
      by_cases g1 : (q : Int) < 1
      · rw [if_pos g1]
        have : q = 0 := by omega
        subst this
        exact ⟨fun v hv => absurd hv.1 g, .inl rfl, Int.le_refl _⟩
      · rw [if_neg g1]
        obtain ⟨q', rfl⟩ : ∃ q', q = q' + 1 := ⟨q - 1, by omega⟩
        have eq : ((q' + 1 : Nat) : Int) - 1 = (q' : Int) := by omega
        rw [eq]
        have hb := zlow_s (a := r) (by omega) hr.2
        have hs : ∀ r, 0 ≤ zlr w d r q' := fun r => (zlr_r hw d r q').1
        have hle := (zll_r (sub := fun r => zlr w d r q') (rest := r) (low := zad r (-r)) hs hw (r + 1 - zad r (-r)).toNat (zad r (-r)) 1000000000 (by decide)).2
        refine ⟨fun v hv => ?_, ?_, hle⟩
        · obtain ⟨x, rfl⟩ := zJ_fin hr.1 32 hr.2
          obtain ⟨k, k1, k2⟩ := zlow_k2 x (by omega)
          obtain ⟨q2, j, u, e1, hj, e2, e3, e4, e5⟩ := zDv_x (k := (k.val : Int)) (by omega) _ _ _ hr hv k1
          have : q2 = q' := by omega
          subst this
          obtain ⟨y, rfl⟩ := zJ_fin hj.1 32 hj.2
          obtain ⟨k3, k4⟩ := k2 y e3
          have hl := zan_l hj hr e2
          have h1 := zll_le (sub := fun r => zlr w d r q2) hs hw e2 k3 ((x.val : Int) + 1 - zad (x.val : Int) (-(x.val : Int))).toNat (zad (x.val : Int) (-(x.val : Int))) 1000000000 (by decide) k4 (by omega)
          have h2 := (ih q2 _ (zan_w hr hj) (by omega)).1 _ e4
          have h3 : zlr w d (zan (x.val : Int) (y.val : Int)) q2 ≤ u := h2
          omega
        · rcases zll_at (sub := fun r => zlr w d r q') (w := w) (rest := r) (low := zad r (-r)) (r + 1 - zad r (-r)).toNat (zad r (-r)) 1000000000 with h | ⟨j, a, b, c, e⟩
          · exact .inl h
          · have hj : 0 ≤ j ∧ j < 32 := by omega
            rcases (ih q' (zan r j) (zan_w hr hj) (by omega)).2.1 with h | h
            · have := hw j
              exact .inl (by omega)
            · refine .inr ?_
              rw [e]
              exact ⟨j, _, hj, c, h, rfl⟩
theorem zlw_le {w l : Int → Int} {st : Int} (hw : ∀ r, 0 ≤ w r) (hl : ∀ r, 0 ≤ l r) {j : Int} (h1 : zan j st = 0) : ∀ (k : Nat) (i t : Int), 0 ≤ t → i ≤ j → j < i + k → zlw w l st k i t ≤ w j + l (zan st j) := by
  intro k
  induction k with
  | zero => intro i t h a b; omega
  | succ k ih =>
    intro i t h a b
    have h3 := hl (zan st i)
    have h4 := hw i
    show zlw w l st k (i + 1) _ ≤ _
    by_cases g : i = j
    · subst g
      rw [if_pos h1]
      have := (zlw_r (st := st) hw hl k (i + 1) (min t (w i + l (zan st i))) (by omega)).2
      omega
    · exact ih _ _ (by split <;> omega) (by omega) (by omega)
theorem zlw_at {w l : Int → Int} {st : Int} : ∀ (k : Nat) (i t : Int), zlw w l st k i t = t ∨ ∃ j, i ≤ j ∧ j < i + k ∧ zan j st = 0 ∧ zlw w l st k i t = w j + l (zan st j) := by
  intro k
  induction k with
  | zero => intro i t; exact .inl rfl
  | succ k ih =>
    intro i t
    show zlw w l st k (i + 1) _ = t ∨ ∃ j, i ≤ j ∧ j < i + ((k + 1 : Nat) : Int) ∧ zan j st = 0 ∧ zlw w l st k (i + 1) _ = _
    rcases ih (i + 1) (if zan i st = 0 then min t (w i + l (zan st i)) else t) with h | ⟨j, a, b, c, d⟩
    · rw [h]
      by_cases g : zan i st = 0
      · rw [if_pos g]
        by_cases g2 : t ≤ w i + l (zan st i)
        · exact .inl (by omega)
        · exact .inr ⟨i, by omega, by omega, g, by omega⟩
      · rw [if_neg g]
        exact .inl rfl
    · exact .inr ⟨j, by omega, by omega, c, d⟩
theorem zlw_c {w l l' : Int → Int} {st : Int} (hs : 0 ≤ st ∧ st < 32) (h : ∀ j, 0 ≤ j → j ≤ st → l j = l' j) : ∀ (k : Nat) (i t : Int), 0 ≤ i → i + k ≤ 32 → zlw w l st k i t = zlw w l' st k i t := by
  intro k
  induction k with
  | zero => intro i t a b; rfl
  | succ k ih =>
    intro i t a b
    have h1 := zan_s hs.1 hs.2 a (show i < 32 by omega)
    show zlw w l st k (i + 1) _ = zlw w l' st k (i + 1) _
    rw [ih _ _ (by omega) (by omega), h _ h1.1 h1.2]
theorem zlw_is {w l : Int → Int} {q : Nat} {r : Int} (hw : ∀ r, 0 ≤ w r) (h0 : w 0 = 0) (hl : ∀ r, 0 ≤ l r) (hr : 0 ≤ r ∧ r < 32) (h : ∀ j, 0 ≤ j → j ≤ r → zIs w q j (l j)) : zIs w (q + 1) r (zlw w l r r.toNat 1 (l r)) := by
  have hle := (zlw_r (st := r) hw hl r.toNat 1 (l r) (hl r)).2
  have hr0 := h r hr.1 (Int.le_refl _)
  refine ⟨?_, ?_, Int.le_trans hle hr0.2.2⟩
  · rintro v ⟨i, u, hi, e1, e2, rfl⟩
    have hl1 := zan_l hi hr e1
    have h2 := zan_s hr.1 hr.2 hi.1 hi.2
    have h3 := (h _ h2.1 h2.2).1 _ e2
    by_cases g : i = 0
    · subst g
      rw [zan_z hr] at h3
      omega
    · have := zlw_le hw hl e1 r.toNat 1 (l r) (hl r) (by omega) (by omega)
      omega
  · rcases zlw_at (w := w) (l := l) (st := r) r.toNat 1 (l r) with g | ⟨j, a, b, c, d⟩
    · rw [g]
      rcases hr0.2.1 with g2 | g2
      · exact .inl g2
      · exact .inr (zDv_s h0 hr g2)
    · have h2 := zan_s hr.1 hr.2 (show 0 ≤ j by omega) (by omega)
      have hr1 := hr0.2.2
      rcases (h _ h2.1 h2.2).2.1 with g2 | g2
      · have := hw j
        exact .inl (by omega)
      · refine .inr ?_
        rw [d]
        exact ⟨j, _, by omega, c, g2, rfl⟩
theorem zaf_v : ∀ (k : Nat) (X : zX) (r : Int), k ≤ 32 → 0 ≤ r → zaf k X 504 r = if r < k then zlw (X 503) (X 504) r r.toNat 1 (X 504 r) else X 504 r := by
  intro k
  induction k with
  | zero => intro X r hk h; rw [if_neg (by omega)]; rfl
  | succ k ih =>
    intro X r hk h
    show zaf k (wu X 504 k (zlw (X 503) (X 504) k k 1 (X 504 k))) 504 r = _
    rw [ih _ _ (by omega) h]
    have e3 : wu X 504 k (zlw (X 503) (X 504) k k 1 (X 504 k)) 503 = X 503 := funext fun j => wu_ne (by decide)
    by_cases g : r < k
    · rw [if_pos g, if_pos (by omega), e3, wu_ni (show r ≠ k by omega)]
      refine zlw_c ⟨h, by omega⟩ (fun j a b => ?_) _ _ _ (by decide) (by omega)
      exact wu_ni (show j ≠ k by omega)
    · rw [if_neg g]
      by_cases g2 : r = k
      · rw [if_pos (by omega), g2, wu_eq]
        rfl
      · rw [if_neg (by omega)]
        exact wu_ni g2
theorem zafs_is {w : Int → Int} {k : Nat} (hk : k ≤ 32) (hw : ∀ r, 0 ≤ w r) (h0 : w 0 = 0) : ∀ (c q : Nat) (X : zX), X 503 = w → (∀ r, 0 ≤ X 504 r ∧ X 504 r ≤ 1000000000) → (∀ r : Int, 0 ≤ r → r < k → zIs w q r (X 504 r)) → ∀ r : Int, 0 ≤ r → r < k → zIs w (q + c) r (zafs k c X 504 r) := by
  intro c
  induction c with
  | zero => intro q X h1 h2 h3; exact h3
  | succ c ih =>
    intro q X h1 h2 h3 r a b
    have e : zafs k (c + 1) X = zafs k c (zaf k X) := rfl
    rw [e, show q + (c + 1) = (q + 1) + c by omega]
    refine ih (q + 1) (zaf k X) ?_ (zaf_r _ _ (fun r => by rw [h1]; exact hw r) h2) (fun r a b => ?_) r a b
    · rw [← h1]
      exact funext fun j => zaf_f _ _ _ _ (by decide)
    · rw [zaf_v _ _ _ hk a, if_pos b, h1]
      exact zlw_is hw h0 (fun r => (h2 r).1) ⟨a, by omega⟩ (fun j a b => h3 j a (by omega))
theorem zt0_is {w : Int → Int} {X : zX} {r : Int} (hr : 0 ≤ r ∧ r < 32) : zIs w 0 r (zt0 X 504 r) := by
  unfold zt0
  by_cases g : r = 0
  · subst g
    rw [wu_eq]
    exact ⟨fun v hv => by rw [hv.2]; exact Int.le_refl _, .inr ⟨rfl, rfl⟩, by decide⟩
  · rw [wu_ni g, if_pos ⟨rfl, hr⟩]
    exact ⟨fun v hv => absurd hv.1 g, .inl rfl, Int.le_refl _⟩
/-- a set by its members -/
def zmS (b : Int → Bool) : Int := (if b 0 = true then 1 else 0) + (if b 1 = true then 2 else 0) + (if b 2 = true then 4 else 0) + (if b 3 = true then 8 else 0) + (if b 4 = true then 16 else 0)
theorem zmS_r (b : Int → Bool) : 0 ≤ zmS b ∧ zmS b < 32 := by
  unfold zmS
  generalize b 0 = x0
  generalize b 1 = x1
  generalize b 2 = x2
  generalize b 3 = x3
  generalize b 4 = x4
  revert x0 x1 x2 x3 x4
  decide
theorem zmS_k : ∀ x0 x1 x2 x3 x4 : Bool, zbt ((if x0 = true then 1 else 0) + (if x1 = true then 2 else 0) + (if x2 = true then 4 else 0) + (if x3 = true then 8 else 0) + (if x4 = true then 16 else 0)) 0 = x0 ∧ zbt ((if x0 = true then 1 else 0) + (if x1 = true then 2 else 0) + (if x2 = true then 4 else 0) + (if x3 = true then 8 else 0) + (if x4 = true then 16 else 0)) 1 = x1 ∧ zbt ((if x0 = true then 1 else 0) + (if x1 = true then 2 else 0) + (if x2 = true then 4 else 0) + (if x3 = true then 8 else 0) + (if x4 = true then 16 else 0)) 2 = x2 ∧ zbt ((if x0 = true then 1 else 0) + (if x1 = true then 2 else 0) + (if x2 = true then 4 else 0) + (if x3 = true then 8 else 0) + (if x4 = true then 16 else 0)) 3 = x3 ∧ zbt ((if x0 = true then 1 else 0) + (if x1 = true then 2 else 0) + (if x2 = true then 4 else 0) + (if x3 = true then 8 else 0) + (if x4 = true then 16 else 0)) 4 = x4 := by decide +kernel
theorem zmS_b {b : Int → Bool} {k : Int} (hk : 0 ≤ k ∧ k < 5) : zbt (zmS b) k = b k := by
  have h := zmS_k (b 0) (b 1) (b 2) (b 3) (b 4)
  have : k = 0 ∨ k = 1 ∨ k = 2 ∨ k = 3 ∨ k = 4 := by omega
  rcases this with rfl | rfl | rfl | rfl | rfl
  · exact h.1
  · exact h.2.1
  · exact h.2.2.1
  · exact h.2.2.2.1
  · exact h.2.2.2.2
/-- the part of a set that a family takes -/
def zprt (r : Int) (d : Int → Int) (f : Int) : Int := zmS (fun k => zbt r k && decide (d k = f))
theorem zprt_b {r f k : Int} {d : Int → Int} (hk : 0 ≤ k ∧ k < 5) : zbt (zprt r d f) k = (zbt r k && decide (d k = f)) := zmS_b hk
theorem zprt_r {r f : Int} {d : Int → Int} : 0 ≤ zprt r d f ∧ zprt r d f < 32 := zmS_r _
theorem zprt_T {w : Int → Int} : ∀ (q : Nat) (m r : Int) (d : Int → Int), 0 ≤ r ∧ r < 32 → (∀ k, 0 ≤ k → k < 5 → zbt r k = true → m ≤ d k ∧ d k < m + q) → zDv w q r (zsm (fun f => w (zprt r d f)) m q) := by
  intro q
  induction q with
  | zero =>
    intro m r d hr h
    refine ⟨zex hr (by omega) (fun k a b => ?_), rfl⟩
    rw [zbt_0 ⟨a, b⟩]
    by_cases g : zbt r k = true
    · have := h k a b g
      omega
    · simp [g]
  | succ q ih =>
    intro m r d hr h
    have hi := zprt_r (r := r) (d := d) (f := m)
    have hri := zan_w hr hi
    have hb : ∀ k, 0 ≤ k → k < 5 → zbt (zan r (zprt r d m)) k = (zbt r k && !decide (d k = m)) := by
      intro k a b
      rw [zan_b hr hi ⟨a, b⟩, zprt_b ⟨a, b⟩]
      cases zbt r k <;> cases decide (d k = m) <;> rfl
    have hh := ih (m + 1) (zan r (zprt r d m)) d hri (fun k a b c => by
      rw [hb k a b, Bool.and_eq_true, Bool.not_eq_true', decide_eq_false_iff_not] at c
      have := h k a b c.1
      omega)
    refine ⟨zprt r d m, _, hi, zan_0 hi hr (fun k a b c => ?_), hh, ?_⟩
    · rw [zprt_b ⟨a, b⟩, Bool.and_eq_true] at c
      exact c.1
    · show w (zprt r d m) + zsm (fun f => w (zprt r d f)) (m + 1) q = _
      congr 1
      refine zsm_congr _ _ (fun f f0 f1 => ?_)
      show w (zprt r d f) = w (zprt (zan r (zprt r d m)) d f)
      congr 1
      refine zex zprt_r zprt_r (fun k a b => ?_)
      rw [zprt_b ⟨a, b⟩, zprt_b ⟨a, b⟩, hb k a b]
      by_cases g : d k = f
      · have : ¬d k = m := by omega
        simp [g]
        intro _
        omega
      · simp [g]
theorem zDv_pS {w : Int → Int} : ∀ (q : Nat) (m r v : Int), 0 ≤ r ∧ r < 32 → zDv w q r v → ∃ d : Int → Int, (∀ k, 0 ≤ k → k < 5 → zbt r k = true → m ≤ d k ∧ d k < m + q) ∧ v = zsm (fun f => w (zprt r d f)) m q := by
  intro q
  induction q with
  | zero =>
    rintro m r v hr ⟨rfl, rfl⟩
    refine ⟨fun _ => 0, fun k a b c => ?_, rfl⟩
    rw [zbt_0 ⟨a, b⟩] at c
    cases c
  | succ q ih =>
    rintro m r v hr ⟨i, u, hi, e1, e2, rfl⟩
    have hri := zan_w hr hi
    obtain ⟨d, d1, d2⟩ := ih (m + 1) (zan r i) u hri e2
    have hb : ∀ k, 0 ≤ k → k < 5 → zbt (zan r i) k = (zbt r k && !zbt i k) := fun k a b => zan_b hr hi ⟨a, b⟩
    refine ⟨fun k => if zbt i k = true then m else d k, fun k a b c => ?_, ?_⟩
    · by_cases g : zbt i k = true
      · simp only [g, if_true]
        omega
      · simp only [g]
        have := d1 k a b (by rw [hb k a b, c]; simp [g])
        simp only [if_false, Bool.false_eq_true]
        omega
    · show _ = w (zprt r (fun k => if zbt i k = true then m else d k) m) + zsm (fun f => w (zprt r (fun k => if zbt i k = true then m else d k) f)) (m + 1) q
      rw [d2]
      congr 1
      · congr 1
        refine zex hi zprt_r (fun k a b => ?_)
        rw [zprt_b ⟨a, b⟩]
        by_cases g : zbt i k = true
        · rw [g, zan_i hi hr ⟨a, b⟩ e1 g]
          simp
        · by_cases g2 : zbt r k = true
          · have := d1 k a b (by rw [hb k a b, g2]; simp [g])
            have h3 : ¬d k = m := by omega
            simp [g, g2, h3]
          · simp [g, g2]
      · refine zsm_congr _ _ (fun f f0 f1 => ?_)
        show w (zprt (zan r i) d f) = w (zprt r (fun k => if zbt i k = true then m else d k) f)
        congr 1
        refine zex zprt_r zprt_r (fun k a b => ?_)
        rw [zprt_b ⟨a, b⟩, zprt_b ⟨a, b⟩, hb k a b]
        by_cases g : zbt i k = true
        · have : ¬m = f := by omega
          simp [g, this]
        · simp [g]
