/-! THE TWO SIDES, 86: the cheapest ways by both costs -/
def zop (X : zX) (i : Int) : Prop := ¬zJ (X 1004 i) ≤ zJ 0
/-- two nodes by a bundle -/
def zen (X : zX) (i u v : Int) : Prop := (X 1001 i = u ∧ X 1002 i = v) ∨ (X 1002 i = u ∧ X 1001 i = v)
def zwk (X : zX) (nb goal : Int) : Nat → Int → Int → Prop
  | 0, v, x => v = goal ∧ x = 0
  | m + 1, v, x => ∃ i u y, (0 ≤ i ∧ i < nb) ∧ zop X i ∧ zen X i u v ∧ zwk X nb goal m u y ∧ x = y + (100 * X 1003 i + 1)
def zrk (c : Int → Int) (x : Int) : Int := zsm (fun u => zB (c u < x)) 0 8
def zinv (X : zX) (nb goal : Int) (c : Int → Int) : Prop := ∀ v, 0 ≤ v → v < 8 → c v = 1000000000 ∨ (0 ≤ c v ∧ c v % 100 ≤ zrk c (c v) ∧ c v / 100 ≤ 999 * (c v % 100) ∧ zwk X nb goal (c v % 100).toNat v (c v))
def zph (x : Int) : Int := if x = 1000000000 then 1000000 else 16 * (x / 100) + x % 100
def zsim (A B : Int → Int) : Prop := ∀ v, 0 ≤ v → v < 8 → A v = zph (B v)
theorem zsm_8 (f : Int → Int) : zsm f 0 8 = f 0 + (f 1 + (f 2 + (f 3 + (f 4 + (f 5 + (f 6 + (f 7 + 0))))))) := rfl
theorem zsm_le {f g : Int → Int} (h : ∀ j, 0 ≤ j → j < 8 → f j ≤ g j) : zsm f 0 8 ≤ zsm g 0 8 := by
  rw [zsm_8, zsm_8]
  have h0 := h 0 (by decide) (by decide)
  have h1 := h 1 (by decide) (by decide)
  have h2 := h 2 (by decide) (by decide)
  have h3 := h 3 (by decide) (by decide)
  have h4 := h 4 (by decide) (by decide)
  have h5 := h 5 (by decide) (by decide)
  have h6 := h 6 (by decide) (by decide)
  have h7 := h 7 (by decide) (by decide)
  omega
theorem zsm_lt {f g : Int → Int} {u : Int} (h : ∀ j, 0 ≤ j → j < 8 → f j ≤ g j) (hu : 0 ≤ u ∧ u < 8) (h1 : f u + 1 ≤ g u) : zsm f 0 8 + 1 ≤ zsm g 0 8 := by
  have e := zsm_le (f := fun j => if j = u then f j + 1 else f j) (g := g) (fun j j0 j1 => by
    show (if j = u then f j + 1 else f j) ≤ g j
    by_cases hj : j = u
    · rw [if_pos hj, hj]; exact h1
    · rw [if_neg hj]; exact h j j0 j1)
  rw [zsm_8] at e
  rw [zsm_8]
  have hc : u = 0 ∨ u = 1 ∨ u = 2 ∨ u = 3 ∨ u = 4 ∨ u = 5 ∨ u = 6 ∨ u = 7 := by omega
  rcases hc with rfl | rfl | rfl | rfl | rfl | rfl | rfl | rfl <;> simp only [if_true, show ((0 : Int) = 1) = False from eq_false (by decide), show ((0 : Int) = 2) = False from eq_false (by decide), show ((0 : Int) = 3) = False from eq_false (by decide), Int.reduceEq, if_false] at e <;> omega
theorem zrk_7 {c : Int → Int} {v : Int} (hv : 0 ≤ v ∧ v < 8) : zrk c (c v) ≤ 7 := by
  have e := zsm_lt (f := fun u => zB (c u < c v)) (g := fun _ => 1) (u := v) (fun j _ _ => (zB_r _).2) hv (by
    show zB (c v < c v) + 1 ≤ 1
    rw [zB_0 (by omega)]
    decide)
  have : zsm (fun _ => (1 : Int)) 0 8 = 8 := rfl
  unfold zrk
  omega
theorem zst1_v {e o k j : Int} {c : Int → Int} : zst1 e o k c j = if j = e then min (c e) (k + c o) else c j := rfl
theorem zst2_1 {e o k : Int} {c : Int → Int} (hk : 0 ≤ k) (h : e ≠ o) : zst2 e o k c = zst1 o e k (zst1 e o k c) := by
  funext j
  rw [zst1_v, zst1_v, zst1_v, zst1_v]
  unfold zst2
  by_cases h1 : j = o
  · subst h1
    rw [if_neg (Ne.symm h), if_pos rfl, if_pos rfl, if_neg (Ne.symm h), if_pos rfl]
    omega
  · rw [if_neg h1, if_neg h1]
section ZI
variable {X : zX} {nb goal : Int} {A B : Int → Int}
theorem zinv_1 (h : zinv X nb goal B) {i u v : Int} (hi : 0 ≤ i ∧ i < nb) (ho : zop X i) (he : zen X i u v) (hl : 1 ≤ X 1003 i ∧ X 1003 i ≤ 999) (hu : 0 ≤ u ∧ u < 8) (hv : 0 ≤ v ∧ v < 8) (huv : u ≠ v) (hb : ∀ j, 0 ≤ B j ∧ B j ≤ 1000000000) : zinv X nb goal (zst1 v u (100 * X 1003 i + 1) B) := by
  by_cases hc : B v ≤ 100 * X 1003 i + 1 + B u
  · have : zst1 v u (100 * X 1003 i + 1) B = B := by
      funext j
      rw [zst1_v]
      by_cases hj : j = v
      · rw [if_pos hj, hj]
        omega
      · rw [if_neg hj]
    rw [this]
    exact h
  · have hbv := hb v
    have hbu := hb u
    have hfu := (h u hu.1 hu.2).resolve_left (by omega)
    obtain ⟨f1, f2, f3, f4⟩ := hfu
    have hru := zrk_7 (c := B) hu
    intro w w0 w1
    rw [zst1_v]
    by_cases hw : w = v
    · subst hw
      rw [if_pos rfl, show min (B w) (100 * X 1003 i + 1 + B u) = 100 * X 1003 i + 1 + B u by omega]
      have hm : (100 * X 1003 i + 1 + B u) % 100 = B u % 100 + 1 := by omega
      have hd : (100 * X 1003 i + 1 + B u) / 100 = X 1003 i + B u / 100 := by omega
      refine .inr ⟨by omega, ?_, by omega, ?_⟩
      · rw [hm]
        have := zsm_lt (f := fun j => zB (B j < B u)) (g := fun j => zB (zst1 w u (100 * X 1003 i + 1) B j < 100 * X 1003 i + 1 + B u)) (u := u) (fun j j0 j1 => by
          show zB (B j < B u) ≤ zB (zst1 w u (100 * X 1003 i + 1) B j < 100 * X 1003 i + 1 + B u)
          rw [zst1_v]
          by_cases hj : j = w
          · rw [hj, zB_0 (by omega)]
            exact (zB_r _).1
          · rw [if_neg hj]
            by_cases hlt : B j < B u
            · rw [zB_1 hlt, zB_1 (by omega)]
              exact Int.le_refl _
            · rw [zB_0 hlt]
              exact (zB_r _).1) hu (by
          show zB (B u < B u) + 1 ≤ zB (zst1 w u (100 * X 1003 i + 1) B u < 100 * X 1003 i + 1 + B u)
          rw [zst1_v, if_neg huv, zB_0 (by omega), zB_1 (by omega)]
          decide)
        unfold zrk at f2 ⊢
        omega
      · rw [hm, show (B u % 100 + 1).toNat = (B u % 100).toNat + 1 by omega]
        exact ⟨i, u, B u, hi, ho, he, f4, by omega⟩
    · rw [if_neg hw]
      rcases h w w0 w1 with g | ⟨g1, g2, g3, g4⟩
      · exact .inl g
      · refine .inr ⟨g1, ?_, g3, g4⟩
        have := zsm_le (f := fun j => zB (B j < B w)) (g := fun j => zB (zst1 v u (100 * X 1003 i + 1) B j < B w)) (fun j j0 j1 => by
          show zB (B j < B w) ≤ zB (zst1 v u (100 * X 1003 i + 1) B j < B w)
          rw [zst1_v]
          by_cases hlt : B j < B w
          · rw [zB_1 hlt, zB_1 (by
              by_cases hj : j = v
              · rw [if_pos hj]
                subst hj
                omega
              · rw [if_neg hj]
                exact hlt)]
            exact Int.le_refl _
          · rw [zB_0 hlt]
            exact (zB_r _).1)
        unfold zrk at g2 ⊢
        omega
theorem zsim_1 (h : zinv X nb goal B) (hs : zsim A B) {l u v : Int} (hl : 1 ≤ l ∧ l ≤ 999) (hu : 0 ≤ u ∧ u < 8) (hv : 0 ≤ v ∧ v < 8) : zsim (zst1 v u (l * 16 + 1) A) (zst1 v u (100 * l + 1) B) := by
  intro w w0 w1
  rw [zst1_v, zst1_v]
  by_cases hw : w = v
  · rw [if_pos hw, if_pos hw]
    have su := hs u hu.1 hu.2
    have sv := hs v hv.1 hv.2
    have ru := zrk_7 (c := B) hu
    have rv := zrk_7 (c := B) hv
    have iu := h u hu.1 hu.2
    have iv := h v hv.1 hv.2
    unfold zph at su sv ⊢
    have iu' : B u = 1000000000 ∨ (0 ≤ B u ∧ B u % 100 ≤ 7 ∧ B u / 100 ≤ 6993) := iu.imp id (fun g => ⟨g.1, by omega, by omega⟩)
    have iv' : B v = 1000000000 ∨ (0 ≤ B v ∧ B v % 100 ≤ 7 ∧ B v / 100 ≤ 6993) := iv.imp id (fun g => ⟨g.1, by omega, by omega⟩)
    clear iu iv ru rv hs h
    generalize B u = bu at su iu' ⊢
    generalize B v = bv at sv iv' ⊢
    generalize A u = au at su ⊢
    generalize A v = av at sv ⊢
    by_cases q1 : bu = 1000000000
    · rw [if_pos q1] at su
      by_cases q2 : bv = 1000000000
      · rw [if_pos q2] at sv
        rw [if_pos (by omega)]
        omega
      · rw [if_neg q2] at sv
        have := iv'.resolve_left q2
        rw [show min bv (100 * l + 1 + bu) = bv by omega, if_neg q2]
        omega
    · rw [if_neg q1] at su
      have e1 := iu'.resolve_left q1
      by_cases q2 : bv = 1000000000
      · rw [if_pos q2] at sv
        rw [show min bv (100 * l + 1 + bu) = 100 * l + 1 + bu by omega, if_neg (by omega)]
        omega
      · rw [if_neg q2] at sv
        have e2 := iv'.resolve_left q2
        by_cases q3 : bv ≤ 100 * l + 1 + bu
        · rw [show min bv (100 * l + 1 + bu) = bv by omega, if_neg q2]
          omega
        · rw [show min bv (100 * l + 1 + bu) = 100 * l + 1 + bu by omega, if_neg (by omega)]
          omega
  · rw [if_neg hw, if_neg hw]
    exact hs w w0 w1
end ZI
