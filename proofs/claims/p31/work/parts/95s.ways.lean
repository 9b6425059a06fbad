/-! THE TWO SIDES, 88: one way on both sides -/
theorem zlwm_n {X : zX} {c : Int → Int} {v : Int} : ∀ (m : Nat) (f : Int), (∀ i, 0 ≤ i → i < (m : Int) → ¬zonm X c v i) → zlwm X c v m f = f := by
  intro m
  induction m with
  | zero => intro f _; rfl
  | succ m ih =>
    intro f h
    show zlwm X c v m (if zonm X c v m then (m : Int) else f) = f
    rw [if_neg (h m (by omega) (by omega))]
    exact ih f (fun i i0 i1 => h i i0 (by omega))
theorem zlwm_l {X : zX} {c : Int → Int} {v i : Int} (h0 : 0 ≤ i) (hi : zonm X c v i) (hl : ∀ j, 0 ≤ j → j < i → ¬zonm X c v j) : ∀ (m : Nat) (f : Int), i < (m : Int) → zlwm X c v m f = i := by
  intro m
  induction m with
  | zero => intro f h; omega
  | succ m ih =>
    intro f h
    show zlwm X c v m (if zonm X c v m then (m : Int) else f) = i
    by_cases hm : i = m
    · subst hm
      rw [if_pos hi]
      exact zlwm_n m _ hl
    · exact ih _ (by omega)
theorem zleast {P : Int → Prop} : ∀ k : Nat, (∃ i, 0 ≤ i ∧ i < (k : Int) ∧ P i) → ∃ i, 0 ≤ i ∧ i < (k : Int) ∧ P i ∧ ∀ j, 0 ≤ j → j < i → ¬P j := by
  intro k
  induction k with
  | zero =>
    rintro ⟨i, h0, h1, _⟩
    omega
  | succ k ih =>
    intro h
    by_cases hk : ∃ i, 0 ≤ i ∧ i < (k : Int) ∧ P i
    · obtain ⟨i, a, b, c, d⟩ := ih hk
      exact ⟨i, a, by omega, c, d⟩
    · obtain ⟨i, a, b, c⟩ := h
      refine ⟨i, a, b, c, fun j j0 j1 hj => hk ⟨j, j0, by omega, hj⟩⟩
section ZI
variable {X : zX} {nb goal : Int} {A B : Int → Int}
theorem zen_ac {i u v : Int} (he : zen X i u v) (hne : X 1001 i ≠ X 1002 i) : zac (X 1001 i) (X 1002 i) v = u := by
  unfold zac
  rcases he with ⟨h1, h2⟩ | ⟨h1, h2⟩
  · subst h1
    subst h2
    rw [if_neg (Ne.symm hne), if_pos rfl]
  · subst h1
    subst h2
    rw [if_pos rfl]
theorem zfin (h : zinv X nb goal B) {v : Int} (hv : 0 ≤ v ∧ v < 8) (hf : B v < 1000000000) : (0 ≤ B v ∧ B v % 100 ≤ 7 ∧ B v / 100 ≤ 6993) ∧ zwk X nb goal (B v % 100).toNat v (B v) := by
  have hr := zrk_7 (c := B) hv
  obtain ⟨g1, g2, g3, g4⟩ := (h v hv.1 hv.2).resolve_left (by omega)
  exact ⟨⟨g1, by omega, by omega⟩, g4⟩
/-- a bundle goes on from a node on both sides alike -/
theorem zon_e (hb : zbs X nb) (hJ : zJn X nb goal A B) {v i : Int} (hi : 0 ≤ i ∧ i < nb) (hv : 0 ≤ v ∧ v < 8) (hf : B v < 1000000000) : zon X A v i ↔ zonm X B v i := by
  obtain ⟨⟨e1, e2, e3, e4⟩, b1, b2, b3, b4, b5, b6, b7⟩ := hb i hi.1 hi.2
  obtain ⟨h1, h2, h3⟩ := hJ
  unfold zon zonm
  rw [← e1, ← e2, ← e3, ← e4]
  by_cases hz : zac (X 1001 i) (X 1002 i) v = -1
  · exact ⟨fun g => absurd hz g.2.1, fun g => absurd hz g.1⟩
  · have hu : 0 ≤ zac (X 1001 i) (X 1002 i) v ∧ zac (X 1001 i) (X 1002 i) v < 8 := by
      rcases @zac_c (X 1001 i) (X 1002 i) v with g | ⟨g, g'⟩ | ⟨g, g'⟩
      · exact absurd g hz
      · omega
      · omega
    generalize zac (X 1001 i) (X 1002 i) v = u at hz hu
    have key : X 1003 i * 16 + 1 + A u = A v ↔ B u + (100 * X 1003 i + 1) = B v := by
      have sv := h2 v hv.1 hv.2
      have su := h2 u hu.1 hu.2
      have fv := (zfin h1 hv hf).1
      have cu := h3 u
      unfold zph at sv su
      rw [if_neg (by omega)] at sv
      by_cases q : B u = 1000000000
      · rw [if_pos q] at su
        constructor <;> intro g <;> omega
      · rw [if_neg q] at su
        have fu := (zfin h1 hu (by omega)).1
        clear h1 h2 h3 hf
        generalize B u = bu at su fu ⊢
        generalize B v = bv at sv fv ⊢
        generalize A u = au at su ⊢
        generalize A v = av at sv ⊢
        constructor <;> intro g <;> omega
    rw [key]
    exact ⟨fun g => ⟨g.2.1, g.1, g.2.2⟩, fun g => ⟨g.2.1, g.1, g.2.2⟩⟩
/-- from every node that has a way a bundle goes on -/
theorem zsup (hb : zbs X nb) (hJ : zJn X nb goal A B) (h7 : zle X nb goal 7 B) (hs : ∀ i u v, 0 ≤ i ∧ i < nb → zop X i → zen X i u v → B v ≤ 100 * X 1003 i + 1 + B u) {v : Int} {m : Nat} (hv : 0 ≤ v ∧ v < 8) (hf : B v < 1000000000) (hm : B v % 100 = ((m + 1 : Nat) : Int)) : ∃ i, 0 ≤ i ∧ i < nb ∧ zonm X B v i := by
  obtain ⟨f1, f2⟩ := zfin hJ.1 hv hf
  rw [hm, Int.toNat_natCast] at f2
  obtain ⟨i, u, y, hi, ho, he, hy, hx⟩ := f2
  have c1 := h7 m u y (by omega) hy
  have c2 := hs i u v hi ho he
  have hbb := (hb i hi.1 hi.2).2
  refine ⟨i, hi.1, hi.2, ?_⟩
  unfold zonm
  rw [zen_ac he hbb.2.2.2.2.1]
  refine ⟨?_, ho, by omega⟩
  rcases he with ⟨h1, h2⟩ | ⟨h1, h2⟩ <;> omega
theorem zchain (hb : zbs X nb) (hn : 0 ≤ nb) (hg : 0 ≤ goal ∧ goal < 8) (hJ : zJn X nb goal A B) (h7 : zle X nb goal 7 B) (hs : ∀ i u v, 0 ≤ i ∧ i < nb → zop X i → zen X i u v → B v ≤ 100 * X 1003 i + 1 + B u) : ∀ (m : Nat) (v0 : Int), 0 ≤ v0 ∧ v0 < 8 → B v0 < 1000000000 → B v0 % 100 = (m : Int) → ∃ v b : Nat → Int, v 0 = v0 ∧ zcc X A nb goal v b m ∧ zch X B nb.toNat v b m := by
  have hg0 : B goal ≤ 0 := h7 0 goal 0 (by omega) ⟨rfl, rfl⟩
  intro m
  induction m with
  | zero =>
    intro v0 hv hf hm
    obtain ⟨f1, f2⟩ := zfin hJ.1 hv hf
    rw [hm] at f2
    obtain ⟨e1, e2⟩ := f2
    refine ⟨fun _ => v0, fun _ => 0, rfl, ⟨by omega, e1, hv, fun t ht => absurd ht (Nat.not_lt_zero t)⟩, ⟨?_, hv, fun t ht => absurd ht (Nat.not_lt_zero t)⟩⟩
    show B v0 ≤ 0
    omega
  | succ m ih =>
    intro v0 hv hf hm
    obtain ⟨f1, f2⟩ := zfin hJ.1 hv hf
    obtain ⟨i, i0, i1, i2, i3⟩ := zleast (P := fun i => zonm X B v0 i) nb.toNat (by
      obtain ⟨i, a, b, c⟩ := zsup hb hJ h7 hs hv hf hm
      exact ⟨i, a, by omega, c⟩)
    have hi : 0 ≤ i ∧ i < nb := ⟨i0, by omega⟩
    have hbb := (hb i hi.1 hi.2).2
    have hu : 0 ≤ zac (X 1001 i) (X 1002 i) v0 ∧ zac (X 1001 i) (X 1002 i) v0 < 8 := by
      rcases @zac_c (X 1001 i) (X 1002 i) v0 with g | ⟨g, g'⟩ | ⟨g, g'⟩
      · exact absurd g i2.1
      · omega
      · omega
    have heq := i2.2.2
    have hfu : B (zac (X 1001 i) (X 1002 i) v0) < 1000000000 := by omega
    obtain ⟨fu, _⟩ := zfin hJ.1 hu hfu
    have hmu : B (zac (X 1001 i) (X 1002 i) v0) % 100 = (m : Int) := by omega
    obtain ⟨v, b, w1, w2, w3⟩ := ih _ hu hfu hmu
    have hon := (zon_e hb hJ hi hv hf).mpr i2
    have hng : v0 ≠ goal := by
      rintro rfl
      omega
    refine ⟨fun t => match t with | 0 => v0 | t + 1 => v t, fun t => match t with | 0 => i | t + 1 => b t, rfl, ⟨by omega, w2.2.1, w2.2.2.1, fun t ht => ?_⟩, ⟨w3.1, w3.2.1, fun t ht => ?_⟩⟩
    · cases t with
      | zero =>
        refine ⟨hv, hng, hi, hon, fun j j0 j1 hj => i3 j j0 j1 ((zon_e hb hJ ⟨j0, by
          have : j < i := j1
          omega⟩ hv hf).mp hj), ?_⟩
        show v 0 = zac (X 61 i) (X 62 i) v0
        rw [w1, (hb i hi.1 hi.2).1.1, (hb i hi.1 hi.2).1.2.1]
      | succ t => exact w2.2.2.2 t (by omega)
    · cases t with
      | zero =>
        refine ⟨?_, hv, (zlwm_l i0 i2 i3 nb.toNat (-1) i1).symm, ⟨i0, i1⟩, w1⟩
        show 0 < B v0
        omega
      | succ t => exact w3.2.2 t (by omega)
end ZI
