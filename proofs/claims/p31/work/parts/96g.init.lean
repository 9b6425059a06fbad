/-! THE TWO SIDES, 100: the beginning -/
theorem zbt_255 : ∀ k : Fin 8, zbt 255 (k.val : Int) = true := by decide +kernel
theorem zXi_1009 {c : Int} (h : 0 ≤ c ∧ c < 8) : zXi 1009 c = -1 := by
  unfold zXi zL5
  rw [wu_ne (by decide), wu_ne (by decide), wu_ne (by decide), wu_ne (by decide)]
  unfold zL4
  rw [if_neg (by omega), if_neg (by omega)]
  unfold zL3
  rw [if_neg (by omega)]
  unfold zL2
  rw [if_neg (by omega)]
  unfold zL1
  rw [if_pos ⟨rfl, h⟩]
theorem zXi_1033 {c : Int} (h : 0 ≤ c ∧ c < 8) : zXi 1033 c = 1 := by
  unfold zXi zL5
  rw [wu_ne (by decide), wu_ne (by decide), wu_ne (by decide), wu_ne (by decide)]
  unfold zL4
  rw [if_neg (by omega), if_neg (by omega)]
  unfold zL3
  rw [if_pos ⟨rfl, h⟩]
theorem zXi_103x {f c : Int} (hf : f = 1038 ∨ f = 1039 ∨ f = 1040) (h : 0 ≤ c ∧ c < 96) : zXi f c = -1 := by
  unfold zXi zL5
  rw [wu_ne (by omega), wu_ne (by omega), wu_ne (by omega), wu_ne (by omega)]
  unfold zL4
  rw [if_neg (by omega), if_neg (by omega)]
  unfold zL3
  rw [if_neg (by omega)]
  unfold zL2
  rw [if_pos ⟨hf, h⟩]
theorem zXi_oven : (∀ z, 0 ≤ z → z < 4 → zXi 1030 z = zXi 506 z ∧ 0 ≤ zXi 506 z ∧ zXi 506 z ≤ 400) ∧ ∀ p, 0 ≤ p → p < 6 → (zXi 1031 p = 180 ∧ zXi 507 p = 180) ∧ zXi 1032 p = 260 ∧ zXi 508 p = 260 := by
  refine ⟨fun z z0 z1 => ?_, fun p p0 p1 => ?_⟩
  · rw [zXi_w (show (506 : Int) < 1009 by decide)]
    have : z = 0 ∨ z = 1 ∨ z = 2 ∨ z = 3 := by omega
    rcases this with rfl | rfl | rfl | rfl <;> decide
  · rw [zXi_w (show (507 : Int) < 1009 by decide), zXi_w (show (508 : Int) < 1009 by decide)]
    have : p = 0 ∨ p = 1 ∨ p = 2 ∨ p = 3 ∨ p = 4 ∨ p = 5 := by omega
    rcases this with rfl | rfl | rfl | rfl | rfl | rfl <;> decide
theorem zXi_I : iAll 0 (fun _ _ => 0) zXi := by
  have zf : ∀ {f : Int}, f ≠ 266 ∧ f ≠ 506 ∧ f ≠ 507 ∧ f ≠ 508 ∧ f ≠ 1009 ∧ f ≠ 1030 ∧ f ≠ 1031 ∧ f ≠ 1032 ∧ f ≠ 1033 ∧ f ≠ 1038 ∧ f ≠ 1039 ∧ f ≠ 1040 → ∀ j, zXi f j = 0 := fun h j => zXi_o h
  refine ⟨?_, ?_, ?_, ?_, ?_, ?_, ?_, ?_, ?_, ?_, ?_, ?_⟩
  · unfold iB
    rw [zf (by decide)]
    exact ⟨rfl, fun i a b => absurd b (by show ¬i < 0; omega)⟩
  · unfold iC
    simp only [zf (f := 405) (by decide), zf (f := 1006) (by decide), zf (f := 1007) (by decide), zf (f := 1008) (by decide)]
    refine ⟨trivial, fun c a b => ?_, fun c a b => absurd b (by omega), fun c a b => zXi_1009 ⟨a, b⟩, fun c a b => absurd b (by omega)⟩
    rw [zXi_1009 ⟨a, b⟩]
    decide
  · unfold iT
    simp only [zf (f := 410) (by decide)]
    exact ⟨fun c a b => absurd b (by omega), fun c v a b => absurd b (by omega), fun a w w' b c => absurd c (by omega)⟩
  · unfold iW
    simp only [zf (f := 410) (by decide), zf (f := 1011) (by decide)]
    exact ⟨trivial, fun w a b => by decide, fun w a b => trivial, fun w a b => absurd b (by omega)⟩
  · unfold iF
    rw [show zXi 500 = fun _ => 0 from funext fun j => zf (by decide) j, show zXi 1016 = fun _ => 0 from funext fun j => zf (by decide) j]
    unfold zcb zcbm
    exact ⟨fun j => (by decide : (0 : Int) ≤ 0 ∧ (0 : Int) ≤ 1000000), fun j => (by decide : (0 : Int) ≤ 0 ∧ (0 : Int) ≤ 1000000000)⟩
  · unfold iO
    simp only [zf (f := 417) (by decide), zf (f := 144) (by decide), zf (f := 1018) (by decide), zf (f := 501) (by decide), zf (f := 1019) (by decide), zf (f := 502) (by decide), zf (f := 1020) (by decide), zf (f := 503) (by decide), zf (f := 504) (by decide)]
    exact ⟨trivial, by decide, fun k a b => absurd b (by omega), fun k a b => by decide, fun r => by decide, fun r => by decide⟩
  · unfold iD
    simp only [zf (f := 421) (by decide), zf (f := 100) (by decide), zf (f := 422) (by decide), zf (f := 101) (by decide), zf (f := 103) (by decide), zf (f := 1023) (by decide), zf (f := 505) (by decide)]
    exact ⟨trivial, trivial, by decide, by decide, fun k a b => by decide, fun k a b => trivial⟩
  · unfold iR
    simp only [zf (f := 425) (by decide), zf (f := 1026) (by decide), zf (f := 1027) (by decide), zf (f := 1028) (by decide), zf (f := 1029) (by decide)]
    exact ⟨trivial, fun r a b => by decide, fun r a b => absurd b (by omega)⟩
  · unfold iM
    simp only [zf (f := 424) (by decide), zf (f := 267) (by decide)]
    decide
  · unfold iV
    rw [show zXi 266 0 = 255 from (zXi_w (by decide)).trans rfl]
    refine ⟨by decide, fun k a b => ?_⟩
    rw [zXi_1033 ⟨a, b⟩]
    obtain ⟨x, rfl⟩ := zJ_fin a 8 b
    rw [zbt_255 x]
    decide
  · unfold iH
    refine ⟨zXi_oven.1, fun p a b => ?_⟩
    obtain ⟨⟨e1, e2⟩, e3, e4⟩ := zXi_oven.2 p a b
    rw [e1, e2, e3, e4]
    decide
  · unfold iS
    simp only [zf (f := 434) (by decide), zf (f := 1035) (by decide), zf (f := 1036) (by decide), zf (f := 1037) (by decide), zf (f := 1041) (by decide), zf (f := 1042) (by decide), zf (f := 1043) (by decide)]
    refine ⟨trivial, fun b b0 b1 => by decide, fun b b0 b1 => by decide, fun k a b => ?_, fun k a b => ?_, fun b b0 b1 => absurd b1 (by omega)⟩
    · rw [zXi_103x (.inl rfl) ⟨a, b⟩]
      decide
    · rw [zXi_103x (.inl rfl) ⟨by omega, b⟩, zXi_103x (.inr (.inl rfl)) ⟨by omega, b⟩, zXi_103x (.inr (.inr rfl)) ⟨by omega, b⟩]
      decide
theorem zhas_i {R : List (Nat × Int × Nat)} {k : Nat} {i : Int} : (∃ a, (k, i, a) ∈ R) ↔ zhas R k i = true := by
  refine ⟨fun ⟨a, h⟩ => List.any_eq_true.mpr ⟨_, h, ?_⟩, zhas_e⟩
  simp
theorem wZq_0 : wZq (fun _ _ => 0) := ⟨by decide, by decide, by decide, by decide, by decide, fun l a b => ⟨Int.le_refl 0, Int.le_refl 0, (by decide : (0 : Int) ≤ 100)⟩, fun l a => ⟨rfl, rfl⟩, fun b b1 b2 => absurd b2 (by show ¬b < 0; omega), fun w w1 w2 => absurd w2 (by show ¬w < 0; omega)⟩
