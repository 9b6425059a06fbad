/-! THE TWO SIDES, 61: the books behind a list's add; a new bundle, connector, reel -/
theorem if_p {c : Prop} [Decidable c] {p q : Nat × Int} (h : 1 ≤ p.1 ∧ p.1 ≤ 14) (h' : 1 ≤ q.1 ∧ q.1 ≤ 14) : 1 ≤ (if c then p else q).1 ∧ (if c then p else q).1 ≤ 14 := by split <;> assumption
section ZK
variable {Y : zLy} {n s : Nat} {X : zX} {G : Nat × Nat} {l : Int} {S : Nat → Int → Prop}
theorem wtg_q {Q Q' : zQs} (h2 : ∀ i, Q' 2 i = Q 2 i) (h3 : ∀ i, Q' 3 i = Q 3 i) (k j : Nat) (i : Int) : wtg Q' k j i = wtg Q k j i := by
  unfold wtg
  simp only [h2, h3]
theorem wet_q {Q Q' : zQs} (h4 : ∀ i, Q' 4 i = Q 4 i) (l i : Int) : wet Q' l i = wet Q l i := by
  unfold wet
  simp only [h4]
theorem wK_a0 (hK : wK Y n S) (he : S (wet Y.2.2.2.2 l (Y.2.2.2.2 0 l)).1 (wet Y.2.2.2.2 l (Y.2.2.2.2 0 l)).2) : wK (yA0 Y l) n S := by
  obtain ⟨hI, hN, h3, h4, h5⟩ := hK
  have q : ∀ j i, j ≠ 0 → (yA0 Y l).2.2.2.2 j i = Y.2.2.2.2 j i := fun j i h => by rw [yA0_q, if_neg (fun q => h q.1)]
  refine ⟨hI, hN, h3, fun k i j a1 a2 a3 a4 a5 a6 => ?_, fun l' j a1 a2 a3 => ?_⟩
  · rw [wtg_q (Q := Y.2.2.2.2) (fun i => q 2 i (by decide)) (fun i => q 3 i (by decide))]
    refine h4 k i j a1 a2 a3 a4 a5 (fun h => ?_)
    rw [← q 1 i (by decide)]
    exact a6 h
  · rw [wet_q (Q := Y.2.2.2.2) (fun i => q 4 i (by decide))]
    rw [yA0_q] at a3
    by_cases b : l' = l
    · subst b
      rw [if_pos ⟨rfl, rfl⟩] at a3
      by_cases c : j = Y.2.2.2.2 0 l'
      · rw [c]; exact he
      · exact h5 l' j a1 a2 (by omega)
    · rw [if_neg (fun q => b q.2)] at a3
      exact h5 l' j a1 a2 a3
theorem wK_a1 {m : Int} (hK : wK Y n S) (hm : m ≠ 0) (hl : wLs Y l) (hq : S 16 l → 0 < Y.2.2.2.2 1 l) (he : S (wet Y.2.2.2.2 l (Y.2.2.2.2 0 l)).1 (wet Y.2.2.2.2 l (Y.2.2.2.2 0 l)).2) : wK (yA1 Y X n l m) (n + 1) (fun k i => S k i ∨ (k = 16 ∧ i = l)) := by
  have hK0 := hK
  obtain ⟨hI, ⟨g1, g2, g3, g4⟩, h3, h4, h5⟩ := hK
  have q : ∀ j i, 2 ≤ j → (yA1 Y X n l m).2.2.2.2 j i = Y.2.2.2.2 j i := fun j i h => by rw [yA1_q, if_neg (by omega), if_neg (by omega)]
  have hlt : ∀ k i, k ≠ 0 → S k i → wA Y k i < n := fun k i hk h => wA_lt hK0.2.1 ((h3 k i hk).mpr h) hk
  have hA : ∀ k i, ¬(k = 16 ∧ i = l) → wA (yA1 Y X n l m) k i = wA Y k i := fun k i h => by rw [yA1_A, if_neg h]
  have h16 : 0 < Y.2.2.2.2 1 l → S 16 l := fun h => (h3 16 l (by decide)).mp (hl.2.2.2.2 h)
  refine ⟨?_, ⟨fun b hb => ?_, Nat.lt_succ_of_lt g2, ?_, ?_⟩, fun k i hk => ?_, fun k i j a1 a2 a3 a4 a5 a6 => ?_, fun l' j a1 a2 a3 => ?_⟩
  · intro b hb0
    rw [yA1_D] at hb0 ⊢
    by_cases b1 : b = n
    · rw [if_pos b1, yA1_A, if_pos ⟨rfl, rfl⟩, b1]
    · rw [if_neg b1] at hb0 ⊢
      by_cases b2 : 0 < Y.2.2.2.2 1 l ∧ b = wA Y 16 l
      · rw [if_pos b2] at hb0
        exact absurd rfl hb0
      · rw [if_neg b2] at hb0 ⊢
        rw [hA]
        · exact hI b hb0
        · rintro ⟨c1, c2⟩
          have c3 := hI b hb0
          have c4 : S 16 l := by
            rw [← h3 16 l (by decide)]
            unfold wV
            rw [c1, c2] at c3
            rw [← c3, ← c1, ← c2]
          rw [c1, c2] at c3
          exact b2 ⟨hq c4, c3⟩
  · rw [yA1_D, if_neg (by omega)]
    split
    · rfl
    · exact g1 b (by omega)
  · rw [yA1_D]
    show (if Y.1 = n then _ else _ : Nat × Int).1 = 0
    rw [if_neg (by omega)]
    split
    · rfl
    · exact g3
  · rw [yA1_B]
    show (if 0 < Y.2.2.2.2 1 l ∧ Y.1 = wA Y 16 l then _ else _) = _
    rw [if_neg]
    · exact g4
    · rintro ⟨c1, c2⟩
      have := hl.2.2.2.2 c1
      unfold wV at this
      rw [← c2] at this
      rw [this] at g3
      exact absurd g3 (show ¬(16 : Nat) = 0 by decide)
  · by_cases c : k = 16 ∧ i = l
    · obtain ⟨rfl, rfl⟩ := c
      refine ⟨fun _ => .inr ⟨rfl, rfl⟩, fun _ => ?_⟩
      unfold wV
      rw [yA1_A, if_pos ⟨rfl, rfl⟩, yA1_D, if_pos rfl]
    · unfold wV
      rw [hA k i c, yA1_D]
      have key : wV Y k i ↔ S k i := h3 k i hk
      by_cases c1 : wA Y k i = n
      · rw [if_pos c1]
        refine ⟨fun h => absurd ⟨(congrArg Prod.fst h).symm, (congrArg Prod.snd h).symm⟩ c, fun h => ?_⟩
        rcases h with h | h
        · have := hlt k i hk h
          omega
        · exact absurd h c
      · rw [if_neg c1]
        by_cases c2 : 0 < Y.2.2.2.2 1 l ∧ wA Y k i = wA Y 16 l
        · rw [if_pos c2]
          refine ⟨fun h => absurd (congrArg Prod.fst h).symm hk, fun h => ?_⟩
          rcases h with h | h
          · have d1 := key.mpr h
            have d2 := hl.2.2.2.2 c2.1
            unfold wV at d1 d2
            rw [c2.2, d2] at d1
            exact absurd ⟨(congrArg Prod.fst d1).symm, (congrArg Prod.snd d1).symm⟩ c
          · exact absurd h c
        · rw [if_neg c2]
          exact ⟨fun h => .inl (key.mp h), fun h => h.elim key.mpr (fun h => absurd h c)⟩
  · rw [wtg_q (Q := Y.2.2.2.2) (fun i => q 2 i (by decide)) (fun i => q 3 i (by decide))]
    rcases a1 with a1 | ⟨rfl, -⟩
    · by_cases c : 20 * k + j = 21 ∧ i = l
      · have hk : k = 1 := by
          have : k ≠ 0 := by
            rintro rfl
            exact absurd a3 (Nat.not_lt_zero j)
          omega
        have hj : j = 1 := by omega
        subst hk hj
        exact .inr ⟨rfl, c.2⟩
      · refine .inl (h4 k i j a1 a2 a3 a4 a5 (fun h => ?_))
        have hi : i ≠ l := fun g => c ⟨h, g⟩
        have := a6 h
        rw [yA1_q, if_neg (fun q => hi q.1), if_neg (fun q => hi q.1)] at this
        exact this
    · exact absurd a2 (by decide)
  · rw [wet_q (Q := Y.2.2.2.2) (fun i => q 4 i (by decide))]
    rw [yA1_q] at a3
    by_cases b : l' = l
    · subst b
      rw [if_pos ⟨rfl, rfl⟩] at a3
      by_cases c : j = Y.2.2.2.2 0 l'
      · rw [c]; exact .inl he
      · have h16' := h16 (by
          have := hl.2.1
          have := hl.2.2.1
          omega)
        exact .inl (h5 l' j h16' a2 (by omega))
    · rw [if_neg (fun q => b q.1), if_neg (fun q => b q.1)] at a3
      rcases a1 with a1 | ⟨-, a1⟩
      · exact .inl (h5 l' j a1 a2 a3)
      · exact absurd a1 b
/-- a list takes one more, whichever way -/
theorem c_add {e : Nat} (hK : wK Y n S) (hG : Y.1 = G.1) (hl : wLs Y l) (hm : Y.2.2.2.2 1 l ≤ 400) (hq : S 16 l → 0 < Y.2.2.2.2 1 l) (he : e = wel Y l (Y.2.2.2.2 0 l)) (heS : S (wet Y.2.2.2.2 l (Y.2.2.2.2 0 l)).1 (wet Y.2.2.2.2 l (Y.2.2.2.2 0 l)).2) : ∃ (Y' : zLy) (n' s' : Nat) (S' : Nat → Int → Prop), ev_ G 27 0 [.ref (wA Y 1 l), .ref e] [] (wd Y n s X) = some (.inl (some (.int 1)), wd Y' n' s' (wu X 20 l (X 20 l + 1))) ∧ wK Y' n' S' ∧ n ≤ n' ∧ n' ≤ n + 1 ∧ s ≤ s' ∧ (s' : Int) ≤ s + (Y.2.2.2.2 0 l + 10 + Y.2.2.2.2 0 l) ∧ Y'.1 = Y.1 ∧ (∀ k i, k ≠ 16 → wA Y' k i = wA Y k i) ∧ (∀ k i, S' k i ↔ S k i ∨ (k = 16 ∧ i = l)) ∧ (∀ a b, b ≠ l ∨ 2 ≤ a → Y'.2.2.2.2 a b = Y.2.2.2.2 a b) ∧ Y'.2.2.2.2 0 l = Y.2.2.2.2 0 l + 1 ∧ Y.2.2.2.2 0 l < Y'.2.2.2.2 1 l ∧ (Y'.2.2.2.2 1 l = Y.2.2.2.2 1 l ∨ Y'.2.2.2.2 1 l ≤ Y.2.2.2.2 0 l + 10 + Y.2.2.2.2 0 l) ∧ (∀ b, b < n → (Y.2.2.1 b).1 = 0 → Y'.2.1 b = Y.2.1 b ∧ (Y'.2.2.1 b).1 = 0) := by
  obtain ⟨l1, l2, l3, l4, l5⟩ := id hl
  have hN := hK.2.1
  have hst := fun k i hk => hK.2.2.1 k i hk
  have hio : ∀ k i, S k i → 1 ≤ k ∧ k ≤ 14 → zio (wd Y n s X) (wA Y k i) = true ∧ wA Y k i < n := fun k i h hk => ⟨wl_io ((hst k i (by omega)).mpr h) hk, wA_lt hN ((hst k i (by omega)).mpr h) (by omega)⟩
  have hwk : ∀ l i, 1 ≤ (wet Y.2.2.2.2 l i).1 ∧ (wet Y.2.2.2.2 l i).1 ≤ 14 := by
    intro l i
    unfold wet
    repeat (refine if_p ⟨Nat.succ_le_succ (Nat.zero_le _), Nat.le_of_ble_eq_true rfl⟩ ?_)
    exact ⟨Nat.succ_le_succ (Nat.zero_le _), Nat.le_of_ble_eq_true rfl⟩
  have hie := hio _ _ heS (hwk _ _)
  rw [← wel_t, ← he] at hie
  rcases Int.lt_or_le (Y.2.2.2.2 0 l) (Y.2.2.2.2 1 l) with h | h
  · have h16 := (hst 16 l (by decide)).mp (l5 (by omega))
    refine ⟨yA0 Y l, n, s, S, c_add0 hl hK.1 he hie.1 h, wK_a0 hK heS, Nat.le_refl _, Nat.le_succ _, Nat.le_refl _, by omega, rfl, fun k i _ => rfl, fun k i => ⟨.inl, fun g => g.elim id (fun g => g.1 ▸ g.2 ▸ h16)⟩, fun a b g => ?_, ?_, ?_, .inl ?_, fun b hb hD => ⟨rfl, hD⟩⟩
    · rw [yA0_q, if_neg (by omega)]
    · rw [yA0_q, if_pos ⟨rfl, rfl⟩]
    · rw [yA0_q, if_neg (by omega)]
      exact h
    · rw [yA0_q, if_neg (by omega)]
  · obtain ⟨m, m1, m2, hx⟩ := c_add1 (G := G) (n := n) (s := s) (X := X) hl hK.1 hN hG he hie.2 (fun j j0 j1 => by
      have h16 := (hst 16 l (by decide)).mp (l5 (by omega))
      rw [wel_t]
      exact hio _ _ (hK.2.2.2.2 l j h16 j0 j1) (hwk _ _)) hie.1 (by omega) hm (fun g1 g2 => by
      have := hq ((hst 16 l (by decide)).mp g2)
      omega)
    refine ⟨yA1 Y X n l m, n + 1, s + m, _, hx, wK_a1 hK (by omega) hl hq heS, Nat.le_succ _, Nat.le_refl _, Nat.le_add_right _ _, by omega, rfl, fun k i hk => ?_, fun k i => Iff.rfl, fun a b g => ?_, ?_, ?_, .inr ?_, fun b hb hD => ⟨?_, ?_⟩⟩
    · rw [yA1_A, if_neg (fun q => hk q.1)]
    · rw [yA1_q, if_neg (by omega), if_neg (by omega)]
    · rw [yA1_q, if_pos ⟨rfl, rfl⟩]
    · rw [yA1_q, if_neg (by omega), if_pos ⟨rfl, rfl⟩]
      exact m2
    · rw [yA1_q, if_neg (by omega), if_pos ⟨rfl, rfl⟩]
      exact m1
    · rw [yA1_B, if_neg]
      rintro ⟨c1, c2⟩
      have := l5 c1
      unfold wV at this
      rw [← c2] at this
      rw [this] at hD
      exact absurd hD (show ¬(16 : Nat) = 0 by decide)
    · rw [yA1_D, if_neg (by omega)]
      split
      · rfl
      · exact hD
end ZK
