/-! THE TWO SIDES, 66: a wire laid along its way -/
theorem zrw_id {X : zX} {c : Int → Int} (h : X 500 = c) : zrw X c = X := by
  subst h
  funext f j
  unfold zrw
  by_cases q : f = 500
  · rw [if_pos q, q]
  · rw [if_neg q]
def zlay (w : Int) (b : Nat → Int) : Nat → Nat → zX → zX
  | 0, _, X => X
  | k + 1, t, X => zlay w b k (t + 1) (wu (wu (wu X 20 (5 + w) (X 20 (5 + w) + 1)) 64 (b t) (X 64 (b t) - 1)) 245 w (X 245 w + X 63 (b t)))
/-- the chain of a way, by the class's costs -/
def zcc (X : zX) (c : Int → Int) (nb goal : Int) (v b : Nat → Int) (L : Nat) : Prop := L ≤ 7 ∧ v L = goal ∧ (0 ≤ v L ∧ v L < 8) ∧ ∀ t, t < L → (0 ≤ v t ∧ v t < 8) ∧ v t ≠ goal ∧ (0 ≤ b t ∧ b t < nb) ∧ zon X c (v t) (b t) ∧ (∀ m, 0 ≤ m → m < b t → ¬zon X c (v t) m) ∧ v (t + 1) = zac (X 61 (b t)) (X 62 (b t)) (v t)
def zRoom (X X' : zX) (b : Nat → Int) (t : Nat) : Prop := (∀ f, f ≠ 64 → f ≠ 20 → f ≠ 245 → ∀ j, X' f j = X f j) ∧ (∀ i, X' 64 i = X 64 i ∨ ∃ t', t' < t ∧ b t' = i)
theorem zcc_dec {X : zX} {c : Int → Int} {nb goal : Int} {v b : Nat → Int} {L : Nat} (h : zcc X c nb goal v b L) (hb : ∀ i, 0 ≤ i → i < nb → 1 ≤ X 63 i) : ∀ (k t : Nat), t + k + 1 ≤ L → c (v (t + k + 1)) < c (v t) := by
  have h1 : ∀ t, t < L → c (v (t + 1)) < c (v t) := by
    intro t ht
    obtain ⟨a1, a2, a3, a4, a5, a6⟩ := h.2.2.2 t ht
    have := hb (b t) a3.1 a3.2
    have a7 := a4.2.2
    rw [← a6] at a7
    omega
  intro k
  induction k with
  | zero => intro t ht; exact h1 t (by omega)
  | succ k ih =>
    intro t ht
    have e1 := ih t (by omega)
    have e2 := h1 (t + k + 1) (by omega)
    have e3 : t + (k + 1) + 1 = t + k + 1 + 1 := by omega
    rw [e3]
    omega
theorem zac_c {e o v : Int} : zac e o v = -1 ∨ (v = e ∧ zac e o v = o) ∨ (v = o ∧ zac e o v = e) := by
  unfold zac
  by_cases h : v = e
  · rw [if_pos h]
    exact .inr (.inl ⟨h, rfl⟩)
  · rw [if_neg h]
    by_cases h2 : v = o
    · rw [if_pos h2]
      exact .inr (.inr ⟨h2, rfl⟩)
    · rw [if_neg h2]
      exact .inl rfl
theorem zon_t {X X' : zX} {c : Int → Int} {nb goal : Int} {v b : Nat → Int} {L t : Nat} (h : zcc X c nb goal v b L) (hb : ∀ i, 0 ≤ i → i < nb → 1 ≤ X 63 i) (hR : zRoom X X' b t) (ht : t < L) (i : Int) : zon X' c (v t) i ↔ zon X c (v t) i := by
  obtain ⟨r1, r2⟩ := hR
  unfold zon
  rw [r1 61 (by decide) (by decide) (by decide), r1 62 (by decide) (by decide) (by decide), r1 63 (by decide) (by decide) (by decide)]
  rcases r2 i with g | ⟨t', g1, g2⟩
  · rw [g]
  · have hno : ¬(zac (X 61 i) (X 62 i) (v t) ≠ -1 ∧ X 63 i * 16 + 1 + c (zac (X 61 i) (X 62 i) (v t)) = c (v t)) := by
      rintro ⟨h1, h2⟩
      obtain ⟨a1, a2, a3, a4, a5, a6⟩ := h.2.2.2 t' (by omega)
      rw [g2] at a3 a4 a6
      have hl := hb i a3.1 a3.2
      obtain ⟨k, rfl⟩ := Nat.exists_eq_add_of_lt g1
      have d1 := zcc_dec h hb k t' (by omega)
      have d2 : c (v (t' + k + 1)) ≤ c (v (t' + 1)) := by
        cases k with
        | zero => exact Int.le_refl _
        | succ k =>
          have := zcc_dec h hb k (t' + 1) (by omega)
          rw [show t' + 1 + k + 1 = t' + (k + 1) + 1 by omega] at this
          exact Int.le_of_lt this
      have b1 := @zac_c (X 61 i) (X 62 i) (v t')
      have b2 := @zac_c (X 61 i) (X 62 i) (v (t' + k + 1))
      rw [a6] at d2
      have a7 := a4.2.1
      rcases b1 with b1 | ⟨b1, b1'⟩ | ⟨b1, b1'⟩
      · exact a7 b1
      · rcases b2 with b2 | ⟨b2, b2'⟩ | ⟨b2, b2'⟩
        · exact h1 b2
        · rw [b2, ← b1] at d1
          omega
        · rw [b2', ← b1] at h2
          omega
      · rcases b2 with b2 | ⟨b2, b2'⟩ | ⟨b2, b2'⟩
        · exact h1 b2
        · rw [b2', ← b1] at h2
          omega
        · rw [b2, ← b1] at d1
          omega
    exact ⟨fun g => absurd g.2 hno, fun g => absurd g.2 hno⟩
section ZS
variable {Y Y' Y2 : zLy} {n n' n2 s : Nat} {X X' : zX} {G : Nat × Nat}
theorem c_layR {w d nb goal : Int} {c : Int → Int} {v b : Nat → Int} {L : Nat} (hch : zcc X c nb goal v b L) (hc : zcb c) (hnb : nb ≤ 16) (hb : ∀ i, 0 ≤ i → i < nb → 0 ≤ X 61 i ∧ X 61 i < 8 ∧ 0 ≤ X 62 i ∧ X 62 i < 8 ∧ X 61 i ≠ X 62 i ∧ 1 ≤ X 63 i ∧ X 63 i ≤ 999) (hg : 0 ≤ goal ∧ goal < 8) (h80 : X 80 d = goal) : ∀ (k t : Nat) (Y : zLy) (n s : Nat) (X' : zX) (u : Value), t + k = L → wW Y n w b t → Y.1 = G.1 → zRoom X X' b t → X' 500 = c → Y.2.2.2.2 0 0 = nb → Y.2.2.2.2 3 w = d → (0 ≤ d ∧ d < Y.2.2.2.2 0 1) → ∃ (Y' : zLy) (n' s' : Nat), ev_ G 65 21 [.ref (wA Y 6 0), .ref (wA Y 12 w), .int (zJ (v t)), .int (zJ (t + 1)), u] [] (wd Y n s X') = some (.inl none, wd Y' n' s' (zlay w b k t X')) ∧ wW Y' n' w b L ∧ wle Y n Y' n' ∧ n' ≤ n + k ∧ s ≤ s' ∧ s' ≤ s + 50 * k ∧ (∀ a i, ¬(a = 4 ∧ 16 * w ≤ i ∧ i < 16 * w + 16) → i ≠ 5 + w ∨ 2 ≤ a → Y'.2.2.2.2 a i = Y.2.2.2.2 a i) := by
  intro k
  induction k with
  | zero =>
    intro t Y n s X' u ht hW hG hR h5 hq hd hd'
    have htL : t = L := by omega
    subst htL
    have hF := wW_F hW
    have hV12 : wV Y 12 w := wW_st hW (by decide) (.inr (.inr (.inl ⟨rfl, rfl⟩)))
    have hV4 : wV Y 4 d := hF.2.2.2.2.2.2.2.2.2.1 d hd'.1 hd'.2
    obtain ⟨c1, c2, c3, c4⟩ := hch
    refine ⟨Y, n, s, ?_, hW, wle_r, Nat.le_refl _, Nat.le_refl _, by omega, fun _ _ _ _ => rfl⟩
    have g2 : zgR 11 2 (wd Y n s X') (wA Y 12 w) = some (wA Y 4 (Y.2.2.2.2 3 w)) := g12_2 hV12
    rw [hd] at g2
    rw [q_X4_layAlong_21, g2, t_b, g4_0 hV4, t_b, hR.1 80 (by decide) (by decide) (by decide), h80, c2, if_pos rfl]
    split <;> rfl
  | succ k ih =>
    intro t Y n s X' u ht hW hG hR h5 hq hd hd'
    have htL : t < L := by omega
    have hF := wW_F hW
    have hV12 : wV Y 12 w := wW_st hW (by decide) (.inr (.inr (.inl ⟨rfl, rfl⟩)))
    have hV4 : wV Y 4 d := hF.2.2.2.2.2.2.2.2.2.1 d hd'.1 hd'.2
    have h6 := hF.2.2.2.1
    have hb1 : ∀ i, 0 ≤ i → i < nb → 1 ≤ X 63 i := fun i a1 a2 => (hb i a1 a2).2.2.2.2.2.1
    obtain ⟨c1, c2, c3, c4⟩ := id hch
    obtain ⟨a1, a2, a3, a4, a5, a6⟩ := c4 t htL
    have hR1 := hR.1
    have hBu : wBu Y X' := by
      unfold wBu
      rw [hq, show X' 61 = X 61 from funext (hR1 61 (by decide) (by decide) (by decide)), show X' 62 = X 62 from funext (hR1 62 (by decide) (by decide) (by decide)), show X' 63 = X 63 from funext (hR1 63 (by decide) (by decide) (by decide))]
      exact ⟨hnb, hb⟩
    have hon := (c_onR (G := G) (n := n) (s := s) (X := X') (c := c) (v := v t) hF hBu a1 hc nb.toNat 0 zU zU (by decide) (by omega)).2 (b t) a3.1 (by omega) ((zon_t hch hb1 hR htL _).mpr a4) (fun m m1 m2 g => a5 m m1 m2 ((zon_t hch hb1 hR htL _).mp g))
    rw [zrw_id h5] at hon
    have hgo := c_goBy (G := G) (n := n) (s := s) (X := X') hW hG (by omega) (by rw [hq]; exact a3)
    obtain ⟨Y1, n1, s1, e1, e2, e3, e4, e5, e6, e7⟩ := hgo
    have hR2 : zRoom X (wu (wu (wu X' 20 (5 + w) (X' 20 (5 + w) + 1)) 64 (b t) (X' 64 (b t) - 1)) 245 w (X' 245 w + X' 63 (b t))) b (t + 1) := by
      refine ⟨fun f g1 g2 g3 j => ?_, fun i => ?_⟩
      · rw [wu_ne g3, wu_ne g1, wu_ne g2]
        exact hR1 f g1 g2 g3 j
      · rw [wu_ne (by decide)]
        by_cases hi : i = b t
        · exact .inr ⟨t, by omega, hi.symm⟩
        · rw [wu_ni hi, wu_ne (by decide)]
          rcases hR.2 i with g | ⟨t', g1, g2⟩
          · exact .inl g
          · exact .inr ⟨t', by omega, g2⟩
    have hw0 : 0 ≤ w := by rw [← hW.2.2.1]; exact hW.2.1.2.2.1.1
    have e70 : Y1.2.2.2.2 0 0 = Y.2.2.2.2 0 0 := e7 0 0 (fun g => absurd g.1 (by decide)) (.inl (by omega))
    have e71 : Y1.2.2.2.2 0 1 = Y.2.2.2.2 0 1 := e7 0 1 (fun g => absurd g.1 (by decide)) (.inl (by omega))
    have e73 : Y1.2.2.2.2 3 w = Y.2.2.2.2 3 w := e7 3 w (fun g => absurd g.1 (by decide)) (.inr (by decide))
    have e1' := e3.2.1
    obtain ⟨Y2, n2, s2, f1, f2, f3, f4, f5, f6, f7⟩ := ih (t + 1) Y1 n1 s1 _ (.ref (wA Y 3 (b t))) (by omega) e2 (by rw [e1']; exact hG) hR2 (by
      funext j
      rw [wu_ne (by decide), wu_ne (by decide), wu_ne (by decide), h5]) (by rw [e70]; exact hq) (by rw [e73]; exact hd) (by rw [e71]; exact hd')
    have hV3 : wV Y 3 (b t) := hF.2.2.2.2.2.2.2.2.1 (b t) a3.1 (by rw [hq]; exact a3.2)
    have kk6 := (e3.2.2.1 6 0 (by decide) (by decide) h6).2
    have kk12 := (e3.2.2.1 12 w (by decide) (by decide) hV12).2
    have k3' := e3.2.2.1 3 (b t) (by decide) (by decide) hV3
    have hbt := hb (b t) a3.1 a3.2
    refine ⟨Y2, n2, s2, ?_, f2, wle_t e3 f3, by omega, by omega, by omega, fun a i g1 g2 => (f7 a i g1 g2).trans (e7 a i (fun g => g1 ⟨g.1, by omega, by omega⟩) g2)⟩
    have g2 : zgR 11 2 (wd Y n s X') (wA Y 12 w) = some (wA Y 4 (Y.2.2.2.2 3 w)) := g12_2 hV12
    rw [hd] at g2
    have hac := c_across (G := G) (n := n1) (s := s1) (X := wu (wu (wu X' 20 (5 + w) (X' 20 (5 + w) + 1)) 64 (b t) (X' 64 (b t) - 1)) 245 w (X' 245 w + X' 63 (b t))) (j := v t) k3'.1 (by rw [hR2.1 61 (by decide) (by decide) (by decide)]; omega) (by rw [hR2.1 62 (by decide) (by decide) (by decide)]; omega) (by omega)
    rw [hR2.1 61 (by decide) (by decide) (by decide), hR2.1 62 (by decide) (by decide) (by decide), ← a6, k3'.2] at hac
    have hk3 := k3 (n := n1) (s := s1) (X := wu (wu (wu X' 20 (5 + w) (X' 20 (5 + w) + 1)) 64 (b t) (X' 64 (b t) - 1)) 245 w (X' 245 w + X' 63 (b t))) (o := ev_ G 56 0 [.ref (wA Y 3 (b t)), .int (zJ (v t))] [] (wd Y1 n1 s1 (wu (wu (wu X' 20 (5 + w) (X' 20 (5 + w) + 1)) 64 (b t) (X' 64 (b t) - 1)) 245 w (X' 245 w + X' 63 (b t))))) k3'.1
    rw [k3'.2] at hk3
    have hlt : ¬(8 : Int32) ≤ zJ ((t : Int) + 1) := by
      rw [l_8, zJ_le (by omega) (by omega) (by omega) (by omega)]
      omega
    have hne : ¬zJ (v t) = zJ goal := by
      rw [zJ_eq (by omega) (by omega) (by omega) (by omega)]
      exact a2
    rw [q_X4_layAlong_21, g2, t_b, g4_0 hV4, t_b, hR1 80 (by decide) (by decide) (by decide), h80, if_neg hlt, if_neg hne, k6 h6, q_X4_lowestOnward_0, l_0, hon, t_N, k12 hV12, e1, t_V, hk3, hac, t_I, l_1, zJ_add, show ((t : Int) + 1 + 1) = ((t + 1 : Nat) : Int) + 1 by omega, ← kk6, ← kk12]
    exact f1
end ZS
