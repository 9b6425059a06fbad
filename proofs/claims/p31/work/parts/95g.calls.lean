/-! THE TWO SIDES, 76: calls on both sides: place, flaw, ship, ofSlot, recall -/
theorem zpk_x {h x m : Int} (hm : 1 ≤ m) (hh : 0 ≤ h ∧ h ≤ 1000) (hx : 0 ≤ x ∧ x ≤ 1000) : 0 ≤ x + (h - x) / m ∧ x + (h - x) / m ≤ 1000 := by
  have := zdv (d := h - x) hm
  by_cases g : 0 ≤ h - x
  · have := this.1 g
    omega
  · have := this.2 (by omega)
    omega
theorem zpk_r {h : Int → Int} {m : Int} (hm : 1 ≤ m) (hh : ∀ z, 0 ≤ z → z < 4 → 0 ≤ h z ∧ h z ≤ 1000) : ∀ (c : Nat) (k x p : Int), 0 ≤ k → c + k = 12 → 0 ≤ x ∧ x ≤ 1000 → 0 ≤ p ∧ p ≤ 1000 → 0 ≤ zpk h m c k x p ∧ zpk h m c k x p ≤ 1000 := by
  intro c
  induction c with
  | zero => intro k x p _ _ _ hp; exact hp
  | succ c ih =>
    intro k x p hk he hx hp
    have h1 := zpk_x hm (hh (k / 3) (by omega) (by omega)) hx
    exact ih (k + 1) _ _ (by omega) (by omega) h1 (by omega)
theorem zpk_c {h h' : Int → Int} {m : Int} (hh : ∀ z, 0 ≤ z → z < 4 → h z = h' z) : ∀ (c : Nat) (k x p : Int), 0 ≤ k → c + k = 12 → zpk h m c k x p = zpk h' m c k x p := by
  intro c
  induction c with
  | zero => intro k x p _ _; rfl
  | succ c ih =>
    intro k x p hk he
    show zpk h m c (k + 1) _ _ = zpk h' m c (k + 1) _ _
    rw [hh (k / 3) (by omega) (by omega)]
    exact ih (k + 1) _ _ (by omega) (by omega)
theorem zpk_1 {h : Int → Int} {m : Int} (hm : 1 ≤ m) (hh : ∀ z, 0 ≤ z → z < 4 → 0 ≤ h z ∧ h z ≤ 1000) : zpk h m 12 0 25 (-1) = zpk h m 12 0 25 0 := by
  have h1 := zpk_x (x := 25) hm (hh (0 / 3) (by decide) (by decide)) (by decide)
  show zpk h m 11 (0 + 1) _ (max (-1) (25 + (h (0 / 3) - 25) / m)) = zpk h m 11 (0 + 1) _ (max 0 (25 + (h (0 / 3) - 25) / m))
  rw [show max (-1) (25 + (h (0 / 3) - 25) / m) = max 0 (25 + (h (0 / 3) - 25) / m) by omega]
section ZK
variable {Y : zLy} {n s : Nat} {X : zX} {G : Nat × Nat} {t p q r u : Int}
/-- ranges that the reference's calls want -/
theorem iS_m {Q : zQs} (h : iS Q X) : (∀ b, 0 ≤ b → b < 12 → (0 ≤ X 1035 b ∧ X 1035 b ≤ 1) ∧ (0 ≤ X 1037 b ∧ X 1037 b ≤ 1)) ∧ (∀ k, 0 ≤ k → k < 96 → -1 ≤ X 1038 k ∧ X 1038 k < 12) ∧ (∀ k, 0 ≤ k → k < 96 → 0 ≤ X 1041 k ∧ X 1041 k < 6 ∧ 0 ≤ X 1042 k ∧ X 1042 k ≤ 1) ∧ (∀ k, 0 ≤ k → k < 96 → 0 ≤ X 1043 k ∧ X 1043 k ≤ 1) ∧ (∀ k, 0 ≤ k → k < 96 → X 1042 k ≠ 0 → 0 ≤ X 1038 k) := by
  obtain ⟨c1, c2, c3, c4, c5, c6⟩ := h
  exact ⟨fun b b0 b1 => ⟨(c2 b b0 b1).1, (c2 b b0 b1).2.2⟩, fun k k0 k1 => (c4 k k0 k1).1, fun k k0 k1 => by have := c4 k k0 k1; omega, fun k k0 k1 => (c4 k k0 k1).2.2.2.1, fun k k0 k1 g => ((c4 k k0 k1).2.2.2.2 g).2⟩
theorem iR_m {Q : zQs} (h : iR Q X) : ∀ r, 0 ≤ r → r < 12 → (0 ≤ X 1026 r ∧ X 1026 r < 6) ∧ (-1 ≤ X 1029 r ∧ X 1029 r < 10000) ∧ (0 ≤ X 1028 r ∧ X 1028 r < 10000) ∧ (0 ≤ X 1027 r ∧ X 1027 r < 1000) := fun r r0 r1 => by
  have := h.2.1 r r0 r1
  omega
/-- a slot's part -/
theorem iS_p {Q : zQs} (hR : iR Q X) (h : iS Q X) (h4 : Q 0 4 ≤ 12) (h3 : Q 0 3 ≤ 12) {b k : Int} (hb : 0 ≤ b ∧ b < Q 0 4) (hk : 8 * b ≤ k ∧ k < 8 * b + 8) : (-1 ≤ X 220 k ∧ X 220 k < 6) ∧ (X 220 k = -1 ↔ X 1038 k = -1) := by
  obtain ⟨c1, c2, c3, c4, c5, c6⟩ := h
  obtain ⟨a1, a2, a3, a4, a5, a6, a7⟩ := (c6 b hb.1 hb.2).2.2 k hk.1 hk.2
  have d := (c4 k (by omega) (by omega)).1
  by_cases e : X 1038 k = -1
  · rw [if_pos e] at a3
    exact ⟨by omega, by omega⟩
  · rw [if_neg e] at a3
    have := hR.2.1 (X 1038 k) (by omega) (by omega)
    exact ⟨by omega, by omega⟩
theorem zpeak_r {b : Int} (hh : ∀ z, 0 ≤ z → z < 4 → 0 ≤ X (509 + b) z ∧ X (509 + b) z ≤ 1000) : 0 ≤ zpeak X b ∧ zpeak X b ≤ 1000 := zpk_r (by have := zmass_r X b; omega) hh 12 0 25 0 (by decide) (by decide) (by decide) (by decide)
end ZK
