/-! THE TWO SIDES, 89: calls on both sides: wire, what a laid way leaves -/
theorem zlay_f {w f : Int} {b : Nat → Int} (h1 : f ≠ 20) (h2 : f ≠ 64) (h3 : f ≠ 245) : ∀ (k t : Nat) (X : zX) (j : Int), zlay w b k t X f j = X f j := by
  intro k
  induction k with
  | zero => intro t X j; rfl
  | succ k ih =>
    intro t X j
    refine (ih _ _ _).trans ?_
    rw [wu_ne h3, wu_ne h2, wu_ne h1]
theorem zlay_r {w i : Int} {b : Nat → Int} : ∀ (k t : Nat) (X : zX), zlay w b k t X 64 i = X 64 i - zsm (fun m => zB (b m.toNat = i)) t k := by
  intro k
  induction k with
  | zero =>
    intro t X
    show X 64 i = X 64 i - 0
    omega
  | succ k ih =>
    intro t X
    refine (ih _ _).trans ?_
    rw [wu_ne (by decide), wu_v, wu_ne (by decide)]
    show (if i = b t then X 64 (b t) - 1 else X 64 i) - zsm (fun m => zB (b m.toNat = i)) ((t + 1 : Nat) : Int) k = X 64 i - (zB (b (t : Int).toNat = i) + zsm (fun m => zB (b m.toNat = i)) ((t : Int) + 1) k)
    rw [Int.toNat_natCast, show ((t + 1 : Nat) : Int) = (t : Int) + 1 by omega]
    by_cases h : i = b t
    · rw [if_pos h, zB_1 h.symm, h]
      omega
    · rw [if_neg h, zB_0 (fun g => h g.symm)]
      omega
theorem zlay_l {w i : Int} {b : Nat → Int} : ∀ (k t : Nat) (X : zX), zlay w b k t X 245 i = X 245 i + (if i = w then zsm (fun m => X 63 (b m.toNat)) t k else 0) := by
  intro k
  induction k with
  | zero =>
    intro t X
    show X 245 i = X 245 i + (if i = w then 0 else 0)
    split <;> omega
  | succ k ih =>
    intro t X
    refine (ih _ _).trans ?_
    have e63 : wu (wu (wu X 20 (5 + w) (X 20 (5 + w) + 1)) 64 (b t) (X 64 (b t) - 1)) 245 w (X 245 w + X 63 (b t)) 63 = X 63 := funext fun j => by rw [wu_ne (by decide), wu_ne (by decide), wu_ne (by decide)]
    rw [e63, wu_v, wu_ne (by decide), wu_ne (by decide)]
    show (if i = w then X 245 w + X 63 (b t) else X 245 i) + (if i = w then zsm (fun m => X 63 (b m.toNat)) ((t + 1 : Nat) : Int) k else 0) = X 245 i + (if i = w then X 63 (b (t : Int).toNat) + zsm (fun m => X 63 (b m.toNat)) ((t : Int) + 1) k else 0)
    rw [Int.toNat_natCast, show ((t + 1 : Nat) : Int) = (t : Int) + 1 by omega]
    by_cases h : i = w
    · rw [if_pos h, if_pos h, if_pos h, h]
      omega
    · rw [if_neg h, if_neg h, if_neg h]
theorem zstm_c {X X' : zX} (h1 : X' 1001 = X 1001) (h2 : X' 1002 = X 1002) (h3 : X' 1003 = X 1003) (h4 : X' 1004 = X 1004) (i : Int) (c : Int → Int) : zstm X' i c = zstm X i c := by
  unfold zstm
  rw [h1, h2, h3, h4]
theorem zrdm_c {X X' : zX} (h1 : X' 1001 = X 1001) (h2 : X' 1002 = X 1002) (h3 : X' 1003 = X 1003) (h4 : X' 1004 = X 1004) : ∀ (k : Nat) (i : Int) (c : Int → Int), zrdm X' k i c = zrdm X k i c := by
  intro k
  induction k with
  | zero => intro i c; rfl
  | succ k ih =>
    intro i c
    show zrdm X' k (i + 1) (zstm X' i c) = zrdm X k (i + 1) (zstm X i c)
    rw [ih, zstm_c h1 h2 h3 h4]
theorem zcsm_c {X X' : zX} (h1 : X' 1001 = X 1001) (h2 : X' 1002 = X 1002) (h3 : X' 1003 = X 1003) (h4 : X' 1004 = X 1004) (h5 : X' 1016 = X 1016) (nb goal : Int) : zcsm X' nb goal = zcsm X nb goal := by
  have hr : ∀ (m : Nat) (c : Int → Int), zrdsm X' nb.toNat m c = zrdsm X nb.toNat m c := by
    intro m
    induction m with
    | zero => intro c; rfl
    | succ m ih =>
      intro c
      show zrdsm X' nb.toNat m (zrdm X' nb.toNat 0 c) = zrdsm X nb.toNat m (zrdm X nb.toNat 0 c)
      rw [ih, zrdm_c h1 h2 h3 h4]
  unfold zcsm
  rw [hr]
  have : zc0m X' goal = zc0m X goal := by
    unfold zc0m
    rw [h5]
  rw [this]
theorem zch_c {X X' : zX} {c : Int → Int} {nb : Nat} {v b : Nat → Int} {L : Nat} (h1 : X' 1001 = X 1001) (h2 : X' 1002 = X 1002) (h3 : X' 1003 = X 1003) (h4 : X' 1004 = X 1004) (h : zch X c nb v b L) : zch X' c nb v b L := by
  obtain ⟨k1, k2, k3⟩ := h
  refine ⟨k1, k2, fun t ht => ?_⟩
  obtain ⟨l1, l2, l3, l4, l5⟩ := k3 t ht
  exact ⟨l1, l2, by rw [l3, zlwm_c h1 h2 h3 h4], l4, by rw [l5, h1, h2]⟩
section ZK
variable {Y : zLy} {n s : Nat} {X : zX} {G : Nat × Nat} {t p q r u z : Int}
/-- the class's checks before a way is looked for -/
theorem c_wire0 (hF : wF Y) (hp : 0 ≤ p ∧ p < Y.2.2.2.2 0 1) (hr : 0 ≤ r ∧ r < Y.2.2.2.2 0 1) (hq : -2147483648 ≤ q ∧ q < 2147483648) (hu : -2147483648 ≤ u ∧ u < 2147483648) (h1 : 0 ≤ X 81 p ∧ X 81 p ≤ 8) (h2 : 0 ≤ X 81 r ∧ X 81 r ≤ 8) (v : Int) (hv : v = if (0 ≤ q ∧ q < X 81 p) ∧ (0 ≤ u ∧ u < X 81 r) then 1 else 0) : ev_ G 67 0 [.ref (wA Y 13 0), .int (zJ p), .int (zJ q), .int (zJ r), .int (zJ u), .int (zJ z), zU, zU] [] (wd Y n s X) = ev_ G 67 44 [.ref (wA Y 13 0), .int (zJ p), .int (zJ q), .int (zJ r), .int (zJ u), .int (zJ z), .ref (wA Y 4 p), .ref (wA Y 4 r)] [.int (zJ v)] (wd Y n s X) := by
  have h13 := hF.2.1
  have hVp : wV Y 4 p := hF.2.2.2.2.2.2.2.2.2.1 p hp.1 hp.2
  have hVr : wV Y 4 r := hF.2.2.2.2.2.2.2.2.2.1 r hr.1 hr.2
  subst hv
  rw [q_X11_wire_0, k13 h13, c_connectorAt hF hp.1 hp.2, t_R, k13 h13, c_connectorAt hF hr.1 hr.2, t_R, g4_1 hVp, t_b, c_isIndex hq.1 hq.2 (by omega) (by omega), t_I]
  by_cases k1 : 0 ≤ q ∧ q < X 81 p
  · rw [zB_1 k1, e_1, g4_1 hVr, t_b, c_isIndex hu.1 hu.2 (by omega) (by omega), t_I]
    by_cases k2 : 0 ≤ u ∧ u < X 81 r
    · rw [zB_1 k2, e_1, if_pos ⟨k1, k2⟩, l_1]
    · rw [zB_0 k2, e_0, if_neg (fun g => k2 g.2), l_0]
  · rw [zB_0 k1, e_0, if_neg (fun g => k1 g.1), l_0]
theorem c_wire44 {a6 a7 : Nat} (hp : -2147483648 ≤ p ∧ p < 2147483648) (hr : -2147483648 ≤ r ∧ r < 2147483648) (hz : -2147483648 ≤ z ∧ z < 2147483648) (v : Int) (hv : v = if p ≠ r ∧ (0 ≤ z ∧ z ≤ 7) then 1 else 0) {x1 : Nat} {x2 x4 : Int32} : ev_ G 67 44 [.ref x1, .int (zJ p), .int x2, .int (zJ r), .int x4, .int (zJ z), .ref a6, .ref a7] [.int (zJ 1)] (wd Y n s X) = ev_ G 67 67 [.ref x1, .int (zJ p), .int x2, .int (zJ r), .int x4, .int (zJ z), .ref a6, .ref a7] [.int (zJ v)] (wd Y n s X) := by
  subst hv
  rw [q_X11_wire_44, c_cIx1, t_V]
  by_cases k1 : p = r
  · rw [if_pos (by rw [k1]), if_neg (fun g => g.1 k1), l_0]
  · rw [if_neg (by rw [zJ_eq hp.1 hp.2 hr.1 hr.2]; exact k1), l_8, c_isIndex hz.1 hz.2 (by decide) (by decide), t_I]
    by_cases k2 : 0 ≤ z ∧ z ≤ 7
    · rw [zB_1 (by omega), e_1, if_pos ⟨k1, k2⟩, l_1]
    · rw [zB_0 (by omega), e_0, if_neg (fun g => k2 g.2), l_0]
theorem c_wire67 (hp : wV Y 4 p) (hr : wV Y 4 r) (v : Int) (hv : v = if zbt (X 84 p) q = false ∧ zbt (X 84 r) u = false then 1 else 0) {x1 : Nat} {x2 x4 x5 : Int32} : ev_ G 67 67 [.ref x1, .int x2, .int (zJ q), .int x4, .int (zJ u), .int x5, .ref (wA Y 4 p), .ref (wA Y 4 r)] [.int (zJ 1)] (wd Y n s X) = ev_ G 67 94 [.ref x1, .int x2, .int (zJ q), .int x4, .int (zJ u), .int x5, .ref (wA Y 4 p), .ref (wA Y 4 r)] [.int (zJ v)] (wd Y n s X) := by
  subst hv
  rw [q_X11_wire_67, c_cAr1, t_V, k4 hp, c_isFree hp, t_I]
  by_cases k1 : zbt (X 84 p) q = false
  · rw [zB_1 k1, e_1, k4 hr, c_isFree hr, t_I]
    by_cases k2 : zbt (X 84 r) u = false
    · rw [zB_1 k2, e_1, if_pos ⟨k1, k2⟩, l_1]
    · rw [zB_0 k2, e_0, if_neg (fun g => k2 g.2), l_0]
  · rw [zB_0 k1, e_0, if_neg (fun g => k1 g.1), l_0]
end ZK
