/-! THE LAW, 7: its calls -/
section ZL
variable {Y : zLy} {n s : Nat} {X : zX} {G : Nat × Nat} {t p q r u z : Int} {e1 e2 e3 e4 e5 : Int32}
theorem d_bundle (hY : wY Y n) (hG : Y.1 = G.1) (hI : iAll t Y.2.2.2.2 X) (hp : -2147483648 ≤ p ∧ p < 2147483648) (hq : -2147483648 ≤ q ∧ q < 2147483648) (hr : -2147483648 ≤ r ∧ r < 2147483648) (hu : -2147483648 ≤ u ∧ u < 2147483648) : zdoes [(0, 1), (1, 2), (2, 3)] t Y n s X (ev_ G 207 0 [.ref (wA Y 13 0), .int (zJ 0), .int (zJ p), .int (zJ q), .int (zJ r), .int (zJ u), .int e1, zU] [] (wd Y n s X)) (dBundle X p q r u) := by
  have h13 := (wY_F hY).2.1
  rw [q_L_does_0, if_pos (by decide), k13 h13]
  exact dz (k_bundle hY hG hI hp hq hr hu) (by decide) (fun _ _ _ _ => rfl)
theorem d_connector (hY : wY Y n) (hG : Y.1 = G.1) (hI : iAll t Y.2.2.2.2 X) (hp : -2147483648 ≤ p ∧ p < 2147483648) (hq : -2147483648 ≤ q ∧ q < 2147483648) (hr : -2147483648 ≤ r ∧ r < 2147483648) : zdoes [(0, 1), (1, 2), (2, 3)] t Y n s X (ev_ G 207 0 [.ref (wA Y 13 0), .int (zJ 1), .int (zJ p), .int (zJ q), .int (zJ r), .int e1, .int e2, zU] [] (wd Y n s X)) (dConnector X p q r) := by
  have h13 := (wY_F hY).2.1
  rw [q_L_does_0, if_neg (by decide), if_pos (by decide), k13 h13]
  exact dz (k_connector hY hG hI hp hq hr) (by decide) (fun _ _ _ _ => rfl)
theorem d_mates (hY : wY Y n) (hG : Y.1 = G.1) (hI : iAll t Y.2.2.2.2 X) (hp : -2147483648 ≤ p ∧ p < 2147483648) (hq : -2147483648 ≤ q ∧ q < 2147483648) : zdoes [(0, 1), (1, 2), (2, 3)] t Y n s X (ev_ G 207 0 [.ref (wA Y 13 0), .int (zJ 2), .int (zJ p), .int (zJ q), .int e1, .int e2, .int e3, zU] [] (wd Y n s X)) (dMates X p q) := by
  have h13 := (wY_F hY).2.1
  rw [q_L_does_0, if_neg (by decide), if_neg (by decide), if_pos (by decide), k13 h13]
  exact dz (k_mates hY hI hp hq) (by decide) (fun _ _ _ _ => rfl)
theorem d_wire (hY : wY Y n) (hG : Y.1 = G.1) (hI : iAll t Y.2.2.2.2 X) (hp : -2147483648 ≤ p ∧ p < 2147483648) (hq : -2147483648 ≤ q ∧ q < 2147483648) (hr : -2147483648 ≤ r ∧ r < 2147483648) (hu : -2147483648 ≤ u ∧ u < 2147483648) (hz : -2147483648 ≤ z ∧ z < 2147483648) : zdoes [(0, 1), (1, 2), (2, 3)] t Y n s X (ev_ G 207 0 [.ref (wA Y 13 0), .int (zJ 3), .int (zJ p), .int (zJ q), .int (zJ r), .int (zJ u), .int (zJ z), zU] [] (wd Y n s X)) (dWire X p q r u z) := by
  have h13 := (wY_F hY).2.1
  rw [q_L_does_0, if_neg (by decide), if_neg (by decide), if_neg (by decide), if_pos (by decide), k13 h13]
  exact dz (k_wire hY hG hI hp hq hr hu hz) (by decide) (fun _ _ _ _ => rfl)
theorem d_pull (hY : wY Y n) (hG : Y.1 = G.1) (hI : iAll t Y.2.2.2.2 X) (hp : -2147483648 ≤ p ∧ p < 2147483648) : zdoes [(0, 1), (2, 2)] t Y n s X (ev_ G 207 0 [.ref (wA Y 13 0), .int (zJ 4), .int (zJ p), .int e1, .int e2, .int e3, .int e4, zU] [] (wd Y n s X)) (dPull X p) := by
  have h13 := (wY_F hY).2.1
  rw [q_L_does_0, if_neg (by decide), if_neg (by decide), if_neg (by decide), if_neg (by decide), if_pos (by decide), k13 h13]
  exact dz (k_pull hY hI hp) (by decide) (fun _ _ _ _ => rfl)
theorem d_reel (hY : wY Y n) (hG : Y.1 = G.1) (hI : iAll t Y.2.2.2.2 X) (hp : -2147483648 ≤ p ∧ p < 2147483648) (hq : -2147483648 ≤ q ∧ q < 2147483648) (hr : -2147483648 ≤ r ∧ r < 2147483648) : zdoes [(0, 1), (1, 2), (2, 3)] t Y n s X (ev_ G 207 0 [.ref (wA Y 13 0), .int (zJ 8), .int (zJ p), .int (zJ q), .int (zJ r), .int e1, .int e2, zU] [] (wd Y n s X)) (dReel X p q r) := by
  have h13 := (wY_F hY).2.1
  rw [q_L_does_0, if_neg (by decide), if_neg (by decide), if_neg (by decide), if_neg (by decide), if_neg (by decide), if_neg (by decide), if_neg (by decide), if_neg (by decide), if_pos (by decide), k13 h13]
  exact dz (k_reel hY hG hI hp hq hr) (by decide) (fun _ _ _ _ => rfl)
theorem d_board (hY : wY Y n) (hG : Y.1 = G.1) (hI : iAll t Y.2.2.2.2 X)  : zdoes [(2, 1)] t Y n s X (ev_ G 207 0 [.ref (wA Y 13 0), .int (zJ 11), .int e1, .int e2, .int e3, .int e4, .int e5, zU] [] (wd Y n s X)) (dBoard X) := by
  have h13 := (wY_F hY).2.1
  rw [q_L_does_0, if_neg (by decide), if_neg (by decide), if_neg (by decide), if_neg (by decide), if_neg (by decide), if_neg (by decide), if_neg (by decide), if_neg (by decide), if_neg (by decide), if_neg (by decide), if_neg (by decide), if_pos (by decide), k13 h13]
  exact dz (k_board hY hG hI) (by decide) (fun _ _ _ _ => rfl)
theorem d_place (hY : wY Y n) (hG : Y.1 = G.1) (hI : iAll t Y.2.2.2.2 X) (hp : -2147483648 ≤ p ∧ p < 2147483648) (hq : -2147483648 ≤ q ∧ q < 2147483648) (hr : -2147483648 ≤ r ∧ r < 2147483648) : zdoes [(0, 1), (2, 2)] t Y n s X (ev_ G 207 0 [.ref (wA Y 13 0), .int (zJ 12), .int (zJ p), .int (zJ q), .int (zJ r), .int e1, .int e2, zU] [] (wd Y n s X)) (dPlace X p q r) := by
  have h13 := (wY_F hY).2.1
  rw [q_L_does_0, if_neg (by decide), if_neg (by decide), if_neg (by decide), if_neg (by decide), if_neg (by decide), if_neg (by decide), if_neg (by decide), if_neg (by decide), if_neg (by decide), if_neg (by decide), if_neg (by decide), if_neg (by decide), if_pos (by decide), k13 h13]
  exact dz (k_place hY hI hp hq hr) (by decide) (fun _ _ _ _ => rfl)
theorem d_solder (hY : wY Y n) (hG : Y.1 = G.1) (hI : iAll t Y.2.2.2.2 X) (hp : -2147483648 ≤ p ∧ p < 2147483648) : zdoes [(0, 1), (2, 2)] t Y n s X (ev_ G 207 0 [.ref (wA Y 13 0), .int (zJ 14), .int (zJ p), .int e1, .int e2, .int e3, .int e4, zU] [] (wd Y n s X)) (dSolder X p) := by
  have h13 := (wY_F hY).2.1
  rw [q_L_does_0, if_neg (by decide), if_neg (by decide), if_neg (by decide), if_neg (by decide), if_neg (by decide), if_neg (by decide), if_neg (by decide), if_neg (by decide), if_neg (by decide), if_neg (by decide), if_neg (by decide), if_neg (by decide), if_neg (by decide), if_neg (by decide), if_pos (by decide), k13 h13]
  exact dz (k_solder hY hI hp) (by decide) (fun _ _ _ _ => rfl)
theorem d_test (hY : wY Y n) (hG : Y.1 = G.1) (hI : iAll t Y.2.2.2.2 X) (hp : -2147483648 ≤ p ∧ p < 2147483648) : zdoes [(0, 1), (2, 2)] t Y n s X (ev_ G 207 0 [.ref (wA Y 13 0), .int (zJ 17), .int (zJ p), .int e1, .int e2, .int e3, .int e4, zU] [] (wd Y n s X)) (dTest X p) := by
  have h13 := (wY_F hY).2.1
  rw [q_L_does_0, if_neg (by decide), if_neg (by decide), if_neg (by decide), if_neg (by decide), if_neg (by decide), if_neg (by decide), if_neg (by decide), if_neg (by decide), if_neg (by decide), if_neg (by decide), if_neg (by decide), if_neg (by decide), if_neg (by decide), if_neg (by decide), if_neg (by decide), if_neg (by decide), if_neg (by decide), if_pos (by decide), k13 h13]
  exact dz (k_test hY hI hp) (by decide) (fun _ _ _ _ => rfl)
theorem d_repair (hY : wY Y n) (hG : Y.1 = G.1) (hI : iAll t Y.2.2.2.2 X) (hp : -2147483648 ≤ p ∧ p < 2147483648) (hq : -2147483648 ≤ q ∧ q < 2147483648) (hr : -2147483648 ≤ r ∧ r < 2147483648) : zdoes [(0, 1), (2, 2)] t Y n s X (ev_ G 207 0 [.ref (wA Y 13 0), .int (zJ 18), .int (zJ p), .int (zJ q), .int (zJ r), .int e1, .int e2, zU] [] (wd Y n s X)) (dRepair X p q r) := by
  have h13 := (wY_F hY).2.1
  rw [q_L_does_0, if_neg (by decide), if_neg (by decide), if_neg (by decide), if_neg (by decide), if_neg (by decide), if_neg (by decide), if_neg (by decide), if_neg (by decide), if_neg (by decide), if_neg (by decide), if_neg (by decide), if_neg (by decide), if_neg (by decide), if_neg (by decide), if_neg (by decide), if_neg (by decide), if_neg (by decide), if_neg (by decide), if_pos (by decide), k13 h13]
  exact dz (k_repair hY hI hp hq hr) (by decide) (fun _ _ _ _ => rfl)
theorem d_ship (hY : wY Y n) (hG : Y.1 = G.1) (hI : iAll t Y.2.2.2.2 X) (hp : -2147483648 ≤ p ∧ p < 2147483648) : zdoes [(0, 1), (2, 2)] t Y n s X (ev_ G 207 0 [.ref (wA Y 13 0), .int (zJ 19), .int (zJ p), .int e1, .int e2, .int e3, .int e4, zU] [] (wd Y n s X)) (dShip X p) := by
  have h13 := (wY_F hY).2.1
  rw [q_L_does_0, if_neg (by decide), if_neg (by decide), if_neg (by decide), if_neg (by decide), if_neg (by decide), if_neg (by decide), if_neg (by decide), if_neg (by decide), if_neg (by decide), if_neg (by decide), if_neg (by decide), if_neg (by decide), if_neg (by decide), if_neg (by decide), if_neg (by decide), if_neg (by decide), if_neg (by decide), if_neg (by decide), if_neg (by decide), if_pos (by decide), k13 h13]
  exact dz (k_ship hY hI hp) (by decide) (fun _ _ _ _ => rfl)
theorem d_pass (hY : wY Y n) (hG : Y.1 = G.1) (hI : iAll t Y.2.2.2.2 X) (hp : -2147483648 ≤ p ∧ p < 2147483648) : zdoes [(1, 1), (2, 2)] t Y n s X (ev_ G 207 0 [.ref (wA Y 13 0), .int (zJ 20), .int (zJ p), .int e1, .int e2, .int e3, .int e4, zU] [] (wd Y n s X)) (dPass X p) := by
  have h13 := (wY_F hY).2.1
  rw [q_L_does_0, if_neg (by decide), if_neg (by decide), if_neg (by decide), if_neg (by decide), if_neg (by decide), if_neg (by decide), if_neg (by decide), if_neg (by decide), if_neg (by decide), if_neg (by decide), if_neg (by decide), if_neg (by decide), if_neg (by decide), if_neg (by decide), if_neg (by decide), if_neg (by decide), if_neg (by decide), if_neg (by decide), if_neg (by decide), if_neg (by decide), if_pos (by decide), k13 h13]
  exact dz (k_pass hY hI hp) (by decide) (fun _ _ _ _ => rfl)
theorem d_crimp (hY : wY Y n) (hG : Y.1 = G.1) (hI : iAll t Y.2.2.2.2 X) (ht : t < 1000) (hp : -2147483648 ≤ p ∧ p < 2147483648) : zdoes [(1, 1)] t Y n s X (ev_ G 207 0 [.ref (wA Y 13 0), .int (zJ 7), .int (zJ p), .int e1, .int e2, .int e3, .int e4, zU] [] (wd Y n s X)) (dCrimp X p) := by
  have h13 := (wY_F hY).2.1
  rw [q_L_does_0, if_neg (by decide), if_neg (by decide), if_neg (by decide), if_neg (by decide), if_neg (by decide), if_neg (by decide), if_neg (by decide), if_pos (by decide), k13 h13]
  refine dz (k_crimp hY hI ht hp) (by decide) (fun a X2 h W => ?_)
  have hA : 1 ≤ p ∧ p ≤ 9999 := by
    by_cases g : 1 ≤ p ∧ p ≤ 9999
    · exact g
    · exact absurd (h.1 g) (by decide)
  obtain ⟨-, h1, h2⟩ := h.2.1 hA
  have ha : a = 0 ∨ a = 1 := by
    by_cases g : zjd X p
    · exact .inr (h1 g).1
    · exact .inl (h2 g).1
  rcases ha with rfl | rfl
  · exact if_pos (by decide)
  · exact if_neg (by decide)
theorem d_open (hY : wY Y n) (hG : Y.1 = G.1) (hI : iAll t Y.2.2.2.2 X) (hp : -2147483648 ≤ p ∧ p < 2147483648) (hq : q = 0 ∨ q = 1) : zdoes [(0, 1), (2, 2)] t Y n s X (ev_ G 207 0 [.ref (wA Y 13 0), .int (zJ 9), .int (zJ p), .int (zJ q), .int e1, .int e2, .int e3, zU] [] (wd Y n s X)) (dOpen X p q) := by
  have h13 := (wY_F hY).2.1
  have hk := k_open (G := G) (s := s) hY hI hp hq
  have e : ev_ G 207 0 [.ref (wA Y 13 0), .int (zJ 9), .int (zJ p), .int (zJ q), .int e1, .int e2, .int e3, zU] [] (wd Y n s X) = ev_ G 207 166 [.ref (wA Y 13 0), .int (zJ 9), .int (zJ p), .int (zJ q), .int e1, .int e2, .int e3, zU] [.int (zJ q), .int (zJ p), .ref (wA Y 13 0)] (wd Y n s X) := by
    rcases hq with rfl | rfl
    · rw [q_L_does_0, if_neg (by decide), if_neg (by decide), if_neg (by decide), if_neg (by decide), if_neg (by decide), if_neg (by decide), if_neg (by decide), if_neg (by decide), if_neg (by decide), if_pos (by decide), if_neg (by decide)]
      rfl
    · rw [q_L_does_0, if_neg (by decide), if_neg (by decide), if_neg (by decide), if_neg (by decide), if_neg (by decide), if_neg (by decide), if_neg (by decide), if_neg (by decide), if_neg (by decide), if_pos (by decide), if_pos (by decide)]
      rfl
  rw [e, q_L_does_166, k13 h13]
  exact dz hk (by decide) (fun _ _ _ _ => rfl)
theorem d_cover (hY : wY Y n) (hG : Y.1 = G.1) (hI : iAll t Y.2.2.2.2 X) (hp : -2147483648 ≤ p ∧ p < 2147483648) (hq : q = 0 ∨ q = 1) : zdoes [(0, 1)] t Y n s X (ev_ G 207 0 [.ref (wA Y 13 0), .int (zJ 16), .int (zJ p), .int (zJ q), .int e1, .int e2, .int e3, zU] [] (wd Y n s X)) (dCover X p q) := by
  have h13 := (wY_F hY).2.1
  have hk := k_cover (G := G) (s := s) hY hI hp hq
  have e : ev_ G 207 0 [.ref (wA Y 13 0), .int (zJ 16), .int (zJ p), .int (zJ q), .int e1, .int e2, .int e3, zU] [] (wd Y n s X) = ev_ G 207 283 [.ref (wA Y 13 0), .int (zJ 16), .int (zJ p), .int (zJ q), .int e1, .int e2, .int e3, zU] [.int (zJ q), .int (zJ p), .ref (wA Y 13 0)] (wd Y n s X) := by
    rcases hq with rfl | rfl
    · rw [q_L_does_0, if_neg (by decide), if_neg (by decide), if_neg (by decide), if_neg (by decide), if_neg (by decide), if_neg (by decide), if_neg (by decide), if_neg (by decide), if_neg (by decide), if_neg (by decide), if_neg (by decide), if_neg (by decide), if_neg (by decide), if_neg (by decide), if_neg (by decide), if_neg (by decide), if_pos (by decide), if_neg (by decide)]
      rfl
    · rw [q_L_does_0, if_neg (by decide), if_neg (by decide), if_neg (by decide), if_neg (by decide), if_neg (by decide), if_neg (by decide), if_neg (by decide), if_neg (by decide), if_neg (by decide), if_neg (by decide), if_neg (by decide), if_neg (by decide), if_neg (by decide), if_neg (by decide), if_neg (by decide), if_neg (by decide), if_pos (by decide), if_pos (by decide)]
      rfl
  rw [e, q_L_does_283, k13 h13]
  exact dz hk (by decide) (fun _ _ _ _ => rfl)
theorem d_limits (hY : wY Y n) (hG : Y.1 = G.1) (hI : iAll t Y.2.2.2.2 X) (hp : -2147483648 ≤ p ∧ p < 2147483648) (hq : -2147483648 ≤ q ∧ q < 2147483648) (hr : -2147483648 ≤ r ∧ r < 2147483648) (hz : z = 0 ∨ z = 1) : zdoes [(0, 1), (1, 2)] t Y n s X (ev_ G 207 0 [.ref (wA Y 13 0), .int (zJ 13), .int (zJ z), .int (zJ p), .int (zJ q), .int (zJ r), .int e1, zU] [] (wd Y n s X)) (fun c a X2 => a = 0 ∧ dLimits X z p q r c a X2) := by
  have h13 := (wY_F hY).2.1
  have hk := k_limits (G := G) (s := s) hY hI hp hq hr hz
  have e : ev_ G 208 0 [.ref (wA Y 13 0), .int (zJ z), .int (zJ p), .int (zJ q), .int (zJ r)] [] (wd Y n s X) = zthV (ev_ G 157 0 [.ref (wA Y 13 0), .int (zJ z), .int (zJ p), .int (zJ q), .int (zJ r)] [] (wd Y n s X)) (fun W1 => some (.inl (some (.int 0)), W1)) zxe := by
    rcases hz with rfl | rfl
    · rw [q_L_limited_0, if_neg (by decide), k13 h13]
      rfl
    · rw [q_L_limited_0, if_pos (by decide), k13 h13]
      rfl
  rw [q_L_does_0, if_neg (by decide), if_neg (by decide), if_neg (by decide), if_neg (by decide), if_neg (by decide), if_neg (by decide), if_neg (by decide), if_neg (by decide), if_neg (by decide), if_neg (by decide), if_neg (by decide), if_neg (by decide), if_neg (by decide), if_pos (by decide), e]
  exact dzN hk (by decide)
theorem d_flaw (hY : wY Y n) (hG : Y.1 = G.1) (hI : iAll t Y.2.2.2.2 X) (hp : -2147483648 ≤ p ∧ p < 2147483648) (hq : -2147483648 ≤ q ∧ q < 2147483648) : zdoes [(0, 1), (2, 2)] t Y n s X (ev_ G 207 0 [.ref (wA Y 13 0), .int (zJ 15), .int (zJ p), .int (zJ q), .int e1, .int e2, .int e3, zU] [] (wd Y n s X)) (fun c a X2 => a = 0 ∧ dFlaw X p q c a X2) := by
  have h13 := (wY_F hY).2.1
  rw [q_L_does_0, if_neg (by decide), if_neg (by decide), if_neg (by decide), if_neg (by decide), if_neg (by decide), if_neg (by decide), if_neg (by decide), if_neg (by decide), if_neg (by decide), if_neg (by decide), if_neg (by decide), if_neg (by decide), if_neg (by decide), if_neg (by decide), if_neg (by decide), if_pos (by decide), q_L_flawed_0, k13 h13]
  exact dzN (k_flaw hY hI hp hq) (by decide)
theorem d_ofWire (hY : wY Y n) (hG : Y.1 = G.1) (hI : iAll t Y.2.2.2.2 X) (hp : 0 ≤ p ∧ p < Y.2.2.2.2 0 2) (hq : -1 ≤ q) (hq' : -2147483648 ≤ q ∧ q < 2147483648) : ev_ G 207 0 [.ref (wA Y 13 0), .int (zJ 5), .int (zJ p), .int (zJ q), .int e1, .int e2, .int e3, zU] [] (wd Y n s X) = some (.inl (some (.int (zJ (if q = -1 then (if X 246 p = 0 then X 245 p else 0) else if X 1011 p = 0 ∧ q < X 1014 p then X 1015 (16 * p + q) else -1)))), wd Y n s X) := by
  have h13 := (wY_F hY).2.1
  rw [q_L_does_0, if_neg (by decide), if_neg (by decide), if_neg (by decide), if_neg (by decide), if_neg (by decide), if_pos (by decide), k13 h13, qc_ofWire hY hI hp hq hq', t_I]
theorem d_ofWire_no (hY : wY Y n) (hp : -2147483648 ≤ p ∧ p < 2147483648) (g : ¬(0 ≤ p ∧ p < Y.2.2.2.2 0 2)) : ev_ G 207 0 [.ref (wA Y 13 0), .int (zJ 5), .int (zJ p), .int (zJ q), .int e1, .int e2, .int e3, zU] [] (wd Y n s X) = some (.inl (some (.int (zJ (-3000000)))), wd Y (n + 1) (s + 6) X) := by
  have h13 := (wY_F hY).2.1
  rw [q_L_does_0, if_neg (by decide), if_neg (by decide), if_neg (by decide), if_neg (by decide), if_neg (by decide), if_pos (by decide), k13 h13, qc_ofWire_no hY hp g, t_Ie, if_pos rfl]
  rfl
theorem d_ofReel_no (hY : wY Y n) (hp : -2147483648 ≤ p ∧ p < 2147483648) (g : ¬(0 ≤ p ∧ p < Y.2.2.2.2 0 3)) : ev_ G 207 0 [.ref (wA Y 13 0), .int (zJ 10), .int (zJ p), .int (zJ q), .int e1, .int e2, .int e3, zU] [] (wd Y n s X) = some (.inl (some (.int (zJ (-3000000)))), wd Y (n + 1) (s + 6) X) := by
  have h13 := (wY_F hY).2.1
  rw [q_L_does_0, if_neg (by decide), if_neg (by decide), if_neg (by decide), if_neg (by decide), if_neg (by decide), if_neg (by decide), if_neg (by decide), if_neg (by decide), if_neg (by decide), if_neg (by decide), if_pos (by decide), k13 h13, qc_ofReel_no hY hp g, t_Ie, if_pos rfl]
  rfl
theorem d_ofSlot_no (hY : wY Y n) (hp : -2147483648 ≤ p ∧ p < 2147483648) (g : ¬(0 ≤ p ∧ p < Y.2.2.2.2 0 4)) : ev_ G 207 0 [.ref (wA Y 13 0), .int (zJ 21), .int (zJ p), .int (zJ q), .int (zJ r), .int e1, .int e2, zU] [] (wd Y n s X) = some (.inl (some (.int (zJ (-3000000)))), wd Y (n + 1) (s + 6) X) := by
  have h13 := (wY_F hY).2.1
  rw [q_L_does_0, if_neg (by decide), if_neg (by decide), if_neg (by decide), if_neg (by decide), if_neg (by decide), if_neg (by decide), if_neg (by decide), if_neg (by decide), if_neg (by decide), if_neg (by decide), if_neg (by decide), if_neg (by decide), if_neg (by decide), if_neg (by decide), if_neg (by decide), if_neg (by decide), if_neg (by decide), if_neg (by decide), if_neg (by decide), if_neg (by decide), if_neg (by decide), if_pos (by decide), k13 h13, qc_ofSlot_no hY hp g, t_Ie, if_pos rfl]
  rfl
end ZL
