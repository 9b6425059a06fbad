/-! THE LAW, 5: the shortest way by going through all, on -/
def zfi (x : Int) : Int := 8 * (x / 100) + x % 100
theorem zwk_m {X : zX} {nb gl : Int} (hl : ∀ i, 0 ≤ i → i < nb → 1 ≤ X 1003 i ∧ X 1003 i ≤ 999) : ∀ (m : Nat) (v x : Int), m ≤ 50 → zwk X nb gl m v x → x % 100 = m ∧ 0 ≤ x ∧ x / 100 ≤ 999 * m := by
  intro m
  induction m with
  | zero =>
    rintro v x _ ⟨-, rfl⟩
    decide
  | succ m ih =>
    rintro v x hm ⟨i, u, y, hi, ho, he, hy, rfl⟩
    have h1 := ih u y (by omega) hy
    have h2 := hl i hi.1 hi.2
    omega
theorem zlwm_i {X : zX} {c : Int → Int} {v : Int} : ∀ (m : Nat) (f : Int), (zlwm X c v m f = f ∧ ∀ i, 0 ≤ i → i < (m : Int) → ¬zonm X c v i) ∨ ((0 ≤ zlwm X c v m f ∧ zlwm X c v m f < m) ∧ zonm X c v (zlwm X c v m f) ∧ ∀ j, 0 ≤ j → j < zlwm X c v m f → ¬zonm X c v j) := by
  intro m
  induction m with
  | zero => intro f; exact .inl ⟨rfl, fun i a b => by omega⟩
  | succ m ih =>
    intro f
    show (zlwm X c v m (if zonm X c v m then (m : Int) else f) = f ∧ _) ∨ ((0 ≤ zlwm X c v m (if zonm X c v m then (m : Int) else f) ∧ zlwm X c v m (if zonm X c v m then (m : Int) else f) < _) ∧ zonm X c v (zlwm X c v m (if zonm X c v m then (m : Int) else f)) ∧ ∀ j, 0 ≤ j → j < zlwm X c v m (if zonm X c v m then (m : Int) else f) → ¬zonm X c v j)
    by_cases hm : zonm X c v m
    · rw [if_pos hm]
      rcases ih (m : Int) with ⟨h1, h2⟩ | ⟨h1, h2, h3⟩
      · refine .inr ⟨by omega, by rw [h1]; exact hm, fun j a b => h2 j a (by omega)⟩
      · exact .inr ⟨by omega, h2, h3⟩
    · rw [if_neg hm]
      rcases ih f with ⟨h1, h2⟩ | ⟨h1, h2, h3⟩
      · refine .inl ⟨h1, fun i a b => ?_⟩
        by_cases hi : i = m
        · rw [hi]; exact hm
        · exact h2 i a (by omega)
      · exact .inr ⟨by omega, h2, h3⟩
section ZW
variable {Y : zLy} {n s a : Nat} {X : zX} {G : Nat × Nat} {R N E S N' E' S' : Int → Int} {gl best d nb i v k : Int} {fr : Int32}
theorem zVs_c (h : zVs N E S d) (hN : ∀ j, 0 ≤ j → j ≤ d → N' j = N j) (hS : S' d = S d) (hE : 0 ≤ E' d) : zVs N' E' S' d := by
  obtain ⟨h1, h2, h3, h4⟩ := h
  refine ⟨fun i a b => ?_, fun i j a b c => ?_, ?_, hE⟩
  · rw [hN i a b]
    exact h1 i a b
  · rw [hN i a (by omega), hN j (by omega) c]
    exact h2 i j a b c
  · rw [hS]
    exact h3
theorem way_pop (h : wWy Y a X nb gl) (hv : zVs N E S d) (hd : 0 ≤ d ∧ d ≤ 7) (hE : E d ≤ nb) (hb : -1 ≤ best ∧ best ≤ 100000) (hc : N d = gl ∨ E d = nb ∨ (0 ≤ best ∧ best ≤ S d * 8 + d)) {u11 u12 u13 u14 u15 : Value} : ∃ (best' : Int) (R' : Int → Int) (w11 w12 w13 w14 w15 : Value), ev_ G 210 29 [.ref (wA Y 15 600), .ref (wA Y 15 601), .ref (wA Y 15 613), .int fr, .int (zJ gl), .ref a, .ref (a + 1), .ref (a + 2), .ref (a + 3), .int (zJ (best)), .int (zJ (d)), u11, u12, u13, u14, u15] [] (wd (yW Y a R N E S) n s X) = ev_ G 210 29 [.ref (wA Y 15 600), .ref (wA Y 15 601), .ref (wA Y 15 613), .int fr, .int (zJ gl), .ref a, .ref (a + 1), .ref (a + 2), .ref (a + 3), .int (zJ (best')), .int (zJ (d + -1)), w11, w12, w13, w14, w15] [] (wd (yW Y a R' N E S) n s X) ∧ (-1 ≤ best' ∧ best' ≤ 100000) ∧ ((best' = best ∧ R' = R) ∨ (N d = gl ∧ best' = S d * 8 + d ∧ (best < 0 ∨ best' < best) ∧ R' = zrwy d 0 E R)) := by
  obtain ⟨u, e⟩ := way_29 (G := G) (n := n) (s := s) (R := R) (fr := fr) (u11 := u11) (u12 := u12) (u13 := u13) (u14 := u14) (u15 := u15) h hv hd hb
  have hS := hv.2.2.1
  by_cases k1 : N d = gl ∧ (best < 0 ∨ S d * 8 + d < best)
  · rw [if_pos k1] at e
    refine ⟨S d * 8 + d, zrwy d 0 E R, _, _, _, _, _, e.trans ((way_112 h hv hd hE (by omega)).trans (if_pos (.inl k1.1))), by omega, .inr ⟨k1.1, rfl, k1.2, rfl⟩⟩
  · rw [if_neg k1] at e
    exact ⟨best, R, _, _, _, _, _, e.trans ((way_112 h hv hd hE hb).trans (if_pos hc)), hb, .inl ⟨rfl, rfl⟩⟩
theorem way_rec (h : wWy Y a X nb gl) (hv : zVs N E S d) (hd : 0 ≤ d ∧ d ≤ 7) (hE : E d ≤ nb) (hb : -1 ≤ best ∧ best ≤ 100000) (hN : N d = gl) (hp : best < 0 ∨ S d * 8 + d < best) {u11 u12 u13 u14 u15 : Value} : ∃ (w11 w12 w13 w14 w15 : Value), ev_ G 210 29 [.ref (wA Y 15 600), .ref (wA Y 15 601), .ref (wA Y 15 613), .int fr, .int (zJ gl), .ref a, .ref (a + 1), .ref (a + 2), .ref (a + 3), .int (zJ (best)), .int (zJ (d)), u11, u12, u13, u14, u15] [] (wd (yW Y a R N E S) n s X) = ev_ G 210 29 [.ref (wA Y 15 600), .ref (wA Y 15 601), .ref (wA Y 15 613), .int fr, .int (zJ gl), .ref a, .ref (a + 1), .ref (a + 2), .ref (a + 3), .int (zJ (S d * 8 + d)), .int (zJ (d + -1)), w11, w12, w13, w14, w15] [] (wd (yW Y a (zrwy d 0 E R) N E S) n s X) := by
  obtain ⟨u, e⟩ := way_29 (G := G) (n := n) (s := s) (R := R) (fr := fr) (u11 := u11) (u12 := u12) (u13 := u13) (u14 := u14) (u15 := u15) h hv hd hb
  have hS := hv.2.2.1
  rw [if_pos ⟨hN, hp⟩] at e
  exact ⟨_, _, _, _, _, e.trans ((way_112 h hv hd hE (by omega)).trans (if_pos (.inl hN)))⟩
theorem way_go (h : wWy Y a X nb gl) (hv : zVs N E S d) (hd : 0 ≤ d ∧ d ≤ 7) (hE : E d < nb) (hb : -1 ≤ best ∧ best ≤ 100000) (hN : N d ≠ gl) (hp : best < 0 ∨ S d * 8 + d < best) {u11 u12 u13 u14 u15 : Value} : ev_ G 210 29 [.ref (wA Y 15 600), .ref (wA Y 15 601), .ref (wA Y 15 613), .int fr, .int (zJ gl), .ref a, .ref (a + 1), .ref (a + 2), .ref (a + 3), .int (zJ (best)), .int (zJ (d)), u11, u12, u13, u14, u15] [] (wd (yW Y a R N E S) n s X) = ev_ G 210 224 [.ref (wA Y 15 600), .ref (wA Y 15 601), .ref (wA Y 15 613), .int fr, .int (zJ gl), .ref a, .ref (a + 1), .ref (a + 2), .ref (a + 3), .int (zJ (best)), .int (zJ (d)), .int (zJ (S d * 8 + d)), .int (zJ (E d)), u13, u14, u15] [.int (zJ (zac (X 1001 (E d)) (X 1002 (E d)) (N d)))] (wd (yW Y a R N (zpu E d (E d + 1)) S) n s X) := by
  obtain ⟨u, e⟩ := way_29 (G := G) (n := n) (s := s) (R := R) (fr := fr) (u11 := u11) (u12 := u12) (u13 := u13) (u14 := u14) (u15 := u15) h hv hd hb
  rw [if_neg (fun g => hN g.1)] at e
  rw [e, way_112 h hv hd (by omega) hb, if_neg (by omega), way_151 h hv hd hE]
theorem zac_zen (hr : 0 ≤ zac (X 1001 i) (X 1002 i) v) : zen X i (zac (X 1001 i) (X 1002 i) v) v := by
  rcases @zac_c (X 1001 i) (X 1002 i) v with g | ⟨g, g'⟩ | ⟨g, g'⟩
  · omega
  · rw [g']
    exact .inr ⟨rfl, g.symm⟩
  · rw [g']
    exact .inl ⟨rfl, g.symm⟩
theorem way_br (h : wWy Y a X nb gl) (hv : zVs N E S d) (hd : 0 ≤ d ∧ d ≤ 7) (hi : 0 ≤ i ∧ i < nb) (hz : v = zac (X 1001 i) (X 1002 i) (N d)) {x11 : Int32} {u13 u14 u15 : Value} : (¬(0 ≤ v ∧ zop X i ∧ ∀ j, 0 ≤ j → j ≤ d → N j ≠ v) ∧ ∃ (w11 w12 w13 w14 w15 : Value), ev_ G 210 224 [.ref (wA Y 15 600), .ref (wA Y 15 601), .ref (wA Y 15 613), .int fr, .int (zJ gl), .ref a, .ref (a + 1), .ref (a + 2), .ref (a + 3), .int (zJ (best)), .int (zJ (d)), .int x11, .int (zJ i), u13, u14, u15] [.int (zJ v)] (wd (yW Y a R N E S) n s X) = ev_ G 210 29 [.ref (wA Y 15 600), .ref (wA Y 15 601), .ref (wA Y 15 613), .int fr, .int (zJ gl), .ref a, .ref (a + 1), .ref (a + 2), .ref (a + 3), .int (zJ (best)), .int (zJ (d)), w11, w12, w13, w14, w15] [] (wd (yW Y a R N E S) n s X)) ∨ (((0 ≤ v ∧ v < 8) ∧ zop X i ∧ ∀ j, 0 ≤ j → j ≤ d → N j ≠ v) ∧ ∃ (w11 w12 w13 w14 w15 : Value), ev_ G 210 224 [.ref (wA Y 15 600), .ref (wA Y 15 601), .ref (wA Y 15 613), .int fr, .int (zJ gl), .ref a, .ref (a + 1), .ref (a + 2), .ref (a + 3), .int (zJ (best)), .int (zJ (d)), .int x11, .int (zJ i), u13, u14, u15] [.int (zJ v)] (wd (yW Y a R N E S) n s X) = ev_ G 210 29 [.ref (wA Y 15 600), .ref (wA Y 15 601), .ref (wA Y 15 613), .int fr, .int (zJ gl), .ref a, .ref (a + 1), .ref (a + 2), .ref (a + 3), .int (zJ (best)), .int (zJ (d + 1)), w11, w12, w13, w14, w15] [] (wd (yW Y a R (zpu N (d + 1) v) (zpu E (d + 1) 0) (zpu S (d + 1) (S d + X 1003 i))) n s X)) := by
  obtain ⟨-, -, hg, hnb, hgl, hbs⟩ := id h
  obtain ⟨⟨b1, b2⟩, b3⟩ := hbs i hi.1 hi.2
  have hr : -1 ≤ v ∧ v < 8 := by
    rw [hz]
    rcases @zac_c (X 1001 i) (X 1002 i) (N d) with g | ⟨g, g'⟩ | ⟨g, g'⟩ <;> rw [‹zac _ _ _ = _›] <;> omega
  rw [way_224 h hi hr]
  by_cases k1 : v < 0
  · rw [if_pos k1]
    exact .inl ⟨fun g => by omega, _, _, _, _, _, way_248z h hd (d + 1).toNat 0 (by decide) (by omega)⟩
  · rw [if_neg k1]
    by_cases k2 : zJ (X 1004 i) ≤ zJ 0
    · rw [if_pos k2]
      exact .inl ⟨fun g => g.2.1 k2, _, _, _, _, _, way_248z h hd (d + 1).toNat 0 (by decide) (by omega)⟩
    · rw [if_neg k2]
      rcases way_248 (G := G) (n := n) (s := s) (R := R) (best := best) (fr := fr) (x11 := x11) h hv hd hi (v := v) (by omega) (d + 1).toNat 0 (by decide) (by omega) with ⟨x, c1, c2⟩ | ⟨c1, c2⟩
      · exact .inl ⟨fun g => c1 g.2.2, _, _, _, _, _, c2⟩
      · exact .inr ⟨⟨by omega, k2, c1⟩, _, _, _, _, _, c2⟩
theorem zVs_k (h : zVs N E S d) (hd : 0 ≤ d) (hv : 0 ≤ v ∧ v < 8) (hn : ∀ j, 0 ≤ j → j ≤ d → N j ≠ v) (hl : 1 ≤ k ∧ k ≤ 999) : zVs (zpu N (d + 1) v) (zpu E (d + 1) 0) (zpu S (d + 1) (S d + k)) (d + 1) := by
  obtain ⟨h1, h2, h3, h4⟩ := h
  refine ⟨fun i a b => ?_, fun i j a b c => ?_, ?_, ?_⟩
  · by_cases hi : i = d + 1
    · rw [hi, zpu_e]; exact hv
    · rw [zpu_n hi]; exact h1 i a (by omega)
  · rw [zpu_n (by omega)]
    by_cases hj : j = d + 1
    · rw [hj, zpu_e]; exact hn i a (by omega)
    · rw [zpu_n hj]; exact h2 i j a b (by omega)
  · rw [zpu_e]; omega
  · rw [zpu_e]; exact Int.le_refl _
/-- the search below a place of the stack: it comes back, and what it has found is a way from there -/
theorem way_G (h : wWy Y a X nb gl) : ∀ (c m : Nat) (d best : Int) (R N E S : Int → Int) (u11 u12 u13 u14 u15 : Value), d + c = 8 → 0 ≤ d → E d + m = nb → zVs N E S d → (-1 ≤ best ∧ best ≤ 100000) → ∃ (best' : Int) (R' N' E' S' : Int → Int) (w11 w12 w13 w14 w15 : Value), ev_ G 210 29 [.ref (wA Y 15 600), .ref (wA Y 15 601), .ref (wA Y 15 613), .int fr, .int (zJ gl), .ref a, .ref (a + 1), .ref (a + 2), .ref (a + 3), .int (zJ (best)), .int (zJ (d)), u11, u12, u13, u14, u15] [] (wd (yW Y a R N E S) n s X) = ev_ G 210 29 [.ref (wA Y 15 600), .ref (wA Y 15 601), .ref (wA Y 15 613), .int fr, .int (zJ gl), .ref a, .ref (a + 1), .ref (a + 2), .ref (a + 3), .int (zJ (best')), .int (zJ (d + -1)), w11, w12, w13, w14, w15] [] (wd (yW Y a R' N' E' S') n s X) ∧ (∀ j, 0 ≤ j → j < d → N' j = N j ∧ E' j = E j ∧ S' j = S j) ∧ (-1 ≤ best' ∧ best' ≤ 100000) ∧ ((best' = best ∧ R' = R) ∨ ∃ (k : Nat) (x : Int), zwk X nb gl k (N d) x ∧ (k : Int) ≤ 7 - d ∧ best' = S d * 8 + d + zfi x ∧ (best < 0 ∨ best' < best)) := by
  obtain ⟨hL, hD, hg, hnb, hgl, hbs⟩ := id h
  have hl : ∀ i, 0 ≤ i → i < nb → 1 ≤ X 1003 i ∧ X 1003 i ≤ 999 := fun i a b => (hbs i a b).2.2.2.2.2.2
  intro c
  induction c with
  | zero =>
    intro m d best R N E S u11 u12 u13 u14 u15 hd h0 hE hv hb
    have := zVs_7 hv h0
    omega
  | succ c ihc =>
    intro m
    induction m with
    | zero =>
      intro d best R N E S u11 u12 u13 u14 u15 hd h0 hE hv hb
      have h7 := zVs_7 hv h0
      obtain ⟨b', R', w1, w2, w3, w4, w5, e1, e2, e3⟩ := way_pop (G := G) (n := n) (s := s) (R := R) (fr := fr) (u11 := u11) (u12 := u12) (u13 := u13) (u14 := u14) (u15 := u15) h hv ⟨h0, h7⟩ (by omega) hb (.inr (.inl (by omega)))
      refine ⟨b', R', N, E, S, w1, w2, w3, w4, w5, e1, fun _ _ _ => ⟨rfl, rfl, rfl⟩, e2, ?_⟩
      rcases e3 with e3 | ⟨e3, e4, e5, -⟩
      · exact .inl e3
      · exact .inr ⟨0, 0, ⟨e3, rfl⟩, by omega, by rw [e4]; unfold zfi; omega, e5⟩
    | succ m ihm =>
      intro d best R N E S u11 u12 u13 u14 u15 hd h0 hE hv hb
      have h7 := zVs_7 hv h0
      by_cases hc : N d = gl ∨ E d = nb ∨ (0 ≤ best ∧ best ≤ S d * 8 + d)
      · obtain ⟨b', R', w1, w2, w3, w4, w5, e1, e2, e3⟩ := way_pop (G := G) (n := n) (s := s) (R := R) (fr := fr) (u11 := u11) (u12 := u12) (u13 := u13) (u14 := u14) (u15 := u15) h hv ⟨h0, h7⟩ (by omega) hb hc
        refine ⟨b', R', N, E, S, w1, w2, w3, w4, w5, e1, fun _ _ _ => ⟨rfl, rfl, rfl⟩, e2, ?_⟩
        rcases e3 with e3 | ⟨e3, e4, e5, -⟩
        · exact .inl e3
        · exact .inr ⟨0, 0, ⟨e3, rfl⟩, by omega, by rw [e4]; unfold zfi; omega, e5⟩
      · have hi : 0 ≤ E d ∧ E d < nb := ⟨hv.2.2.2, by omega⟩
        have hli := hl (E d) hi.1 hi.2
        have e1 := way_go (G := G) (n := n) (s := s) (R := R) (fr := fr) (u11 := u11) (u12 := u12) (u13 := u13) (u14 := u14) (u15 := u15) h hv ⟨h0, h7⟩ hi.2 hb (fun g => hc (.inl g)) (by omega)
        have hE1 : zpu E d (E d + 1) d = E d + 1 := zpu_e
        have hv1 : zVs N (zpu E d (E d + 1)) S d := zVs_c hv (fun _ _ _ => rfl) rfl (by rw [hE1]; omega)
        generalize hz : zac (X 1001 (E d)) (X 1002 (E d)) (N d) = v at e1
        rcases way_br (G := G) (n := n) (s := s) (R := R) (best := best) (fr := fr) (x11 := zJ (S d * 8 + d)) (u13 := u13) (u14 := u14) (u15 := u15) h hv1 ⟨h0, h7⟩ hi hz.symm with ⟨-, w1, w2, w3, w4, w5, e2⟩ | ⟨⟨c1, c2, c3⟩, w1, w2, w3, w4, w5, e2⟩
        · obtain ⟨b', R', N', E', S', y1, y2, y3, y4, y5, f1, f2, f3, f4⟩ := ihm d best R N (zpu E d (E d + 1)) S w1 w2 w3 w4 w5 hd h0 (by rw [hE1]; omega) hv1 hb
          refine ⟨b', R', N', E', S', y1, y2, y3, y4, y5, e1.trans (e2.trans f1), fun j j0 j1 => ?_, f3, f4⟩
          have := f2 j j0 j1
          rw [zpu_n (by omega)] at this
          exact this
        · have hvk := zVs_k (k := X 1003 (E d)) hv1 h0 c1 c3 hli
          obtain ⟨b1, R1, N1, E1, S1, y1, y2, y3, y4, y5, f1, f2, f3, f4⟩ := ihc nb.toNat (d + 1) best R _ _ _ w1 w2 w3 w4 w5 (by omega) (by omega) (by rw [zpu_e]; omega) hvk hb
          rw [show d + 1 + -1 = d by omega] at f1
          have g2 : ∀ j, 0 ≤ j → j ≤ d → N1 j = N j ∧ E1 j = zpu E d (E d + 1) j ∧ S1 j = S j := fun j j0 j1 => by
            have := f2 j j0 (by omega)
            rw [zpu_n (i := d + 1) (by omega), zpu_n (i := d + 1) (by omega), zpu_n (i := d + 1) (by omega)] at this
            exact this
          have gd := g2 d h0 (Int.le_refl _)
          rw [hE1] at gd
          have hv2 : zVs N1 E1 S1 d := zVs_c hv (fun j j0 j1 => (g2 j j0 j1).1) gd.2.2 (by rw [gd.2.1]; omega)
          obtain ⟨b2, R2, N2, E2, S2, z1, z2, z3, z4, z5, k1, k2, k3, k4⟩ := ihm d b1 R1 N1 E1 S1 y1 y2 y3 y4 y5 hd h0 (by rw [gd.2.1]; omega) hv2 f3
          refine ⟨b2, R2, N2, E2, S2, z1, z2, z3, z4, z5, e1.trans (e2.trans (f1.trans k1)), fun j j0 j1 => ?_, k3, ?_⟩
          · have a1 := k2 j j0 j1
            have a2 := g2 j j0 (by omega)
            rw [zpu_n (by omega)] at a2
            exact ⟨a1.1.trans a2.1, a1.2.1.trans a2.2.1, a1.2.2.trans a2.2.2⟩
          · rw [gd.1, gd.2.2] at k4
            have hchild : (b1 = best ∧ R1 = R) ∨ ∃ (k : Nat) (x : Int), zwk X nb gl k (N d) x ∧ (k : Int) ≤ 7 - d ∧ b1 = S d * 8 + d + zfi x ∧ (best < 0 ∨ b1 < best) := by
              rcases f4 with f4 | ⟨k, x, a1, a2, a3, a4⟩
              · exact .inl f4
              · rw [zpu_e] at a1 a3
                have hzr := zac_zen (X := X) (i := E d) (v := N d) (by rw [hz]; exact c1.1)
                rw [hz] at hzr
                refine .inr ⟨k + 1, x + (100 * X 1003 (E d) + 1), ⟨E d, v, x, hi, c2, hzr, a1, rfl⟩, by omega, ?_, a4⟩
                have hxm := zwk_m hl k v x (by omega) a1
                rw [a3]
                unfold zfi
                omega
            rcases k4 with ⟨k4, k5⟩ | ⟨k, x, a1, a2, a3, a4⟩
            · rw [k4, k5]
              exact hchild
            · refine .inr ⟨k, x, a1, a2, a3, ?_⟩
              rcases hchild with ⟨k6, -⟩ | ⟨k', x', c1', c2', c3', k6⟩
              · rw [← k6]; exact a4
              · have c4' := zwk_m hl k' (N d) x' (by omega) c1'
                have hSd := hv.2.2.1
                unfold zfi at c3'
                omega
end ZW
