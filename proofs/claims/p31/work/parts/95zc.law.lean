/-! THE LAW, 6: the shortest way by going through all is the class's -/
section ZW
variable {Y : zLy} {n s a : Nat} {X : zX} {G : Nat × Nat} {R N E S : Int → Int} {gl best d nb T i k : Int} {fr : Int32} {B : Int → Int} {v b : Nat → Int} {L : Nat}
/-- what the costs tell of the way -/
def zwB (X : zX) (nb gl : Int) (B : Int → Int) (v b : Nat → Int) (L : Nat) : Prop := zinv X nb gl B ∧ zcbm B ∧ zle X nb gl 7 B ∧ (∀ i u v, 0 ≤ i ∧ i < nb → zop X i → zen X i u v → B v ≤ 100 * X 1003 i + 1 + B u) ∧ (B (v L) = 0 ∧ v L = gl) ∧ (∀ t, t ≤ L → (0 ≤ v t ∧ v t < 8) ∧ 0 ≤ B (v t) ∧ B (v t) % 100 ≤ 7 ∧ B (v t) < 1000000000) ∧ ∀ t, t < L → 0 < B (v t) ∧ (0 ≤ b t ∧ b t < nb) ∧ zonm X B (v t) (b t) ∧ (∀ j, 0 ≤ j → j < b t → ¬zonm X B (v t) j) ∧ v (t + 1) = zac (X 1001 (b t)) (X 1002 (b t)) (v t)
theorem zwB_i (hJ : zinv X nb gl B) (hc : zcbm B) (h7 : zle X nb gl 7 B) (hs : ∀ i u v, 0 ≤ i ∧ i < nb → zop X i → zen X i u v → B v ≤ 100 * X 1003 i + 1 + B u) (hl : ∀ i, 0 ≤ i → i < nb → 1 ≤ X 1003 i ∧ X 1003 i ≤ 999) (hn : 0 ≤ nb) (hz : zch X B nb.toNat v b L) (hf : B (v 0) < 1000000000) : zwB X nb gl B v b L := by
  obtain ⟨k1, k2, k3⟩ := hz
  have h0 : ∀ t, t < L → zonm X B (v t) (b t) ∧ ∀ j, 0 ≤ j → j < b t → ¬zonm X B (v t) j := by
    intro t ht
    obtain ⟨l1, l2, l3, l4, l5⟩ := k3 t ht
    rcases zlwm_i (X := X) (c := B) (v := v t) nb.toNat (-1) with ⟨g1, -⟩ | ⟨-, g2, g3⟩
    · omega
    · rw [← l3] at g2 g3
      exact ⟨g2, g3⟩
  have hdn : ∀ t, t < L → B (v (t + 1)) < B (v t) := by
    intro t ht
    have e := (h0 t ht).1.2.2
    obtain ⟨l1, l2, l3, l4, l5⟩ := k3 t ht
    have := hl (b t) l4.1 (by omega)
    rw [l5]
    omega
  have hle : ∀ t, t ≤ L → B (v t) ≤ B (v 0) := by
    intro t
    induction t with
    | zero => intro _; exact Int.le_refl _
    | succ t ih =>
      intro ht
      have := hdn t (by omega)
      have := ih (by omega)
      omega
  have hvr : ∀ t, t ≤ L → 0 ≤ v t ∧ v t < 8 := by
    intro t ht
    by_cases g : t = L
    · rw [g]; exact k2
    · exact (k3 t (by omega)).2.1
  have hfin : ∀ t, t ≤ L → (0 ≤ v t ∧ v t < 8) ∧ 0 ≤ B (v t) ∧ B (v t) % 100 ≤ 7 ∧ B (v t) < 1000000000 := by
    intro t ht
    have e := hle t ht
    have f := (zfin hJ (hvr t ht) (by omega)).1
    exact ⟨hvr t ht, f.1, f.2.1, by omega⟩
  have hL0 : B (v L) = 0 := by
    have := (hfin L (Nat.le_refl _)).2.1
    omega
  refine ⟨hJ, hc, h7, hs, ⟨hL0, ?_⟩, hfin, fun t ht => ⟨(k3 t ht).1, by have := (k3 t ht).2.2.2.1; omega, (h0 t ht).1, (h0 t ht).2, (k3 t ht).2.2.2.2⟩⟩
  have f := (zfin hJ k2 (by omega)).2
  rw [hL0] at f
  exact f.1
theorem zwB_dec (h : zwB X nb gl B v b L) (hl : ∀ i, 0 ≤ i → i < nb → 1 ≤ X 1003 i ∧ X 1003 i ≤ 999) : ∀ (k t : Nat), t + k + 1 ≤ L → B (v (t + k + 1)) < B (v t) := by
  obtain ⟨-, -, -, -, -, -, h3⟩ := h
  intro k
  induction k with
  | zero =>
    intro t ht
    obtain ⟨l1, l2, l3, l4, l5⟩ := h3 t (by omega)
    have := hl (b t) l2.1 l2.2
    have e := l3.2.2
    show B (v (t + 1)) < B (v t)
    rw [l5]
    omega
  | succ k ih =>
    intro t ht
    have e1 := ih t (by omega)
    obtain ⟨l1, l2, l3, l4, l5⟩ := h3 (t + k + 1) (by omega)
    have := hl (b (t + k + 1)) l2.1 l2.2
    have e := l3.2.2
    show B (v (t + k + 1 + 1)) < B (v t)
    rw [l5]
    omega
theorem zfi_le {x y : Int} (h : x ≤ y) (h1 : x % 100 ≤ 7) (h2 : y % 100 ≤ 7) : zfi x ≤ zfi y := by
  unfold zfi
  omega
theorem zfi_lt {x y : Int} (h : x < y) (h1 : x % 100 ≤ 7) (h2 : y % 100 ≤ 7) : zfi x < zfi y := by
  unfold zfi
  omega
/-- the search on the class's way -/
theorem way_C (h : wWy Y a X nb gl) (hB : zwB X nb gl B v b L) (hT : 0 ≤ T ∧ T ≤ 100000) : ∀ (c m : Nat) (d : Nat) (best : Int) (R N E S : Int → Int) (u11 u12 u13 u14 u15 : Value), d + c = L → (c ≠ 0 → E d + m = b d) → E d ≤ nb → zVs N E S d → (-1 ≤ best ∧ best ≤ 100000) → (best = -1 ∨ T < best) → (∀ t : Nat, t ≤ d → N t = v t) → (∀ t : Nat, t < d → E t = b t + 1) → S d * 8 + d + zfi (B (v d)) = T → ∃ (R' N' E' S' : Int → Int) (w11 w12 w13 w14 w15 : Value), ev_ G 210 29 [.ref (wA Y 15 600), .ref (wA Y 15 601), .ref (wA Y 15 613), .int fr, .int (zJ gl), .ref a, .ref (a + 1), .ref (a + 2), .ref (a + 3), .int (zJ (best)), .int (zJ (d)), u11, u12, u13, u14, u15] [] (wd (yW Y a R N E S) n s X) = ev_ G 210 29 [.ref (wA Y 15 600), .ref (wA Y 15 601), .ref (wA Y 15 613), .int fr, .int (zJ gl), .ref a, .ref (a + 1), .ref (a + 2), .ref (a + 3), .int (zJ (T)), .int (zJ ((d : Int) + -1)), w11, w12, w13, w14, w15] [] (wd (yW Y a R' N' E' S') n s X) ∧ (∀ j : Int, 0 ≤ j → j < d → N' j = N j ∧ E' j = E j ∧ S' j = S j) ∧ (∀ k : Nat, k < 8 → R' k = if k < L then b k else -1) := by
  obtain ⟨hL, hD, hg, hnb, hgl, hbs⟩ := id h
  obtain ⟨hJ, hcb, h7, hst, hvL, hfin, hch⟩ := id hB
  have hl : ∀ i, 0 ≤ i → i < nb → 1 ≤ X 1003 i ∧ X 1003 i ≤ 999 := fun i a b => (hbs i a b).2.2.2.2.2.2
  have hz0 : ∀ x : Int, 0 ≤ x → 0 ≤ zfi x := fun x hx => by unfold zfi; omega
  intro c
  induction c with
  | zero =>
    intro m d best R N E S u11 u12 u13 u14 u15 hd hm hE hv hb hbT hN hEb hS
    have hd' : d = L := by omega
    have h77 := zVs_7 hv (by omega)
    have hNd : N d = gl := by rw [hN d (Nat.le_refl _), hd']; exact hvL.2
    have hTd : S d * 8 + d = T := by
      rw [hd', hvL.1] at hS
      rw [hd']
      have : zfi 0 = 0 := by decide
      omega
    obtain ⟨w1, w2, w3, w4, w5, e1⟩ := way_rec (G := G) (n := n) (s := s) (R := R) (fr := fr) (u11 := u11) (u12 := u12) (u13 := u13) (u14 := u14) (u15 := u15) h hv ⟨by omega, h77⟩ hE hb hNd (by omega)
    rw [hTd] at e1
    refine ⟨_, N, E, S, w1, w2, w3, w4, w5, e1, fun _ _ _ => ⟨rfl, rfl, rfl⟩, fun k hk => ?_⟩
    show (if 0 ≤ (k : Int) ∧ (k : Int) < 8 then (if (k : Int) < d then E k - 1 else -1) else R k) = _
    rw [if_pos (by omega)]
    by_cases g : k < L
    · rw [if_pos (by omega), if_pos g, hEb k (by omega)]
      omega
    · rw [if_neg (by omega), if_neg g]
  | succ c ihc =>
    intro m
    induction m with
    | zero =>
      intro d best R N E S u11 u12 u13 u14 u15 hd hm hE hv hb hbT hN hEb hS
      have hdL : d < L := by omega
      have hEd : E d = b d := by
        have := hm (by omega)
        omega
      obtain ⟨l1, l2, l3, l4, l5⟩ := hch d hdL
      have h77 := zVs_7 hv (by omega)
      have hNd := hN d (Nat.le_refl _)
      have hne : N d ≠ gl := fun g => by
        rw [hNd, ← hvL.2] at g
        rw [g, hvL.1] at l1
        omega
      have hz := hz0 (B (v d)) (hfin d (by omega)).2.1
      have e1 := way_go (G := G) (n := n) (s := s) (R := R) (fr := fr) (u11 := u11) (u12 := u12) (u13 := u13) (u14 := u14) (u15 := u15) h hv ⟨by omega, h77⟩ (by omega) hb hne (by omega)
      rw [hEd, hNd, ← l5] at e1
      have hE1 : zpu E d (b d + 1) d = b d + 1 := zpu_e
      have hv1 : zVs N (zpu E d (b d + 1)) S d := zVs_c hv (fun _ _ _ => rfl) rfl (by rw [hE1]; omega)
      have hf1 := hfin (d + 1) (by omega)
      have hdis : ∀ j : Int, 0 ≤ j → j ≤ d → N j ≠ v (d + 1) := by
        intro j j0 j1 he
        obtain ⟨t, rfl⟩ : ∃ t : Nat, j = t := ⟨j.toNat, by omega⟩
        rw [hN t (by omega)] at he
        have := zwB_dec hB hl (d - t) t (by omega)
        rw [show t + (d - t) + 1 = d + 1 by omega, ← he] at this
        omega
      rcases way_br (G := G) (n := n) (s := s) (R := R) (best := best) (fr := fr) (v := v (d + 1)) (x11 := zJ (S d * 8 + d)) (u13 := u13) (u14 := u14) (u15 := u15) h hv1 ⟨by omega, h77⟩ l2 (by rw [hNd]; exact l5) with ⟨c1, -⟩ | ⟨-, w1, w2, w3, w4, w5, e2⟩
      · exact absurd ⟨hf1.1.1, l3.2.1, hdis⟩ c1
      · have hli := hl (b d) l2.1 l2.2
        have hvk := zVs_k (k := X 1003 (b d)) hv1 (by omega) hf1.1 hdis hli
        have ecast : ((d + 1 : Nat) : Int) = (d : Int) + 1 := rfl
        have e32 := l3.2.2
        rw [← l5] at e32
        obtain ⟨R1, N1, E1, S1, y1, y2, y3, y4, y5, f1, f2, f3⟩ := ihc (if c = 0 then 0 else (b (d + 1)).toNat) (d + 1) best R (zpu N ((d : Int) + 1) (v (d + 1))) (zpu (zpu E d (b d + 1)) ((d : Int) + 1) 0) (zpu S ((d : Int) + 1) (S d + X 1003 (b d))) w1 w2 w3 w4 w5 (by omega) (fun hc => by
          have := (hch (d + 1) (by omega)).2.1
          rw [if_neg hc, ecast, zpu_e]
          omega) (by rw [ecast, zpu_e]; omega) hvk hb hbT (fun t ht => by
          by_cases g : t = d + 1
          · rw [g, ecast, zpu_e]
          · rw [zpu_n (by omega)]
            exact hN t (by omega)) (fun t ht => by
          rw [zpu_n (by omega)]
          by_cases g : t = d
          · rw [g, zpu_e]
          · rw [zpu_n (by omega)]
            exact hEb t (by omega)) (by
          rw [ecast, zpu_e]
          have := hf1.2.2.1
          have hb0 := hf1.2.1
          rw [← e32] at hS
          unfold zfi at hS ⊢
          omega)
        rw [ecast, show (d : Int) + 1 + -1 = d by omega] at f1
        have g2 : ∀ j : Int, 0 ≤ j → j ≤ d → N1 j = N j ∧ E1 j = zpu E d (b d + 1) j ∧ S1 j = S j := fun j j0 j1 => by
          have := f2 j j0 (by omega)
          rw [zpu_n (i := (d : Int) + 1) (by omega), zpu_n (i := (d : Int) + 1) (by omega), zpu_n (i := (d : Int) + 1) (by omega)] at this
          exact this
        have gd := g2 d (by omega) (Int.le_refl _)
        rw [hE1] at gd
        have hv2 : zVs N1 E1 S1 d := zVs_c hv (fun j j0 j1 => (g2 j j0 j1).1) gd.2.2 (by rw [gd.2.1]; omega)
        obtain ⟨b2, R2, N2, E2, S2, z1, z2, z3, z4, z5, k1, k2, k3, k4⟩ := way_G (G := G) (n := n) (s := s) (fr := fr) h (8 - d) (nb - (b d + 1)).toNat d T R1 N1 E1 S1 y1 y2 y3 y4 y5 (by omega) (by omega) (by rw [gd.2.1]; omega) hv2 (by omega)
        have hk : b2 = T ∧ R2 = R1 := by
          rcases k4 with k4 | ⟨k, x, a1, a2, a3, a4⟩
          · exact k4
          · exfalso
            rw [gd.1, hNd] at a1
            rw [gd.2.2] at a3
            have a5 := h7 k (v d) x (by omega) a1
            have a6 := zwk_m hl k (v d) x (by omega) a1
            have a7 := zfi_le a5 (hfin d (by omega)).2.2.1 (by omega)
            omega
        rw [hk.1, hk.2] at k1
        refine ⟨R1, N2, E2, S2, z1, z2, z3, z4, z5, e1.trans (e2.trans (f1.trans k1)), fun j j0 j1 => ?_, f3⟩
        have a1 := k2 j j0 j1
        have a2 := g2 j j0 (by omega)
        rw [zpu_n (by omega)] at a2
        exact ⟨a1.1.trans a2.1, a1.2.1.trans a2.2.1, a1.2.2.trans a2.2.2⟩
    | succ m ihm =>
      intro d best R N E S u11 u12 u13 u14 u15 hd hm hE hv hb hbT hN hEb hS
      have hdL : d < L := by omega
      have hEd : E d + ((m + 1 : Nat) : Int) = b d := hm (by omega)
      obtain ⟨l1, l2, l3, l4, l5⟩ := hch d hdL
      have h77 := zVs_7 hv (by omega)
      have hNd := hN d (Nat.le_refl _)
      have hE0 := hv.2.2.2
      have hne : N d ≠ gl := fun g => by
        rw [hNd, ← hvL.2] at g
        rw [g, hvL.1] at l1
        omega
      have hz := hz0 (B (v d)) (hfin d (by omega)).2.1
      have hi : 0 ≤ E d ∧ E d < nb := ⟨hE0, by omega⟩
      have hli := hl (E d) hi.1 hi.2
      have e1 := way_go (G := G) (n := n) (s := s) (R := R) (fr := fr) (u11 := u11) (u12 := u12) (u13 := u13) (u14 := u14) (u15 := u15) h hv ⟨by omega, h77⟩ hi.2 hb hne (by omega)
      have hE1 : zpu E d (E d + 1) d = E d + 1 := zpu_e
      have hv1 : zVs N (zpu E d (E d + 1)) S d := zVs_c hv (fun _ _ _ => rfl) rfl (by rw [hE1]; omega)
      generalize hzv : zac (X 1001 (E d)) (X 1002 (E d)) (N d) = v' at e1
      rcases way_br (G := G) (n := n) (s := s) (R := R) (best := best) (fr := fr) (x11 := zJ (S d * 8 + d)) (u13 := u13) (u14 := u14) (u15 := u15) h hv1 ⟨by omega, h77⟩ hi hzv.symm with ⟨-, w1, w2, w3, w4, w5, e2⟩ | ⟨⟨c1, c2, c3⟩, w1, w2, w3, w4, w5, e2⟩
      · obtain ⟨R', N', E', S', y1, y2, y3, y4, y5, f1, f2, f3⟩ := ihm d best R N (zpu E d (E d + 1)) S w1 w2 w3 w4 w5 hd (fun _ => by rw [hE1]; omega) (by rw [hE1]; omega) hv1 hb hbT hN (fun t ht => by rw [zpu_n (by omega)]; exact hEb t ht) hS
        refine ⟨R', N', E', S', y1, y2, y3, y4, y5, e1.trans (e2.trans f1), fun j j0 j1 => ?_, f3⟩
        have := f2 j j0 j1
        rw [zpu_n (by omega)] at this
        exact this
      · have hvk := zVs_k (k := X 1003 (E d)) hv1 (by omega) c1 c3 hli
        obtain ⟨b1, R1, N1, E1, S1, y1, y2, y3, y4, y5, f1, f2, f3, f4⟩ := way_G (G := G) (n := n) (s := s) (fr := fr) h (8 - (d + 1)) nb.toNat ((d : Int) + 1) best R _ _ _ w1 w2 w3 w4 w5 (by omega) (by omega) (by rw [zpu_e]; omega) hvk hb
        rw [show (d : Int) + 1 + -1 = d by omega] at f1
        have g2 : ∀ j : Int, 0 ≤ j → j ≤ d → N1 j = N j ∧ E1 j = zpu E d (E d + 1) j ∧ S1 j = S j := fun j j0 j1 => by
          have := f2 j j0 (by omega)
          rw [zpu_n (i := (d : Int) + 1) (by omega), zpu_n (i := (d : Int) + 1) (by omega), zpu_n (i := (d : Int) + 1) (by omega)] at this
          exact this
        have gd := g2 d (by omega) (Int.le_refl _)
        rw [hE1] at gd
        have hv2 : zVs N1 E1 S1 d := zVs_c hv (fun j j0 j1 => (g2 j j0 j1).1) gd.2.2 (by rw [gd.2.1]; omega)
        have hb1 : b1 = -1 ∨ T < b1 := by
          rcases f4 with ⟨f4, -⟩ | ⟨k, x, a1, a2, a3, a4⟩
          · rw [f4]; exact hbT
          · right
            rw [zpu_e] at a1 a3
            have hzr := zac_zen (X := X) (i := E d) (v := N d) (by rw [hzv]; exact c1.1)
            rw [hzv, hNd] at hzr
            have a5 := h7 k v' x (by omega) a1
            have a6 := zwk_m hl k v' x (by omega) a1
            have a7 := hst (E d) v' (v d) hi c2 hzr
            have a8 : B (v d) ≠ 100 * X 1003 (E d) + 1 + x := by
              intro g
              refine l4 (E d) hi.1 (by omega) ?_
              unfold zonm
              rw [← hNd, hzv, hNd]
              exact ⟨by omega, c2, by omega⟩
            have a9 := zfi_lt (x := B (v d)) (y := x + (100 * X 1003 (E d) + 1)) (by omega) (hfin d (by omega)).2.2.1 (by omega)
            unfold zfi at a9 a3 hS
            omega
        obtain ⟨R', N', E', S', z1, z2, z3, z4, z5, k1, k2, k3⟩ := ihm d b1 R1 N1 E1 S1 y1 y2 y3 y4 y5 hd (fun _ => by rw [gd.2.1]; omega) (by rw [gd.2.1]; omega) hv2 f3 hb1 (fun t ht => by rw [(g2 t (by omega) (by omega)).1]; exact hN t ht) (fun t ht => by rw [(g2 t (by omega) (by omega)).2.1, zpu_n (by omega)]; exact hEb t ht) (by rw [gd.2.2]; exact hS)
        refine ⟨R', N', E', S', z1, z2, z3, z4, z5, e1.trans (e2.trans (f1.trans k1)), fun j j0 j1 => ?_, k3⟩
        have a1 := k2 j j0 j1
        have a2 := g2 j j0 (by omega)
        rw [zpu_n (by omega)] at a2
        exact ⟨a1.1.trans a2.1, a1.2.1.trans a2.2.1, a1.2.2.trans a2.2.2⟩
/-- a way's costs, bundle by bundle -/
theorem zwB_len (h : zwB X nb gl B v b L) : ∀ (k t : Nat), t + k = L → B (v t) = 100 * zsm (fun m => X 1003 (b m.toNat)) t k + k := by
  obtain ⟨-, -, -, -, hv, -, h3⟩ := h
  intro k
  induction k with
  | zero =>
    intro t ht
    rw [show t = L by omega, hv.1]
    rfl
  | succ k ih =>
    intro t ht
    obtain ⟨l1, l2, l3, l4, l5⟩ := h3 t (by omega)
    have e := l3.2.2
    have e2 := ih (t + 1) (by omega)
    rw [← l5, e2] at e
    show B (v t) = 100 * (X 1003 (b (t : Int).toNat) + zsm (fun m => X 1003 (b m.toNat)) ((t : Int) + 1) k) + ((k + 1 : Nat) : Int)
    rw [Int.toNat_natCast, ← e, show ((t + 1 : Nat) : Int) = (t : Int) + 1 from rfl]
    omega
theorem L_way (h : wWy Y n X nb gl) {f0 : Int} (hf : 0 ≤ f0 ∧ f0 < 8) (hJ : zinv X nb gl B) (hcb : zcbm B) (h7 : zle X nb gl 7 B) (hst : ∀ i u v, 0 ≤ i ∧ i < nb → zop X i → zen X i u v → B v ≤ 100 * X 1003 i + 1 + B u) : ∃ (best : Int) (R N E S : Int → Int), ev_ G 210 0 [.ref (wA Y 15 600), .ref (wA Y 15 601), .ref (wA Y 15 613), .int (zJ f0), .int (zJ gl), .ref n, zU, zU, zU, zU, zU, zU, zU, zU, zU, zU] [] (wd (yB Y n (za 8 (fun _ => 0))) (n + 1) s X) = some (.inl (some (.int (zJ best))), wd (yW Y n R N E S) (n + 4) (s + 27) X) ∧ (-1 ≤ best ∧ best ≤ 100000) ∧ (1000000000 ≤ B f0 → best = -1) ∧ (∀ (v b : Nat → Int) (L : Nat), B f0 < 1000000000 → v 0 = f0 → (B f0 % 100).toNat = L → zch X B nb.toNat v b L → L ≤ 7 ∧ 0 ≤ best ∧ best / 8 = zsm (fun m => X 1003 (b m.toNat)) 0 L ∧ ∀ k : Nat, k < 8 → R k = if k < L then b k else -1) := by
  obtain ⟨hL, hD, hg, hnb, hgl, hbs⟩ := id h
  have hl : ∀ i, 0 ≤ i → i < nb → 1 ≤ X 1003 i ∧ X 1003 i ≤ 999 := fun i a b => (hbs i a b).2.2.2.2.2.2
  have hst0 : ∃ u11 u12 u13 u14 u15 : Value, ev_ G 210 0 [.ref (wA Y 15 600), .ref (wA Y 15 601), .ref (wA Y 15 613), .int (zJ f0), .int (zJ gl), .ref n, zU, zU, zU, zU, zU, zU, zU, zU, zU, zU] [] (wd (yB Y n (za 8 (fun _ => 0))) (n + 1) s X) = ev_ G 210 29 [.ref (wA Y 15 600), .ref (wA Y 15 601), .ref (wA Y 15 613), .int (zJ f0), .int (zJ gl), .ref n, .ref (n + 1), .ref (n + 2), .ref (n + 3), .int (zJ (-1)), .int (zJ 0), u11, u12, u13, u14, u15] [] (wd (yW Y n (fun _ => 0) (zpu (fun _ => 0) 0 f0) (fun _ => 0) (fun _ => 0)) (n + 4) (s + 27) X) := by
    refine ⟨zU, zU, zU, zU, zU, ?_⟩
    have hb9 : ¬zbad 9 := by decide
    have n1 : znai 0 9 (wd (yB Y n (za 8 (fun _ => 0))) (n + 1) s X) = wd (yB (yB Y n (za 8 (fun _ => 0))) (n + 1) (za 9 (fun _ => 0))) (n + 2) (s + 9) X := wd_B (hD (n + 1) (by omega))
    have n2 : znai 0 9 (wd (yB (yB Y n (za 8 (fun _ => 0))) (n + 1) (za 9 (fun _ => 0))) (n + 2) (s + 9) X) = wd (yB (yB (yB Y n (za 8 (fun _ => 0))) (n + 1) (za 9 (fun _ => 0))) (n + 2) (za 9 (fun _ => 0))) (n + 3) (s + 18) X := wd_B (hD (n + 2) (by omega))
    have n3 : znai 0 9 (wd (yB (yB (yB Y n (za 8 (fun _ => 0))) (n + 1) (za 9 (fun _ => 0))) (n + 2) (za 9 (fun _ => 0))) (n + 3) (s + 18) X) = wd (yW Y n (fun _ => 0) (fun _ => 0) (fun _ => 0) (fun _ => 0)) (n + 4) (s + 27) X := wd_B (hD (n + 3) (by omega))
    rw [q_L_way_0, if_neg hb9, if_neg hb9, if_neg hb9, n1, n2, n3]
    show (zsto 0 (wd (yW Y n (fun _ => 0) (fun _ => 0) (fun _ => 0) (fun _ => 0)) (n + 4) (s + 27) X) (n + 1) (zJ 0) (zJ f0)).bind _ = _
    rw [w_st1 h (by decide) (by decide), t_b]
    rfl
  obtain ⟨u1, u2, u3, u4, u5, e0⟩ := hst0
  have hv0 : zVs (zpu (fun _ => 0) 0 f0) (fun _ => 0) (fun _ => 0) 0 := by
    refine ⟨fun i a b => ?_, fun i j a b c => by omega, by decide, by decide⟩
    rw [show i = 0 by omega, zpu_e]
    exact hf
  have hend : ∀ (best : Int) (R N E S : Int → Int) (w1 w2 w3 w4 w5 : Value) (q : Int), -1 ≤ best ∧ best ≤ 100000 → q = -1 → ev_ G 210 29 [.ref (wA Y 15 600), .ref (wA Y 15 601), .ref (wA Y 15 613), .int (zJ f0), .int (zJ gl), .ref n, .ref (n + 1), .ref (n + 2), .ref (n + 3), .int (zJ best), .int (zJ q), w1, w2, w3, w4, w5] [] (wd (yW Y n R N E S) (n + 4) (s + 27) X) = some (.inl (some (.int (zJ best))), wd (yW Y n R N E S) (n + 4) (s + 27) X) := by
    intro best R N E S w1 w2 w3 w4 w5 q hb hq
    subst hq
    rw [q_L_way_29, if_pos (by decide)]
  by_cases hbf : B f0 < 1000000000
  · obtain ⟨f1, f2⟩ := zfin hJ hf hbf
    -- the chain is told by the caller; without one the search says the same
    by_cases hch : ∃ (v b : Nat → Int) (L : Nat), v 0 = f0 ∧ (B f0 % 100).toNat = L ∧ zch X B nb.toNat v b L
    · obtain ⟨v, b, L, c1, c2, c3⟩ := hch
      have hB := zwB_i hJ hcb h7 hst hl hnb.1 c3 (by rw [c1]; exact hbf)
      have hlen := zwB_len hB L 0 (by omega)
      rw [c1] at hlen
      have hT : 0 ≤ zfi (B f0) ∧ zfi (B f0) ≤ 100000 := by unfold zfi; omega
      obtain ⟨R, N, E, S, w1, w2, w3, w4, w5, e1, e2, e3⟩ := way_C (G := G) (n := n + 4) (s := s + 27) (fr := zJ f0) h hB hT L (if L = 0 then 0 else (b 0).toNat) 0 (-1) (fun _ => 0) (zpu (fun _ => 0) 0 f0) (fun _ => 0) (fun _ => 0) u1 u2 u3 u4 u5 (by omega) (fun g => by
        have := (hB.2.2.2.2.2.2 0 (by omega)).2.1
        rw [if_neg g]
        show (0 : Int) + _ = _
        omega) (by show (0 : Int) ≤ nb; exact hnb.1) hv0 (by omega) (.inl rfl) (fun t ht => by
        rw [show t = 0 by omega, c1]
        exact zpu_e) (fun t ht => absurd ht (Nat.not_lt_zero t)) (by
        rw [c1]
        show (0 : Int) * 8 + ((0 : Nat) : Int) + _ = _
        omega)
      refine ⟨zfi (B f0), R, N, E, S, e0.trans (e1.trans (hend _ _ _ _ _ _ _ _ _ _ _ (by omega) (by omega))), by omega, fun g => by omega, fun v' b' L' _ d1 d2 d3 => ?_⟩
      have hLL : L' = L := by omega
      have hB' := zwB_i hJ hcb h7 hst hl hnb.1 d3 (by rw [d1]; exact hbf)
      have hlen' := zwB_len hB' L' 0 (by omega)
      rw [d1] at hlen'
      have huq : ∀ t, t ≤ L → v' t = v t ∧ (t < L → b' t = b t) := by
        intro t
        induction t with
        | zero =>
          intro _
          refine ⟨by rw [d1, c1], fun g => ?_⟩
          rw [(d3.2.2 0 (by omega)).2.2.1, (c3.2.2 0 g).2.2.1, d1, c1]
        | succ t ih =>
          intro ht
          obtain ⟨i1, i2⟩ := ih (by omega)
          have i2 := i2 (by omega)
          have e : v' (t + 1) = v (t + 1) := by
            rw [(d3.2.2 t (by omega)).2.2.2.2, (c3.2.2 t (by omega)).2.2.2.2, i1, i2]
          refine ⟨e, fun g => ?_⟩
          rw [(d3.2.2 (t + 1) (by omega)).2.2.1, (c3.2.2 (t + 1) g).2.2.1, e]
      refine ⟨by omega, hT.1, ?_, fun k hk => ?_⟩
      · have : zfi (B f0) / 8 = B f0 / 100 := by unfold zfi; omega
        rw [this]
        have e5 : ((0 : Nat) : Int) = 0 := rfl
        rw [e5] at hlen'
        omega
      · rw [e3 k hk, hLL]
        by_cases g : k < L
        · rw [if_pos g, if_pos g, (huq k (by omega)).2 g]
        · rw [if_neg g, if_neg g]
    · obtain ⟨b2, R2, N2, E2, S2, z1, z2, z3, z4, z5, k1, k2, k3, k4⟩ := way_G (G := G) (n := n + 4) (s := s + 27) (fr := zJ f0) h 8 nb.toNat 0 (-1) (fun _ => 0) (zpu (fun _ => 0) 0 f0) (fun _ => 0) (fun _ => 0) u1 u2 u3 u4 u5 (by decide) (by decide) (by omega) hv0 (by decide)
      exact ⟨b2, R2, N2, E2, S2, e0.trans (k1.trans (hend _ _ _ _ _ _ _ _ _ _ _ k3 (by decide))), k3, fun g => by omega, fun v b L _ c1 c2 c3 => absurd ⟨v, b, L, c1, c2, c3⟩ hch⟩
  · obtain ⟨b2, R2, N2, E2, S2, z1, z2, z3, z4, z5, k1, k2, k3, k4⟩ := way_G (G := G) (n := n + 4) (s := s + 27) (fr := zJ f0) h 8 nb.toNat 0 (-1) (fun _ => 0) (zpu (fun _ => 0) 0 f0) (fun _ => 0) (fun _ => 0) u1 u2 u3 u4 u5 (by decide) (by decide) (by omega) hv0 (by decide)
    refine ⟨b2, R2, N2, E2, S2, e0.trans (k1.trans (hend _ _ _ _ _ _ _ _ _ _ _ k3 (by decide))), k3, fun _ => ?_, fun v b L g => absurd g hbf⟩
    rcases k4 with k4 | ⟨k, x, a1, a2, a3, a4⟩
    · exact k4.1
    · exfalso
      rw [zpu_e] at a1
      have a5 := h7 k f0 x (by omega) a1
      have a6 := zwk_m hl k f0 x (by omega) a1
      omega
end ZW
