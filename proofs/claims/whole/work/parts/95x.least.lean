/-! THE TWO SIDES, 92: calls on both sides: the least weights -/
section ZK
variable {Y : zLy} {n s : Nat} {X : zX} {G : Nat × Nat} {t p q r : Int} {X' : zX} {Q : zQs}
theorem zwt_b {o w : Int} (hB : iB Q X) (hw : iW1 Q X w) : 0 ≤ zwt X o w ∧ zwt X o w ≤ 6993 := by
  obtain ⟨a1, a2, a3, a4, a5, a6⟩ := hw
  have := zsm_b (f := fun k => X 63 (Q 4 k)) (c := 999) (Q 0 (5 + w)).toNat (16 * w) (fun j b c => by
    have e := a5 (j - 16 * w) (by omega) (by omega)
    rw [show 16 * w + (j - 16 * w) = j by omega] at e
    have := (hB.2 _ e.2.1 e.2.2).2
    show 0 ≤ X 63 (Q 4 j) ∧ X 63 (Q 4 j) ≤ 999
    omega)
  unfold zwt
  rw [a6]
  split <;> omega
theorem zmul_b {a b c d : Int} (h1 : 0 ≤ a ∧ a ≤ c) (h2 : 0 ≤ b ∧ b ≤ d) : 0 ≤ a * b ∧ a * b ≤ c * d := ⟨Int.mul_nonneg h1.1 h2.1, Int.mul_le_mul h1.2 h2.2 h2.1 (by omega)⟩
theorem zw1_b {st : Int} (hB : iB Q X) (hW : iW Q X) (hO : iO X) (hn : 0 ≤ Q 0 2 ∧ Q 0 2 ≤ 24) : 0 ≤ zw1 X (Q 0 2) st (X 144 0) ∧ zw1 X (Q 0 2) st (X 144 0) ≤ 100000000 := by
  obtain ⟨d1, d2, d3, d4, d5, d6⟩ := hO
  have h1 := zsm_b (f := zwt X (ztg X st 0 (X 144 0).toNat 0)) (c := 6993) (Q 0 2).toNat 0 (fun j a b => zwt_b hB (hW.2.2.2 j a (by omega)))
  have h2 := zsm_b (f := fun i => if zbt st i = true then X 502 i else 0) (c := 99) (X 144 0).toNat 0 (fun j a b => by
    have := d3 j a (by omega)
    try dsimp only
    split <;> omega)
  have h3 := zmul_b (c := 167832) (d := 495) ⟨h1.1, by omega⟩ ⟨h2.1, by omega⟩
  unfold zw1
  omega
theorem zws_b (hB : iB Q X) (hW : iW Q X) (hO : iO X) (hn : 0 ≤ Q 0 2 ∧ Q 0 2 ≤ 24) (r : Int) : 0 ≤ zws X (Q 0 2) 0 503 r ∧ zws X (Q 0 2) 0 503 r ≤ 100000000 := by
  unfold zws
  split
  · exact zw1_b hB hW hO hn
  · exact hO.2.2.2.2.1 r
theorem zws_0 (hO : iO X) : zws X (Q 0 2) 0 503 0 = 0 := by
  have hz := zall_r hO.2.1.1 hO.2.1.2
  unfold zws
  rw [if_pos ⟨rfl, by omega, by omega⟩]
  unfold zw1
  have h2 := zsm_b (f := fun i => if zbt 0 i = true then X 502 i else 0) (c := 0) (X 144 0).toNat 0 (fun j a b => by
    try dsimp only
    rw [zbt_0 ⟨a, by have := hO.2.1; omega⟩]
    simp)
  have h3 : zsm (fun i => if zbt 0 i = true then X 502 i else 0) 0 (X 144 0).toNat = 0 := by omega
  rw [h3, Int.mul_zero]
theorem ztgm_e {S f : Int} (h1 : ∀ k, 0 ≤ k → k < X 144 0 → X' 1018 k = X 501 k ∧ 0 ≤ X 501 k ∧ X 501 k ≤ 255) (h : ∀ k, 0 ≤ k → k < X 144 0 → (zbt S k = true ↔ X' 1020 k = f)) : ∀ (k : Nat) (i t : Int), 0 ≤ i → i + k ≤ X 144 0 → 0 ≤ t ∧ t ≤ 255 → ztgm X' f i k t = ztg X S i k t ∧ 0 ≤ ztg X S i k t ∧ ztg X S i k t ≤ 255 := by
  intro k
  induction k with
  | zero => intro i t a b c; exact ⟨rfl, c⟩
  | succ k ih =>
    intro i t a b c
    have e := h i a (by omega)
    have e2 := h1 i a (by omega)
    show ztgm X' f (i + 1) k (zor t (if X' 1020 i = f then X' 1018 i else 0)) = ztg X S (i + 1) k (if zbt S i = true then zor t (X 501 i) else t) ∧ 0 ≤ ztg X S (i + 1) k (if zbt S i = true then zor t (X 501 i) else t) ∧ ztg X S (i + 1) k (if zbt S i = true then zor t (X 501 i) else t) ≤ 255
    by_cases g : zbt S i = true
    · rw [if_pos g, if_pos (e.mp g), e2.1]
      exact ih (i + 1) _ (by omega) (by omega) (zor_r c e2.2)
    · rw [if_neg g, if_neg (fun q => g (e.mpr q)), zor_0 c]
      exact ih (i + 1) _ (by omega) (by omega) c
theorem zfw_e {S f : Int} (s0 : zsame [503, 504, 444, 1020] X X') (hB : iB Q X) (hW : iW Q X) (hO : iO X) (hn : Q 0 2 ≤ 24) (h : ∀ k, 0 ≤ k → k < X 144 0 → (zbt S k = true ↔ X' 1020 k = f)) : zfw X' f = zw1 X (Q 0 2) S (X 144 0) := by
  have hB' : iB Q X' := iB_c hB (same_g s0 (by decide)) rfl
  have hW' : iW Q X' := iW_c hW (same_g s0 (by decide)) (fun _ _ _ => rfl) hn
  obtain ⟨d1, d2, d3, d4, d5, d6⟩ := hO
  have e17 : X' 417 0 = X 144 0 := by rw [s0 417 (by decide), d1]
  have e18 : X' 1018 = X 1018 := s0 1018 (by decide)
  have e19 : X' 1019 = X 1019 := s0 1019 (by decide)
  obtain ⟨t1, t2⟩ := ztgm_e (X := X) (X' := X') (S := S) (f := f) (fun k a b => by
    rw [e18]
    have := d3 k a b
    omega) h (X 144 0).toNat 0 0 (by decide) (by omega) (by decide)
  unfold zfw zw1
  rw [e17, t1, zwts_e t2 hB' hW', zwt_c (s0 246 (by decide)) (s0 244 (by decide)) (s0 245 (by decide)), Int.mul_comm]
  congr 1
  refine zsm_congr _ _ (fun j a b => ?_)
  have e := h j a (by omega)
  by_cases g : zbt S j = true
  · rw [if_pos g, if_pos (e.mp g), e19]
    exact (d3 j a (by omega)).2.2.2.1
  · rw [if_neg g, if_neg (fun q => g (e.mpr q))]
theorem zfw_b {f : Int} (s0 : zsame [503, 504, 444, 1020] X X') (hB : iB Q X) (hW : iW Q X) (hO : iO X) (hn : 0 ≤ Q 0 2 ∧ Q 0 2 ≤ 24) : 0 ≤ zfw X' f ∧ zfw X' f ≤ 83076840 := by
  have hB' : iB Q X' := iB_c hB (same_g s0 (by decide)) rfl
  have hW' : iW Q X' := iW_c hW (same_g s0 (by decide)) (fun _ _ _ => rfl) hn.2
  obtain ⟨d1, d2, d3, d4, d5, d6⟩ := hO
  have e17 : X' 417 0 = X 144 0 := by rw [s0 417 (by decide), d1]
  have e19 : X' 1019 = X 1019 := s0 1019 (by decide)
  have e10 : X' 410 0 = Q 0 2 := hW'.1
  unfold zfw
  rw [e17, e10]
  have h1 := zsm_b (f := fun i => if X' 1020 i = f then X' 1019 i else 0) (c := 99) (X 144 0).toNat 0 (fun j a b => by
    have := d3 j a (by omega)
    try dsimp only
    rw [e19]
    split <;> omega)
  have h2 := zsm_b (f := zwg X' (ztgm X' f 0 (X 144 0).toNat 0)) (c := 6993) (Q 0 2).toNat 0 (fun j a b => by
    have w1 := hW'.2.2.2 j a (by omega)
    have w2 := zwt_b (o := 255) hB' w1
    have e := zln_e hB' w1
    have w3 : 0 ≤ X' 245 j ∧ X' 245 j ≤ 6993 := by
      obtain ⟨a1, a2, a3, a4, a5, a6⟩ := w1
      have := zsm_b (f := fun k => X' 63 (Q 4 k)) (c := 999) (Q 0 (5 + j)).toNat (16 * j) (fun m b c => by
        have e := a5 (m - 16 * j) (by omega) (by omega)
        rw [show 16 * j + (m - 16 * j) = m by omega] at e
        have := (hB'.2 _ e.2.1 e.2.2).2
        show 0 ≤ X' 63 (Q 4 m) ∧ X' 63 (Q 4 m) ≤ 999
        omega)
      rw [a6]
      omega
    unfold zwg
    rw [e]
    split
    · split <;> omega
    · omega)
  have h3 := zmul_b (c := 495) (d := 167832) ⟨h1.1, by omega⟩ ⟨h2.1, by omega⟩
  omega
theorem zall_b {n k : Int} (hn : 0 ≤ n ∧ n ≤ 5) (hk : 0 ≤ k ∧ k < 5) : zbt (zall n) k = decide (k < n) := by
  obtain ⟨x, rfl⟩ := zJ_fin hn.1 6 (by omega)
  obtain ⟨y, rfl⟩ := zJ_fin hk.1 5 hk.2
  rw [zall_k x y]
  exact decide_eq_decide.mpr (by omega)
theorem zall_l {n a : Int} (hn : 0 ≤ n ∧ n ≤ 5) (ha : 0 ≤ a ∧ a < 32) (h : ∀ k, 0 ≤ k → k < 5 → zbt a k = true → k < n) : a ≤ zall n := by
  obtain ⟨x, rfl⟩ := zJ_fin hn.1 6 (by omega)
  obtain ⟨y, rfl⟩ := zJ_fin ha.1 32 ha.2
  exact zall_k2 x y (fun k g => by have := h (k.val : Int) (by omega) (by omega) g; omega)
/-- what the reference finds -/
theorem zlo_is (s0 : zsame [503, 504, 444] X X') (hB : iB Q X) (hW : iW Q X) (hO : iO X) (hn : 0 ≤ Q 0 2 ∧ Q 0 2 ≤ 24) (hp : 1 ≤ p ∧ p ≤ 5) : zIs (zws X (Q 0 2) 0 503) p.toNat (zall (X 144 0)) (zlo p (X 144 0).toNat (p ^ (X 144 0).toNat).toNat 0 1000000000 X').1 := by
  have ho := hO.2.1
  have hz := zall_r ho.1 ho.2
  have hb : ∀ (d : Int → Int) (f k : Int), 0 ≤ k → k < 5 → zbt (zprt (zall (X 144 0)) d f) k = (decide (k < X 144 0) && decide (d k = f)) := fun d f k a b => by rw [zprt_b ⟨a, b⟩, zall_b ho ⟨a, b⟩]
  have hw : ∀ (d : Int → Int) (f : Int), zws X (Q 0 2) 0 503 (zprt (zall (X 144 0)) d f) = zw1 X (Q 0 2) (zprt (zall (X 144 0)) d f) (X 144 0) := by
    intro d f
    unfold zws
    rw [if_pos ⟨rfl, zprt_r.1, zall_l ho zprt_r (fun k a b g => by
      rw [hb d f k a b, Bool.and_eq_true, decide_eq_true_iff] at g
      exact g.1)⟩]
  have hG : ∀ X2 : zX, (∀ f j, f ≠ 1020 → X2 f j = X' f j) → ∀ c, 0 ≤ c → zsm (zfw (zdg p (X 144 0).toNat 0 c X2)) 0 p.toNat = zsm (fun f => zws X (Q 0 2) 0 503 (zprt (zall (X 144 0)) (fun k => zdd p k.toNat c) f)) 0 p.toNat := by
    intro X2 h2 c hc
    refine zsm_congr _ _ (fun f f0 f1 => ?_)
    try dsimp only
    rw [hw]
    refine zfw_e (fun f hf => ?_) hB hW hO hn.2 (fun k a b => ?_)
    · have f1 : f ≠ 1020 := fun g => hf (by rw [g]; decide)
      rw [show zdg p (X 144 0).toNat 0 c X2 f = X' f from funext fun j => by rw [zdg_f _ _ _ _ _ _ f1, h2 f j f1]]
      refine s0 f (fun g => hf ?_)
      simp only [List.mem_cons, List.not_mem_nil, or_false] at g ⊢
      omega
    · rw [hb _ _ _ a (by omega), zdg_v _ _ _ _ _ a (by omega), Bool.and_eq_true, decide_eq_true_iff, decide_eq_true_iff, Int.sub_zero]
      exact ⟨fun g => g.2, fun g => ⟨b, g⟩⟩
  obtain ⟨a1, a2, a3⟩ := zlo_v hG (p ^ (X 144 0).toNat).toNat 0 1000000000 X' (fun _ _ _ => rfl) (by decide)
  generalize (zlo p (X 144 0).toNat (p ^ (X 144 0).toNat).toNat 0 1000000000 X').1 = R at *
  have hP := zpw (fs := p) (k := (X 144 0).toNat) (by omega) hp.2 (by omega)
  refine ⟨fun v hv => ?_, ?_, a1⟩
  · obtain ⟨d, d1, d2⟩ := zDv_pS p.toNat 0 (zall (X 144 0)) v (by omega) hv
    obtain ⟨⟨c1, c2⟩, c3⟩ := zcd_v (fs := p) (d := d) (by omega) (X 144 0).toNat 0 (fun j a b => by
      have := d1 j a (by omega) (by rw [zall_b ho ⟨a, by omega⟩]; exact decide_eq_true (by omega))
      omega)
    have := a2 _ c1 (by omega)
    rw [d2]
    have e : zsm (fun f => zws X (Q 0 2) 0 503 (zprt (zall (X 144 0)) d f)) 0 p.toNat = zsm (fun f => zws X (Q 0 2) 0 503 (zprt (zall (X 144 0)) (fun k => zdd p k.toNat (zcd p d (X 144 0).toNat 0)) f)) 0 p.toNat := by
      refine zsm_congr _ _ (fun f f0 f1 => ?_)
      try dsimp only
      congr 1
      refine zex zprt_r zprt_r (fun k a b => ?_)
      rw [hb _ _ _ a b, hb _ _ _ a b]
      by_cases g : k < X 144 0
      · rw [c3 k.toNat (by omega), show (0 : Int) + (k.toNat : Int) = k by omega]
      · simp [g]
    rw [e]
    exact this
  · rcases a3 with a3 | ⟨c, c1, c2, c3⟩
    · exact .inl a3
    · refine .inr ?_
      rw [c3]
      refine zprt_T p.toNat 0 _ _ (by omega) (fun k a b g => ?_)
      have := zdd_r (fs := p) (by omega) k.toNat c
      try dsimp only
      omega
theorem zlr_e (hB : iB Q X) (hW : iW Q X) (hO : iO X) (hn : 0 ≤ Q 0 2 ∧ Q 0 2 ≤ 24) (hp : 1 ≤ p ∧ p ≤ 5) : zIs (zws X (Q 0 2) 0 503) p.toNat (zall (X 144 0)) (zlr (zws X (Q 0 2) 0 503) 7 (zall (X 144 0)) p) := by
  have hz := zall_r hO.2.1.1 hO.2.1.2
  have := zlr_is (fun r => (zws_b hB hW hO hn r).1) (zws_0 (Q := Q) hO) 7 p.toNat (zall (X 144 0)) (by omega) (by omega)
  rw [show ((p.toNat : Nat) : Int) = p by omega] at this
  exact this
theorem zaf_e (hB : iB Q X) (hW : iW Q X) (hO : iO X) (hn : 0 ≤ Q 0 2 ∧ Q 0 2 ≤ 24) : zIs (zws X (Q 0 2) 0 503) p.toNat (zall (X 144 0)) (zafs (zall (X 144 0) + 1).toNat p.toNat (zt0 (zws X (Q 0 2) 0)) 504 (zall (X 144 0))) ∧ (∀ f j, f ≠ 504 → f ≠ 503 → zafs (zall (X 144 0) + 1).toNat p.toNat (zt0 (zws X (Q 0 2) 0)) f j = X f j) ∧ (∀ j, zafs (zall (X 144 0) + 1).toNat p.toNat (zt0 (zws X (Q 0 2) 0)) 503 j = zws X (Q 0 2) 0 503 j) ∧ (∀ r, 0 ≤ zafs (zall (X 144 0) + 1).toNat p.toNat (zt0 (zws X (Q 0 2) 0)) 504 r ∧ zafs (zall (X 144 0) + 1).toNat p.toNat (zt0 (zws X (Q 0 2) 0)) 504 r ≤ 1000000000) := by
  have hz := zall_r hO.2.1.1 hO.2.1.2
  have d : ∀ X f j, f ≠ 504 → zt0 X f j = X f j := by
    intro X f j h
    unfold zt0 wu
    rw [if_neg (fun q => h q.1)]
    exact if_neg (fun q => h q.1)
  have b0 : ∀ r, 0 ≤ zt0 (zws X (Q 0 2) 0) 504 r ∧ zt0 (zws X (Q 0 2) 0) 504 r ≤ 1000000000 := fun r => by
    unfold zt0 wu
    split
    · omega
    · dsimp only
      split
      · omega
      · have : zws X (Q 0 2) 0 504 r = X 504 r := if_neg (by omega)
        rw [this]
        exact hO.2.2.2.2.2 r
  have hf : ∀ (k c : Nat) (X : zX) (f j : Int), f ≠ 504 → zafs k c X f j = X f j := by
    intro k c
    induction c with
    | zero => intro X f j h; rfl
    | succ c ih =>
      intro X f j h
      show zafs k c (zaf k X) f j = _
      rw [ih _ _ _ h, zaf_f _ _ _ _ h]
  have hr : ∀ (k c : Nat) (X : zX), (∀ r, 0 ≤ X 503 r) → (∀ r, 0 ≤ X 504 r ∧ X 504 r ≤ 1000000000) → ∀ r, 0 ≤ zafs k c X 504 r ∧ zafs k c X 504 r ≤ 1000000000 := by
    intro k c
    induction c with
    | zero => intro X h h2; exact h2
    | succ c ih =>
      intro X h h2
      exact ih (zaf k X) (fun r => by rw [zaf_f _ _ _ _ (by decide)]; exact h r) (zaf_r _ _ h h2)
  have w0 : ∀ r, 0 ≤ zws X (Q 0 2) 0 503 r := fun r => (zws_b hB hW hO hn r).1
  refine ⟨?_, fun f j h h' => ?_, fun j => ?_, hr _ _ _ (fun r => by rw [d _ _ _ (by decide)]; exact w0 r) b0⟩
  · have := zafs_is (w := zws X (Q 0 2) 0 503) (k := (zall (X 144 0) + 1).toNat) (by omega) w0 (zws_0 hO) p.toNat 0 (zt0 (zws X (Q 0 2) 0)) (funext fun j => d _ _ _ (by decide)) b0 (fun r a b => zt0_is ⟨a, by omega⟩) (zall (X 144 0)) hz.1 (by omega)
    rw [Nat.zero_add] at this
    exact this
  · rw [hf _ _ _ _ _ h, d _ _ _ h]
    exact if_neg (fun q => h' q.1)
  · rw [hf _ _ _ _ _ (by decide), d _ _ _ (by decide)]
end ZK
