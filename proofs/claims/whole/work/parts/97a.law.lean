/-! THE LAW, 1: a call of the law on both sides -/
/-- the script and the answer's cell -/
def zSc (Y : zLy) (n ps o m : Nat) (fa : Nat → Int32) : Prop := (ps < n ∧ (Y.2.2.1 ps).1 = 0 ∧ Y.2.1 ps = some (zEi 4 m fa)) ∧ (o < n ∧ o ≠ Y.1 ∧ (Y.2.2.1 o).1 = 0 ∧ ∃ g, Y.2.1 o = some (zEl 1 g)) ∧ o ≠ ps
/-- the law's state between two calls -/
def zSt (G : Nat × Nat) (t : Int) (ps o m : Nat) (fa : Nat → Int32) (Y : zLy) (n : Nat) (X : zX) : Prop := wY Y n ∧ Y.1 = G.1 ∧ iAll t Y.2.2.2.2 X ∧ zSc Y n ps o m fa
section ZL
variable {Y Y' : zLy} {n n' s s' : Nat} {X X' X2 : zX} {G : Nat × Nat} {ps o m : Nat} {fa : Nat → Int32} {t : Int}
theorem zSc_k (h : zSc Y n ps o m fa) (hl : wle Y n Y' n') : zSc Y' n' ps o m fa := by
  obtain ⟨⟨a1, a2, a3⟩, ⟨b1, b2, b3, g, b4⟩, c⟩ := h
  obtain ⟨l1, l2, l3, l4⟩ := hl
  have h1 := l4 ps a1 a2
  have h2 := l4 o b1 b3
  exact ⟨⟨by omega, h1.2, h1.1.trans a3⟩, ⟨by omega, by rw [l2]; exact b2, h2.2, g, h2.1.trans b4⟩, c⟩
theorem zSc_ld (h : zSc Y n ps o m fa) (hm : m ≤ 4000) {i : Int} (h0 : 0 ≤ i) (h1 : i < m) : zld false (wd Y n s X) ps (zJ i) = some (fa i.toNat) := by
  unfold zld
  rw [wdx_0 h.1.2.1, h.1.2.2]
  show (if zoff (zJ i) m ∨ (false ≠ decide (4 = 1)) then none else some (fa (zJ i).toNatClampNeg)) = _
  have hz : ¬zoff (zJ i) m := by
    rintro (hh | hh)
    · rw [show (0 : Int32) = zJ 0 from rfl, zJ_lt (by omega) (by omega) (by omega) (by omega)] at hh; omega
    · rw [zJ_clamp h0 (by omega)] at hh; omega
  rw [if_neg (by rintro (q | q); exact hz q; exact absurd q (by decide)), zJ_clamp h0 (by omega)]
/-- the answer is put into its cell -/
theorem zSc_st (h : zSc Y n ps o m fa) (hY : wY Y n) (x : Int64) : ∃ Y2 : zLy, (∀ (s : Nat) (X : zX), zstl (wd Y n s X) o 0 x = some (wd Y2 n s X)) ∧ wY Y2 n ∧ zSc Y2 n ps o m fa ∧ Y2.1 = Y.1 ∧ Y2.2.2.2.2 = Y.2.2.2.2 ∧ (∀ k i, wA Y2 k i = wA Y k i) ∧ (∀ k i, wV Y2 k i ↔ wV Y k i) ∧ (∀ (n s : Nat) (X : zX), zldl (wd Y2 n s X) o 0 = some x) := by
  obtain ⟨⟨a1, a2, a3⟩, ⟨b1, b2, b3, g, b4⟩, c⟩ := h
  refine ⟨yB Y o (zEl 1 (vp_updL g 0 x)), ?_, ⟨wK_B hY.1 (Nat.le_refl _) b2, hY.2⟩, ⟨⟨a1, a2, (if_neg (Ne.symm c)).trans a3⟩, ⟨b1, b2, b3, _, yB_b⟩, c⟩, rfl, rfl, fun _ _ => rfl, fun _ _ => Iff.rfl, fun n s X => ?_⟩
  · intro s X
    unfold zstl
    rw [wdx_0 b3, b4]
    show (if zoff 0 1 then none else some ((n, s, zup (wd Y n s X).2.2 o (zEl 1 (vp_updL g 0 x))) : zW)) = _
    rw [if_neg (by decide)]
    exact congrArg some (wd_B b3)
  · unfold zldl
    rw [wd_Bc (Y := Y) b3]
    show (if zoff 0 1 then none else some (vp_updL g 0 x 0)) = _
    rw [if_neg (by decide)]
    exact congrArg some (by simp [vp_updL])
/-- one call of the law on both sides -/
theorem law_step {ec : List (Nat × Int)} {cls : zW → zR} {rf : Nat → zW → zR} {wr : zW → zR} {st : Int32 → Int64} {hd : Nat → zW → zR} (hs : zSt G t ps o m fa Y n X) (k : zcal ec t Y n s X cls rf) (hwr : wr (wd Y n s X) = zthI (cls (wd Y n s X)) (fun t2 W1 => (zstl W1 o 0 (st t2)).bind fun W3 => some (.inl (some (.int 0)), W3)) hd) (hhd : ∀ E code, (E, code) ∈ ec → ∀ W, hd E W = some (.inl (some (.int (zJ code))), W)) : ∃ (Y' : zLy) (n' s' : Nat) (X1 X2 : zX) (code a : Int), wr (wd Y n s X) = some (.inl (some (.int (zJ code))), wd Y' n' s' X1) ∧ rf (wA Y 14 0) (wd Y' n' s' X1) = some (.inl (some (.int (zJ a))), wd Y' n' s' X2) ∧ ev_ G 35 0 [.ref (wA Y 14 0)] [] (wd Y' n' s' X2) = some (.inl (some (.int (zJ code))), wd Y' n' s' X2) ∧ (code = 0 → zldl (wd Y' n' s' X2) o 0 = some (st (zJ a))) ∧ zSt G (t + 1) ps o m fa Y' n' X2 ∧ wA Y' 13 0 = wA Y 13 0 ∧ wA Y' 14 0 = wA Y 14 0 ∧ wV Y' 14 0 ∧ (0 ≤ code ∧ code < 100) ∧ n' ≤ n + 30 ∧ s' ≤ s + 500 := by
  obtain ⟨hY, hG, hI, hc⟩ := hs
  obtain ⟨Y', n', s', X1, X2, code, ans, e1, e2, e3, e4, hY', hl, b1, b2, b3, hI'⟩ := k
  have hl' := hl
  obtain ⟨l1, l2, l3, l4⟩ := hl'
  have hV13 : wV Y 13 0 := (wY_F hY).2.1
  have hV14 : wV Y 14 0 := (wY_M hY).2.1
  have a13 := (l3 13 0 (by decide) (by decide) hV13).2
  have a14 := (l3 14 0 (by decide) (by decide) hV14).2
  have hc' := zSc_k hc hl
  rcases e1 with ⟨rfl, e1⟩ | ⟨E, hE, hne, e1⟩
  · obtain ⟨Y2, d1, d2, d3, d4, d5, d6, d7, d8⟩ := zSc_st hc' hY' (st (zJ ans))
    have hM2 : wM Y2 := wY_M d2
    obtain ⟨a, ha, r1⟩ := e2 Y2 n' s' hM2
    have hth := m_thrown (G := G) (n := n') (s := s') (X := X2) hM2
    rw [e3] at hth
    rw [d6] at r1 hth
    rw [a14] at r1 hth
    refine ⟨Y2, n', s', X1, X2, 0, a, ?_, r1, hth, fun _ => by rw [ha rfl]; exact d8 _ _ _, ⟨d2, by rw [d4, l2]; exact hG, by rw [d5]; exact hI', d3⟩, by rw [d6]; exact a13, by rw [d6]; exact a14, hM2.2.1, by omega, b1, b3⟩
    rw [hwr, e1, t_I, d1, t_b]
    rfl
  · have hM' : wM Y' := wY_M hY'
    obtain ⟨a, -, r1⟩ := e2 Y' n' s' hM'
    have hth := m_thrown (G := G) (n := n') (s := s') (X := X2) hM'
    rw [e3, a14] at hth
    rw [a14] at r1
    refine ⟨Y', n', s', X1, X2, code, a, ?_, r1, hth, fun h => absurd h hne, ⟨hY', by rw [l2]; exact hG, hI', hc'⟩, a13, a14, hM'.2.1, e4, b1, b3⟩
    rw [hwr, e1, t_Ie, hhd E code hE]
end ZL
