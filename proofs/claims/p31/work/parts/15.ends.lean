/-! SOUNDNESS, 4: returns, throws, the JDK's natives -/
section ZG
variable {l : Launch} {D : va_G} {cA : Nat → ClassId} {zb : Nat} {G : Nat × Nat} {P : zPP} {i : zI} {pc nx : Nat}
theorem zQ_ret {ls : List Value} {w : zW} {v : Option Value} (hr : zRt i pc v) : zQ l D cA zb G i pc ls v.toList w (.inl v, w) := by
  refine ⟨Nat.le_refl _, Nat.le_refl _, fun p e R s m args below meth c cx H locs cells slots C S Q lsr hsim hl hS hC hS2 hc hs2 hend => ?_⟩
  have e1 : cells = C := by rw [← hC]; show cells = cells + (w.1 - w.1); omega
  have e2 : slots = S := by rw [← hS2]; show slots = slots + (w.2.1 - w.2.1); omega
  subst e1
  subst e2
  exact hend H locs pc lsr hsim hS hr
theorem ok_rI (d : decode i.2.1 pc = .ok (.ireturn, 1)) (hr : i.2.2.2.1 = some .int) : zOK l D cA zb G P i s_rI pc := by
  intro F K _ hK ls st w r h
  simp only [s_rI] at h
  split at h
  next x => cases h; exact zQ_ret (v := some (.int x)) ⟨d, .int, hr, rfl⟩
  next => cases h
theorem ok_rZ (d : decode i.2.1 pc = .ok (.ireturn, 1)) (hr : i.2.2.2.1 = some .boolean) : zOK l D cA zb G P i s_rZ pc := by
  intro F K _ hK ls st w r h
  simp only [s_rZ] at h
  split at h
  next x =>
    by_cases hx : x &&& 1 = x
    · rw [if_pos hx] at h
      cases h
      exact zQ_ret (v := some (.int x)) ⟨d, .boolean, hr, congrArg Value.int hx⟩
    · rw [if_neg hx] at h; cases h
  next => cases h
theorem ok_rR (d : decode i.2.1 pc = .ok (.areturn, 1)) {rt : FieldType} (hr : i.2.2.2.1 = some rt) (hrt : (∃ n, rt = .object n) ∨ ∃ t, rt = .array t) : zOK l D cA zb G P i s_rR pc := by
  intro F K _ hK ls st w r h
  simp only [s_rR] at h
  split at h
  next x => cases h; exact zQ_ret (v := some (.ref x)) ⟨d, ⟨rt, hr, hrt⟩, Or.inr ⟨x, rfl⟩⟩
  next => cases h; exact zQ_ret (v := some .null) ⟨d, ⟨rt, hr, hrt⟩, Or.inl rfl⟩
  next => cases h
theorem ok_rV (d : decode i.2.1 pc = .ok (.return_, 1)) (hr : i.2.2.2.1 = none) : zOK l D cA zb G P i s_rV pc := by
  intro F K _ hK ls st w r h
  simp only [s_rV] at h
  split at h
  next => cases h; exact zQ_ret (v := none) ⟨d, hr⟩
  next => cases h
theorem zcs_sum : ∀ st : List Value, (st.map fun v => v.category).sum = zcs st
  | [] => rfl
  | v :: l => by simp [zcs, zcs_sum l]
theorem ok_obj {idx : Nat} (d : decode i.2.1 pc = .ok (.invokespecial idx, 3)) (hw : Cond.methodLink i.1.cls idx objectInit ∈ zT) (hi : Cond.instanceMethod objectInit ∈ zT) (hco : Cond.code objectInit ⟨#[0xb1]⟩ 1 none ∈ zT) (hrk : 1 ≤ i.2.2.2.2.1) (hn : nx = pc + 3) : zOK l D cA zb G P i (s_obj nx) pc := by
  intro F K _ hK ls st w r h
  simp only [s_obj] at h
  subst hn
  split at h
  next a =>
    refine (hK _ _ _ _ _ h).step fun p e R s m args below meth c cx H locs cells slots Q lsr hsim hl hS kk => ?_
    obtain ⟨hex, hb, hr, hml, hown, hts, hlk, hnm2, hxt, hRf, hRl, htr, hzb, hKK, hZ, hU, hN, hM, hNw⟩ := cx
    exact W.objInit hex hb hown (hts _ hw) (hts _ hi) (hts _ hco) rfl (hl.2.1.1.trans hml.symm) rfl d (by omega) (by show 2 * 0 + 0 + 12 ≤ _; omega) (kk lsr hl)
  next => cases h
theorem ok_gcls {idx : Nat} (d : decode i.2.1 pc = .ok (.invokevirtual idx, 3)) (hw : Cond.methodLink i.1.cls idx ⟨"java/lang/Object", "getClass", "()Ljava/lang/Class;"⟩ ∈ zT) (hde : Cond.declares ⟨"java/lang/Object", "getClass", "()Ljava/lang/Class;"⟩ ∈ zN) (hse : Cond.selects "[Ljava/lang/Object;" ⟨"java/lang/Object", "getClass", "()Ljava/lang/Class;"⟩ ⟨"java/lang/Object", "getClass", "()Ljava/lang/Class;"⟩ ∈ zT) (hi : Cond.instanceMethod ⟨"java/lang/Object", "getClass", "()Ljava/lang/Class;"⟩ ∈ zT) (hna : Cond.native ⟨"java/lang/Object", "getClass", "()Ljava/lang/Class;"⟩ ∈ zT) (hrk : 1 ≤ i.2.2.2.2.1) (hn : nx = pc + 3) : zOK l D cA zb G P i (s_gcls G.2 nx) pc := by
  intro F K _ hK ls st w r h
  simp only [s_gcls] at h
  subst hn
  split at h
  next a rr =>
    cases hz : Nat.ble (zcs rr) 8 with
    | false => rw [hz] at h; cases h
    | true =>
    rw [hz] at h
    have hz8 : zcs rr ≤ 8 := Nat.le_of_ble_eq_true hz
    have h : zckq w a (K (pc + 3) ls (.ref G.2 :: rr) w) = some r := h
    unfold zckq at h
    split at h
    next k n f he =>
      split at h
      next hk =>
        refine (hK _ _ _ _ _ h).step fun p e R s m args below meth c cx H locs cells slots Q lsr hsim hl hS kk => ?_
        obtain ⟨hex, hb, hr, hml, hown, hts, hlk, hnm2, hxt, hRf, hRl, htr, hzb, hKK, hZ, hU, hN, hM, hNw⟩ := cx
        rcases hsim.2 a _ he with ⟨q, -⟩ | ⟨-, hza, q⟩
        · omega
        · exact va_getC hex hb (hml.trans hl.2.1.1.symm) hown (hts _ hw) (va_Nw.use rfl (hNw _ hde)) (hts _ hse) (hts _ hi) (hts _ hna) hM.1 ⟨_, q, rfl, va_nmO (zK_arr (k := 3) hKK rfl).2 (by decide)⟩ (by omega) (by rw [zcs_sum]; omega) d (kk lsr hl)
      next => cases h
    next => cases h
  next => cases h
theorem ok_cpy {idx : Nat} (d : decode i.2.1 pc = .ok (.invokestatic idx, 3)) (hw : Cond.methodLink i.1.cls idx arraycopyName ∈ zT) (hna : Cond.native arraycopyName ∈ zT) (hst : Cond.static arraycopyName ∈ zT) (hini : Cond.initialized "java/lang/System" ∈ zT) (hca : ∀ (ci : Nat) (q : vw_C), vwCl[ci]? = some q → Cond.castable q.1 "java/lang/Object" ∈ zN) (hrk : 1 ≤ i.2.2.2.2.1) (hn : nx = pc + 3) : zOK l D cA zb G P i (s_cpy nx) pc := by
  intro F K _ hK ls st w r h
  simp only [s_cpy] at h
  subst hn
  split at h
  next n dp a sp a0 =>
    obtain ⟨w', hp, h⟩ := Option.bind_eq_some_iff.mp h
    unfold zcpy at hp
    split at hp
    next k0 n0 f kd n1 g he0 he1 =>
      split at hp
      · cases hp
      next hnot =>
        cases hp
        have hne : a0 ≠ a := fun q => hnot (Or.inl q)
        have hk : kd = 3 := Decidable.byContradiction fun q => hnot (Or.inr (Or.inl (Or.inl q)))
        have hk0' : k0 = 3 := Decidable.byContradiction fun q => hnot (Or.inr (Or.inl (Or.inr q)))
        have h1 : ¬ sp < 0 := fun q => hnot (Or.inr (Or.inr (Or.inl q)))
        have h2 : ¬ dp < 0 := fun q => hnot (Or.inr (Or.inr (Or.inr (Or.inl q))))
        have h3 : ¬ n < 0 := fun q => hnot (Or.inr (Or.inr (Or.inr (Or.inr (Or.inl q)))))
        have h4 : sp.toNatClampNeg + n.toNatClampNeg ≤ n0 := Nat.not_lt.mp fun q => hnot (Or.inr (Or.inr (Or.inr (Or.inr (Or.inr (Or.inl q))))))
        have h5 : dp.toNatClampNeg + n.toNatClampNeg ≤ n1 := Nat.not_lt.mp fun q => hnot (Or.inr (Or.inr (Or.inr (Or.inr (Or.inr (Or.inr (Or.inl q)))))))
        have h6 : ∀ j : Nat, j < n.toNatClampNeg → ∀ y : Nat, f (sp.toNatClampNeg + j) = some y → zio w y = true := by
          intro j hj y hy
          have q : ¬ (List.range n.toNatClampNeg).any (fun j => match f (sp.toNatClampNeg + j) with | some y => !zio w y | none => false) = true := fun q => hnot (Or.inr (Or.inr (Or.inr (Or.inr (Or.inr (Or.inr (Or.inr q)))))))
          cases hz : zio w y with
          | true => rfl
          | false => exact absurd (List.any_eq_true.mpr ⟨j, List.mem_range.mpr hj, by rw [hy]; simp [hz]⟩) q
        subst hk
        refine zst_move (hK _ _ _ _ _ h) fun p e R s m args below meth c cx H locs cells slots Q lsr hsim hl hS kk => ?_
        obtain ⟨hex, hb, hr, hml, hown, hts, hlk, hnm2, hxt, hRf, hRl, htr, hzb, hKK, hZ, hU, hN, hM, hNw⟩ := cx
        obtain ⟨hza, hc1⟩ : zb ≤ a ∧ H[a]? = some (vp_cell (cA 3) (n1, .inr (.inr (.inr (.inr g))))) := by
          rcases hsim.2 a _ he1 with ⟨q, -⟩ | ⟨-, q⟩
          · cases q
          · exact q
        rcases hsim.2 a0 _ he0 with ⟨q, -⟩ | ⟨-, -, hc0⟩
        · exact absurd q (by rw [hk0']; decide)
        · obtain ⟨-, k0, hk0, cm0, hkk0⟩ := (zK_arr (k := 3) hKK rfl).1 n0 (fun j => va_rf (f j))
          obtain ⟨-, k1, hk1, cm1, hkk1⟩ := (zK_arr (k := 3) hKK rfl).1 n1 (fun j => va_rf (g j))
          have nn : ∀ z : Int32, ¬ z < 0 → z.toInt = (z.toNatClampNeg : Int) := by
            intro z hz
            have hz0 : (0 : Int) ≤ z.toInt := by
              have := Int32.not_lt.mp hz
              simpa using Int32.le_iff_toInt_le.mp this
            show z.toInt = ((z.toInt.toNat : Nat) : Int)
            omega
          intro T hT X
          obtain ⟨vm', X', step⟩ := X.arraycopy hex hown (hts _ hw) (hts _ hna) (hts _ hst) (hts _ hini) (src := a0) (dst := a) (cs := vp_cell (cA 3) (n0, .inr (.inr (.inr (.inr f))))) (cd := vp_cell (cA 3) (n1, .inr (.inr (.inr (.inr g))))) (srcPos := sp) (destPos := dp) (n := n) (by rw [hT]; exact hc0) (by rw [hT]; exact hc1)
            (fun _ h => by cases h) (fun _ h => by cases h) (fun h => by cases h) (fun h => by cases h) hk0 hk1 hkk0 hkk1 rfl h1 h2 h3
            (by rw [nn sp h1, nn n h3]; show ¬ _ > ((arrV (cA 3) n0 (fun j => va_rf (f j))).slots.size : Int); rw [arrV_size]; omega)
            (by rw [nn dp h2, nn n h3]; show ¬ _ > ((arrV (cA 3) n1 (fun j => va_rf (g j))).slots.size : Int); rw [arrV_size]; omega)
            (fun vm₁ hal i hi => by
              have e : (vp_cell (cA 3) (n0, .inr (.inr (.inr (.inr f))))).slots.getD (sp.toNatClampNeg + i) .null = va_rf (f (sp.toNatClampNeg + i)) := by
                show (arrV (cA 3) n0 (fun j => va_rf (f j))).slots.getD _ _ = _
                rw [Array.getD_eq_getD_getElem?, arrV_read _ _ (by omega)]
                rfl
              rw [e]
              cases hy : f (sp.toNatClampNeg + i) with
              | none => exact ⟨rfl, trivial⟩
              | some y =>
                obtain ⟨cellV, g1, g2, ⟨kC, hkC⟩, hasg⟩ := zio_any hKK hNw hca hsim (h6 i hi y hy)
                obtain ⟨kA, comp, r1, r2, r3, -⟩ := (zK_arr (k := 3) hKK rfl).2
                cases hk1.symm.trans r1
                cases hkk1.symm.trans r2
                obtain ⟨kE, hkE, -⟩ := Vm.findClass_spec r3
                obtain ⟨kC', hkC', -⟩ := hal.2.2 _ _ hkC
                obtain ⟨kE', hkE', -⟩ := hal.2.2 _ _ hkE
                refine ⟨rfl, cellV, (show T.heap[y]? = some cellV by rw [hT]; exact g1), (fun q h => by rw [h] at g2; cases g2), ⟨kC', hkC'⟩, ?_, ?_⟩
                · exact ⟨kE', hkE'⟩
                · show vm₁.assignable _ _ = true
                  rw [hal.assignable]
                  exact hasg _ r3)
            (g := F0 m pc lsr (.int n :: .int dp :: .ref a :: .int sp :: .ref a0 :: [])) rfl (hl.2.1.1.trans hml.symm) (rest := []) rfl (by rw [hb]; exact d) (by omega) (by show 2 * 0 + 0 + _ ≤ _; have hw : nativeFrameWords "java/lang/System" "arraycopy" 5 ≤ 21 := (by decide); omega)
          have e1 : copied (vp_cell (cA 3) (n0, .inr (.inr (.inr (.inr f))))) (vp_cell (cA 3) (n1, .inr (.inr (.inr (.inr g))))) sp dp n = vp_cell (cA 3) (n1, .inr (.inr (.inr (.inr (va_cpy f g sp.toNatClampNeg dp.toNatClampNeg n.toNatClampNeg))))) := by
            rw [vp_cell_q, vp_cell_q, vp_cell_q]
            exact va_copied (fun z => va_rf z) (cA 3) (cA 3) f g h4
          rw [e1] at X' step
          have hlt : a < H.size := (Array.getElem?_eq_some_iff.mp hc1).1
          have hheap : ((T.setVm vm').setCell a (vp_cell (cA 3) (n1, .inr (.inr (.inr (.inr (va_cpy f g sp.toNatClampNeg dp.toNatClampNeg n.toNatClampNeg))))))).heap = H.setIfInBounds a (vp_cell (cA 3) (n1, .inr (.inr (.inr (.inr (va_cpy f g sp.toNatClampNeg dp.toNatClampNeg n.toNatClampNeg)))))) := by rw [← hT]; rfl
          obtain ⟨t, a1, b1⟩ := kk _ _ (by simp) (fun q hq => by simp [Array.getElem?_setIfInBounds, Ne.symm hq]) (Or.inr ⟨rfl, hza, by simp [Array.getElem?_setIfInBounds, hlt]⟩) (fun x hx => by
            obtain ⟨z, -, hz⟩ := List.mem_map.mp hx
            rw [← hz]) hza _ hheap X'
          exact ⟨t, step t a1, b1⟩
    next => cases hp
  next => cases h
end ZG
