/-! SOUNDNESS, 5: what is thrown; calls -/
section ZH1
variable {p : Program} {l : Launch} {e : Env} {R : Room} {s : State} {m : MethodId} {args : Array Value} {below : List Frame} {meth : Method} {c : Code} {H : Heap} {locs : List Loc} {cells slots : Nat} {Q : State → Prop}
variable {ls : Array Slot} {rest : List Value}
/-- 'new E()': as vx_make0 of the throws' laws, with the heap behind it said exactly -/
theorem zx_make0 {cc : ByteArray} {pc : Nat} (hexec : p.tables.exec = Jvm.exec) (hb : c.code = cc) (hl : l.stackTraces = false) {own cls : String} {names : List String} {ik ic : Nat} {A : Nat → Prop}
    (hown : s.vm.findClass own = some m.cls) (hcls : Bundle.fit cls = true) (hnames : ∀ n ∈ names, Bundle.fit n = true)
    (hk : (Cond.classLink own ik cls).before args s = true) (hini : (Cond.initialized cls).before args s = true) (hat : ∀ w ∈ vx_at0 own ic cls names, w.before args s = true)
    (hgood : ∀ w ∈ Cond.classLink own ik cls :: Cond.initialized cls :: vx_at0 own ic cls names, vx_ot w = true)
    (hU : vx_Zq Bundle.tN "UNASSIGNED_STACK" Bundle.steD A s s.heap) (hN : vx_Zq Bundle.tN "SUPPRESSED_SENTINEL" Bundle.listD A s s.heap) (hS : va_S A s.heap H locs) (hsize : ls.size = c.maxLocals)
    (d0 : decode cc pc = .ok (.new ik, 3)) (d3 : decode cc (pc + 3) = .ok (.dup, 1)) (d4 : decode cc (pc + 4) = .ok (.invokespecial ic, 3))
    (hRframes : names.length + 3 < R.frames) (hRlocals : (rest.map fun v => v.category).sum + (13 * (names.length + 1) + 42) ≤ R.locals) (hRcells : cells + 1 ≤ R.cells) (hRslots : slots + 6 ≤ R.slots)
    (kk : ∀ (H1 : Heap) (ce : Cell), H1.size = H.size + 1 → (∀ q : Nat, q < H.size → H1[q]? = H[q]?) → H1[H.size]? = some ce → ce.vm = .none → s.vm.findClass cls = some ce.cls → W p l e R s m args below meth c H1 locs (cells + 1) (slots + 6) Q (F0 m (pc + 7) ls (.ref H.size :: rest))) :
    W p l e R s m args below meth c H locs cells slots Q (F0 m pc ls rest) := by
  intro T hT X
  subst hT
  have htr : e.platform.stackTraces = false := (show e.platform.stackTraces = l.stackTraces by rw [X.admits.platform]).trans hl
  have Y := vx_rebase X (R' := { frames := R.frames, locals := R.locals, cells := 1, slots := 6 }) (Nat.le_refl _) (Nat.le_refl _) hRcells hRslots
  obtain ⟨s', hA'⟩ : ∃ z, z = (T.setVm s.vm).setFrames (.invoking m args :: below) := ⟨_, rfl⟩
  rw [← hA'] at Y
  have hvm : s'.vm = s.vm := by rw [hA']; rfl
  have hhp : s'.heap = T.heap := by rw [hA']; rfl
  have hW0 : s.WarmedH s'.vm := by rw [hvm]; exact State.WarmedH.refl s
  have hat' : ∀ w ∈ vx_at0 own ic cls names, w.before args s' = true := fun w hw => vx_ot_at hW0 hvm.symm (hgood w (List.mem_cons_of_mem _ (List.mem_cons_of_mem _ hw))) (hat w hw)
  have hk' : (Cond.classLink own ik cls).before args s' = true := vx_ot_at hW0 hvm.symm (hgood _ List.mem_cons_self) hk
  have hini' : (Cond.initialized cls).before args s' = true := vx_ot_at hW0 hvm.symm (hgood _ (List.mem_cons_of_mem _ List.mem_cons_self)) hini
  have hU' : vx_Zq Bundle.tN "UNASSIGNED_STACK" Bundle.steD A s' s'.heap := by rw [hhp]; exact vx_Zq.moved hW0.alike (hU.kept hS.2.1)
  have hN' : vx_Zq Bundle.tN "SUPPRESSED_SENTINEL" Bundle.listD A s' s'.heap := by rw [hhp]; exact vx_Zq.moved hW0.alike (hN.kept hS.2.1)
  have h : ∀ w ∈ Bundle.ownAtoms0 own ic cls names, w.before args s' = true := vx_own hat' (vx_isRefq hU'.1) (vx_isRefq hN'.1) hU'.2.word hN'.2.word
  have hown' : s'.vm.findClass own = some m.cls := by rw [hvm]; exact hown
  have hins : (Cond.instantiable cls 6).before args s' = true := h _ (by simp [Bundle.ownAtoms0])
  obtain ⟨vm₁, cX, kX, hfX, hkX, -, -, X₁, st1⟩ := Y.newCold hexec (own := own) (C := cls) (index := ik) (n := 6) hown' hk' hins hini'
    (g := F0 m pc ls rest) rfl (by rw [hb]; exact d0) (Nat.le_refl _) (Nat.le_refl _)
  generalize hT1 : (T.setVm vm₁).pushCell { cls := cX, slots := kX.instanceTypes.map defaultValue, vm := .none } = T1 at X₁ st1
  have hcat : (Value.ref T.heap.size).category = 1 := rfl
  have hcellA : T1.heap[T.heap.size]? = some (freshCell cX kX) := by rw [← hT1]; exact State.heap_pushCell_size _ _
  have d3' : decode c.code (pc + 3) = .ok (.dup, 1) := by rw [hb]; exact d3
  obtain ⟨V, ce, L, Z, hL, hlt, hcl9, hvm9, st⟩ := vx_ctorMade0 X₁ hexec htr (own := own) (cls := cls) (names := names) (ic := ic) hown' hcls hnames h (fun x hx => nomatch hx) hfX hkX hcellA (by rw [hhp]; exact Nat.le_refl _)
    (g := { method := m, pc := pc + 4, locals := ls, stack := .ref T.heap.size :: .ref T.heap.size :: rest, locked := none }) rfl hsize (rest := rest) rfl
    (by rw [hb]; exact d4) hRframes (by simp only [List.map_cons, List.sum_cons, hcat]; omega)
  have Z0 := Stand.forget (locs := []) Z (fun y hy => by rw [hL y hy, hhp]; exact Nat.le_refl _)
  have f3 := Z0.same.2.2.1
  obtain ⟨f1, f2⟩ := vx_frame Z0.same
  rw [hhp] at f1 f2 f3
  have hcid : s.vm.findClass cls = some ce.cls := by
    rw [hcl9, ← hvm]
    exact hfX
  have hh : (V.setCell T.heap.size ce).heap[T.heap.size]? = some ce := heapAt_setCell_self (s := V) ce hlt
  have hgt : T.heap.size < (V.setCell T.heap.size ce).heap.size := (Array.getElem?_eq_some_iff.mp hh).1
  have hle : (V.setCell T.heap.size ce).heap.size ≤ T.heap.size + (0 + 1) := f3
  subst hA'
  have X5 := vx_back9 X Y Z0
  have X6 : Stand p l e R s m args below meth c (V.setCell T.heap.size ce) locs (cells + 1) (slots + 6) := { X5 with same := X5.same.mono (by omega) (by omega) }
  obtain ⟨t, a1, b1⟩ := kk (V.setCell T.heap.size ce).heap ce (by omega) (fun q hq => f2 q hq (fun z hz => nomatch hz)) hh hvm9 hcid _ rfl X6
  refine ⟨t, st1 _ ?_, b1⟩
  show Steps p.tables e below (T1.setTop { method := m, pc := pc + 3, locals := ls, stack := .ref T.heap.size :: rest, locked := none }) _
  jvm_step X₁.here [X₁.here.top, hexec, d3', Value.category]
  exact st _ a1
end ZH1
section ZH2
variable {l : Launch} {D : va_G} {cA : Nat → ClassId} {zb : Nat} {G : Nat × Nat} {P : zPP} {i : zI} {pc nx : Nat}
theorem zwords {s : State} {args : Array Value} {L : List Cond} (hts : ∀ w ∈ zT, w.before args s = true) (hNw : zNw s) (h : ∀ w ∈ L, w ∈ lw_tbl) (hg : ∀ w ∈ L, (goodWord w || (zkeep w && w.onTables)) = true) : ∀ w ∈ L, w.before args s = true := by
  intro w hw
  have h1 := hg w hw
  cases hgw : goodWord w with
  | true => exact hts w (List.mem_filter.mpr ⟨h w hw, hgw⟩)
  | false =>
    rw [hgw, Bool.false_or, Bool.and_eq_true] at h1
    exact va_Nw.use h1.2 (hNw w (List.mem_filter.mpr ⟨h w hw, h1.1⟩))
theorem ok_thr {E ik ic : Nat} {names : List String} (d0 : decode i.2.1 pc = .ok (.new ik, 3)) (d3 : decode i.2.1 (pc + 3) = .ok (.dup, 1)) (d4 : decode i.2.1 (pc + 4) = .ok (.invokespecial ic, 3)) (d7 : decode i.2.1 (pc + 7) = .ok (.athrow, 1))
    (hcls : Bundle.fit (zEx E) = true) (hnames : ∀ n ∈ names, Bundle.fit n = true) (hk : Cond.classLink i.1.cls ik (zEx E) ∈ zT) (hini : Cond.initialized (zEx E) ∈ zT) (hin : ∀ w ∈ vx_at0 i.1.cls ic (zEx E) names, w ∈ lw_tbl) (hg : ∀ w ∈ vx_at0 i.1.cls ic (zEx E) names, (goodWord w || (zkeep w && w.onTables)) = true)
    (hot : ∀ w ∈ Cond.classLink i.1.cls ik (zEx E) :: Cond.initialized (zEx E) :: vx_at0 i.1.cls ic (zEx E) names, vx_ot w = true) (hlen : names.length = 2) (hrk : 6 ≤ i.2.2.2.2.1) (hhh : i.2.2.2.2.2 = none) : zOK l D cA zb G P i (s_thr E) pc := by
  intro F K _ hK ls st w r h
  simp only [s_thr] at h
  split at h
  next =>
    cases h
    refine ⟨Nat.le_succ _, Nat.le_add_right _ _, fun p e R s m args below meth c cx H locs cells slots C S Q lsr hsim hl hS hC hS2 hc hs2 hend => ?_⟩
    obtain ⟨hex, hb, hr, hml, hown, hts, hlk, hnm2, hxt, hRf, hRl, htr, hzb, hKK, hZ, hU, hN, hM, hNw⟩ := cx
    have e1 : cells + 1 = C := by rw [← hC]; show cells + 1 = cells + (w.1 + 1 - w.1); omega
    have e2 : slots + 6 = S := by rw [← hS2]; show slots + 6 = slots + (w.2.1 + 6 - w.2.1); omega
    refine zx_make0 hex hb htr hown hcls hnames (hts _ hk) (hts _ hini) (zwords hts hNw hin hg) hot hU hN hS (hl.2.1.1.trans hml.symm) d0 d3 d4 (by omega) (by show 0 + _ ≤ _; omega) (by omega) (by omega) fun H1 ce g2 g3 g4 g5 g6 => ?_
    rw [e1, e2]
    exact vx_athrow hex hb d7 (hend hhh H1 locs H.size ce (pc + 7) lsr [] (hsim.grow g2 g3) ⟨Nat.le_trans hS.1 (by omega), fun x h1 h2 => (g3 x (Nat.lt_of_lt_of_le h1 hS.1)).trans (hS.2.1 x h1 h2), hS.2.2⟩ g4 g5 g6)
  next => cases h
end ZH2
