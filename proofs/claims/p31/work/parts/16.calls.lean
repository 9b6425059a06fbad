/-! SOUNDNESS, 5: what is thrown; calls -/
section ZH1
variable {p : Program} {l : Launch} {e : Env} {R : Room} {s : State} {m : MethodId} {args : Array Value} {below : List Frame} {meth : Method} {c : Code} {H : Heap} {locs : List Loc} {cells slots : Nat} {Q : State → Prop}
variable {ls : Array Slot} {rest : List Value}
/-- 'new E()': as vx_make0 of the throws' laws, with the heap behind it said exactly -/
theorem zx_make0 {cc : ByteArray} {pc : Nat} (hexec : p.tables.exec = Jvm.exec) (hb : c.code = cc) (hl : l.stackTraces = false) {own cls : String} {names : List String} {ik ic : Nat} {A : Nat → Prop}
    (hown : s.vm.findClass own = some m.cls) (hcls : Bundle.fit cls = true) (hnames : ∀ n ∈ names, Bundle.fit n = true)
    (hk : (Cond.classLink own ik cls).before args s = true) (hini : (Cond.initialized cls).before args s = true) (hat : ∀ w ∈ vx_at0 own ic cls names, w.before args s = true)
    (hgood : ∀ w ∈ Cond.classLink own ik cls :: Cond.initialized cls :: vx_at0 own ic cls names, vx_ot w = true)
    (hU : vx_Zq Bundle.tN "UNASSIGNED_STACK" Bundle.steD A s s.heap) (hN : vx_Zq Bundle.tN "SUPPRESSED_SENTINEL" Bundle.listD A s s.heap) (hS : va_S A s.heap H locs) (hsize : ls.size = c.maxLocals)
    (d0 : decode cc pc = .ok (.new ik, 3)) (d3 : decode cc (pc + 3) = .ok (.dup, 1)) (d4 : decode cc (pc + 4) = .ok (.invokespecial ic, 3))
    (hRframes : names.length + 3 < R.frames) (hRlocals : (rest.map fun v => v.category).sum + (13 * (names.length + 1) + 42) ≤ R.locals) (hRcells : cells + 1 ≤ R.cells) (hRslots : slots + 6 ≤ R.slots)
    (kk : ∀ (H1 : Heap) (ce : Cell), H1.size = H.size + 1 → (∀ q : Nat, q < H.size → H1[q]? = H[q]?) → H1[H.size]? = some ce → ce.vm = .none → s.vm.findClass cls = some ce.cls → W p l e R s m args below meth c H1 locs (cells + 1) (slots + 6) Q (F0 m (pc + 7) ls (.ref H.size :: rest))) :
    W p l e R s m args below meth c H locs cells slots Q (F0 m pc ls rest) := by
  intro T hT X
  subst hT
  have htr : e.platform.stackTraces = false := (show e.platform.stackTraces = l.stackTraces by rw [X.admits.platform]).trans hl
  have Y := vx_rebase X (R' := { frames := R.frames, locals := R.locals, cells := 1, slots := 6 }) (Nat.le_refl _) (Nat.le_refl _) hRcells hRslots
  obtain ⟨s', hA'⟩ : ∃ z, z = (T.setVm s.vm).setFrames (.invoking m args :: below) := ⟨_, rfl⟩
  rw [← hA'] at Y
  have hvm : s'.vm = s.vm := by rw [hA']; rfl
  have hhp : s'.heap = T.heap := by rw [hA']; rfl
  have hW0 : s.WarmedH s'.vm := by rw [hvm]; exact State.WarmedH.refl s
  have hat' : ∀ w ∈ vx_at0 own ic cls names, w.before args s' = true := fun w hw => vx_ot_at hW0 hvm.symm (hgood w (List.mem_cons_of_mem _ (List.mem_cons_of_mem _ hw))) (hat w hw)
  have hk' : (Cond.classLink own ik cls).before args s' = true := vx_ot_at hW0 hvm.symm (hgood _ List.mem_cons_self) hk
  have hini' : (Cond.initialized cls).before args s' = true := vx_ot_at hW0 hvm.symm (hgood _ (List.mem_cons_of_mem _ List.mem_cons_self)) hini
  have hU' : vx_Zq Bundle.tN "UNASSIGNED_STACK" Bundle.steD A s' s'.heap := by rw [hhp]; exact vx_Zq.moved hW0.alike (hU.kept hS.2.1)
  have hN' : vx_Zq Bundle.tN "SUPPRESSED_SENTINEL" Bundle.listD A s' s'.heap := by rw [hhp]; exact vx_Zq.moved hW0.alike (hN.kept hS.2.1)
  have h : ∀ w ∈ Bundle.ownAtoms0 own ic cls names, w.before args s' = true := vx_own hat' (vx_isRefq hU'.1) (vx_isRefq hN'.1) hU'.2.word hN'.2.word
  have hown' : s'.vm.findClass own = some m.cls := by rw [hvm]; exact hown
  have hins : (Cond.instantiable cls 6).before args s' = true := h _ (by simp [Bundle.ownAtoms0])
  obtain ⟨vm₁, cX, kX, hfX, hkX, -, -, X₁, st1⟩ := Y.newCold hexec (own := own) (C := cls) (index := ik) (n := 6) hown' hk' hins hini'
    (g := F0 m pc ls rest) rfl (by rw [hb]; exact d0) (Nat.le_refl _) (Nat.le_refl _)
  generalize hT1 : (T.setVm vm₁).pushCell { cls := cX, slots := kX.instanceTypes.map defaultValue, vm := .none } = T1 at X₁ st1
  have hcat : (Value.ref T.heap.size).category = 1 := rfl
  have hcellA : T1.heap[T.heap.size]? = some (freshCell cX kX) := by rw [← hT1]; exact State.heap_pushCell_size _ _
  have d3' : decode c.code (pc + 3) = .ok (.dup, 1) := by rw [hb]; exact d3
  obtain ⟨V, ce, L, Z, hL, hlt, hcl9, hvm9, st⟩ := vx_ctorMade0 X₁ hexec htr (own := own) (cls := cls) (names := names) (ic := ic) hown' hcls hnames h (fun x hx => nomatch hx) hfX hkX hcellA (by rw [hhp]; exact Nat.le_refl _)
    (g := { method := m, pc := pc + 4, locals := ls, stack := .ref T.heap.size :: .ref T.heap.size :: rest, locked := none }) rfl hsize (rest := rest) rfl
    (by rw [hb]; exact d4) hRframes (by simp only [List.map_cons, List.sum_cons, hcat]; omega)
  have Z0 := Stand.forget (locs := []) Z (fun y hy => by rw [hL y hy, hhp]; exact Nat.le_refl _)
  have f3 := Z0.same.2.2.1
  obtain ⟨f1, f2⟩ := vx_frame Z0.same
  rw [hhp] at f1 f2 f3
  have hcid : s.vm.findClass cls = some ce.cls := by
    rw [hcl9, ← hvm]
    exact hfX
  have hh : (V.setCell T.heap.size ce).heap[T.heap.size]? = some ce := heapAt_setCell_self (s := V) ce hlt
  have hgt : T.heap.size < (V.setCell T.heap.size ce).heap.size := (Array.getElem?_eq_some_iff.mp hh).1
  have hle : (V.setCell T.heap.size ce).heap.size ≤ T.heap.size + (0 + 1) := f3
  subst hA'
  have X5 := vx_back9 X Y Z0
  have X6 : Stand p l e R s m args below meth c (V.setCell T.heap.size ce) locs (cells + 1) (slots + 6) := { X5 with same := X5.same.mono (by omega) (by omega) }
  obtain ⟨t, a1, b1⟩ := kk (V.setCell T.heap.size ce).heap ce (by omega) (fun q hq => f2 q hq (fun z hz => nomatch hz)) hh hvm9 hcid _ rfl X6
  refine ⟨t, st1 _ ?_, b1⟩
  show Steps p.tables e below (T1.setTop { method := m, pc := pc + 3, locals := ls, stack := .ref T.heap.size :: rest, locked := none }) _
  jvm_step X₁.here [X₁.here.top, hexec, d3', Value.category]
  exact st _ a1
end ZH1
section ZH2
variable {l : Launch} {D : va_G} {cA : Nat → ClassId} {zb : Nat} {G : Nat × Nat} {P : zPP} {i : zI} {pc nx : Nat}
theorem zwords {s : State} {args : Array Value} {L : List Cond} (hts : ∀ w ∈ zT, w.before args s = true) (hNw : zNw s) (h : ∀ w ∈ L, w ∈ lw_tbl) (hg : ∀ w ∈ L, (goodWord w || (zkeep w && w.onTables)) = true) : ∀ w ∈ L, w.before args s = true := by
  intro w hw
  have h1 := hg w hw
  cases hgw : goodWord w with
  | true => exact hts w (List.mem_filter.mpr ⟨h w hw, hgw⟩)
  | false =>
    rw [hgw, Bool.false_or, Bool.and_eq_true] at h1
    exact va_Nw.use h1.2 (hNw w (List.mem_filter.mpr ⟨h w hw, h1.1⟩))
theorem ok_thr {E ik ic : Nat} {names : List String} (d0 : decode i.2.1 pc = .ok (.new ik, 3)) (d3 : decode i.2.1 (pc + 3) = .ok (.dup, 1)) (d4 : decode i.2.1 (pc + 4) = .ok (.invokespecial ic, 3)) (d7 : decode i.2.1 (pc + 7) = .ok (.athrow, 1))
    (hcls : Bundle.fit (zEx E) = true) (hnames : ∀ n ∈ names, Bundle.fit n = true) (hk : Cond.classLink i.1.cls ik (zEx E) ∈ zT) (hini : Cond.initialized (zEx E) ∈ zT) (hin : ∀ w ∈ vx_at0 i.1.cls ic (zEx E) names, w ∈ lw_tbl) (hg : ∀ w ∈ vx_at0 i.1.cls ic (zEx E) names, (goodWord w || (zkeep w && w.onTables)) = true)
    (hot : ∀ w ∈ Cond.classLink i.1.cls ik (zEx E) :: Cond.initialized (zEx E) :: vx_at0 i.1.cls ic (zEx E) names, vx_ot w = true) (hlen : names.length = 2) (hrk : 6 ≤ i.2.2.2.2.1) (hhh : i.2.2.2.2.2 = none) : zOK l D cA zb G P i (s_thr E) pc := by
  intro F K _ hK ls st w r h
  simp only [s_thr] at h
  split at h
  next =>
    cases h
    refine ⟨Nat.le_succ _, Nat.le_add_right _ _, fun p e R s m args below meth c cx H locs cells slots C S Q lsr hsim hl hS hC hS2 hc hs2 hend => ?_⟩
    obtain ⟨hex, hb, hr, hml, hown, hts, hlk, hnm2, hxt, hRf, hRl, htr, hzb, hKK, hZ, hU, hN, hM, hNw⟩ := cx
    have e1 : cells + 1 = C := by rw [← hC]; show cells + 1 = cells + (w.1 + 1 - w.1); omega
    have e2 : slots + 6 = S := by rw [← hS2]; show slots + 6 = slots + (w.2.1 + 6 - w.2.1); omega
    refine zx_make0 hex hb htr hown hcls hnames (hts _ hk) (hts _ hini) (zwords hts hNw hin hg) hot hU hN hS (hl.2.1.1.trans hml.symm) d0 d3 d4 (by omega) (by show 0 + _ ≤ _; omega) (by omega) (by omega) fun H1 ce g2 g3 g4 g5 g6 => ?_
    rw [e1, e2]
    exact vx_athrow hex hb d7 (hend hhh H1 locs H.size ce (pc + 7) lsr [] (hsim.grow g2 g3) ⟨Nat.le_trans hS.1 (by omega), fun x h1 h2 => (g3 x (Nat.lt_of_lt_of_le h1 hS.1)).trans (hS.2.1 x h1 h2), hS.2.2⟩ g4 g5 g6)
  next => cases h
end ZH2
/-! a method's contract out of the abstract machine's run -/
theorem zx_ofW {l : Launch} {y : MethodName} {ws ws' : List Cond} {rm : Room} {Pc : Array Value → State → Prop} {Qc : Array Value → State → Outcome → State → Prop} {XC : String → State → State → Prop} {mc ms : Nat} {free : Addr → Prop} {cc : ByteArray} {maxL : Nat} {ret : Option FieldType}
    (hy : plainFor y = true) (hw : ws = Cond.code y cc maxL ret :: ws')
    (body : ∀ p e s m args below meth c s₁, BodyLoose p l y (headSpec ws rm) cc maxL ret e s m args below meth c s₁ → c.maxLocals = maxL → (∀ x ∈ c.exceptionTable.toList, False) → Pc args s →
      W p l e (headSpec ws rm).room s m args below meth c s.heap [] 0 0 (vx_MQ below Qc XC args s mc ms free) (entryFrame m args maxL)) : vx_Met l y ws rm Pc Qc XC mc ms free := by
  refine MetFree.of_bodySF (code := cc) (maxLocals := maxL) (ret := ret) hy ?_ ?_
  · intro args s m h hn
    obtain ⟨meth, c, h1, h2, h3, h4, h5, h6, -, -⟩ := Cond.code_spec hn (atoms_spec (ws := ws) h _ (by rw [hw]; exact List.mem_cons_self))
    exact ⟨meth, c, h1, h2, h3, h4, h5, h6⟩
  · intro p e s m args below meth c s₁ B hml hP _
    have hh0 : s₁.heap = s.heap := by rw [B.state]; rfl
    have ht : ∀ x ∈ c.exceptionTable.toList, False := by
      obtain ⟨meth9, c9, h1, h2, -, -, -, -, h7, -⟩ := Cond.code_spec B.named (atoms_spec (ws := ws) B.pre _ (by rw [hw]; exact List.mem_cons_self))
      cases Option.some.inj (h1.symm.trans B.method)
      cases Option.some.inj (h2.symm.trans (Stand.of_body B).code)
      intro x hx
      rw [Array.isEmpty_iff.mp h7] at hx
      cases hx
    obtain ⟨t, a1, o, b1, b2, b3⟩ := body p e s m args below meth c s₁ B hml ht hP s₁ hh0 (Stand.of_body B)
    exact ⟨t, o, a1, b1, b2, b3⟩
def zPc (D : va_G) (cA : Nat → ClassId) (zb : Nat) (G : Nat × Nat) (as : List Value) (w : zW) : Array Value → State → Prop := fun a U => a = as.toArray ∧ zSim D cA zb U w U.heap ∧ zCt D cA zb G U
def zQc (D : va_G) (cA : Nat → ClassId) (zb : Nat) (r : zO × zW) : Array Value → State → Outcome → State → Prop := fun _ st o t => ∃ v, r.1 = .inl v ∧ o = .returned v ∧ zSim D cA zb t r.2 t.heap ∧ va_F (zA zb) st t
def zXC (D : va_G) (cA : Nat → ClassId) (zb : Nat) (r : zO × zW) : String → State → State → Prop := fun E st t => ∃ k, r.1 = .inr k ∧ E = zEx k ∧ zSim D cA zb t r.2 t.heap ∧ va_F (zA zb) st t
/-- the words of a call: the method's code first -/
def zHd (i : zI) : Cond := match i.2.2.2.2.2 with
  | none => .code i.1 i.2.1 i.2.2.1 i.2.2.2.1
  | some hh => .codeWith i.1 i.2.1 i.2.2.1 i.2.2.2.1 hh
def zRm (i : zI) (mc ms : Nat) : Room := { frames := i.2.2.2.2.1, cells := mc, slots := ms, locals := 60 * i.2.2.2.2.1 }
theorem zpr_args : ∀ (as : List Value) (k n : Nat), (∀ v ∈ as, v.category = 1 ∧ v ≠ zU) → zpr k (as ++ List.replicate n zU) = lv_args k as
  | [], k, n, _ => by
    induction n generalizing k with
    | zero => rfl
    | succ n ih =>
      show zpr k (zU :: List.replicate n zU) = []
      unfold zpr
      rw [if_pos rfl]
      exact ih (k + 1)
  | v :: as, k, n, h => by
    obtain ⟨h1, h2⟩ := h v List.mem_cons_self
    show zpr k (v :: (as ++ List.replicate n zU)) = _
    unfold zpr lv_args
    rw [if_neg h2, if_neg (by omega), zpr_args as (k + 1) n (fun x hx => h x (List.mem_cons_of_mem _ hx))]
theorem zsl_len : ∀ as : List Value, (∀ v ∈ as, v.category = 1 ∧ v ≠ zU) → (lg_sl as).length = as.length
  | [], _ => rfl
  | v :: as, h => by
    obtain ⟨h1, -⟩ := h v List.mem_cons_self
    have := zsl_len as (fun x hx => h x (List.mem_cons_of_mem _ hx))
    unfold lg_sl at this ⊢
    rw [List.flatMap_cons, List.length_append, this, if_neg (by omega)]
    simp
    omega
theorem zL_entry {as : List Value} {n : Nat} (h : ∀ v ∈ as, v.category = 1 ∧ v ≠ zU) (hn : as.length ≤ n) : zL n (as ++ List.replicate (n - as.length) zU) ((lg_sl as ++ List.replicate (n - (lg_sl as).length) Slot.unset).toArray) := by
  refine ⟨by simp; omega, ?_, fun v hv => ?_⟩
  · rw [zpr_args as 0 _ h]
    exact lv_entry as (by rw [zsl_len as h]; exact hn)
  · rcases List.mem_append.mp hv with h1 | h1
    · exact (h v h1).1
    · rw [(List.mem_replicate.mp h1).2]; rfl
section ZH3
variable {l : Launch} {D : va_G} {cA : Nat → ClassId} {zb : Nat} {G : Nat × Nat} {P : zPP} {i i' : zI} {pc nx : Nat}
/-- what a method's end owes, in the form of a contract -/
theorem zEnd_met {p : Program} {e : Env} {R : Room} {s : State} {m : MethodId} {args : Array Value} {below : List Frame} {meth : Method} {c : Code} {mc ms : Nat} {r : zO × zW} (cx : zCx l D cA zb G i p R s m args meth c) : zEnd l D cA zb i p e R s m args below meth c (vx_MQ below (zQc D cA zb r) (zXC D cA zb r) args s mc ms (zA zb)) mc ms r := by
  obtain ⟨hex, hb, hr, hml, hown, hts, hlk, hnm2, hxt, hRf, hRl, htr, hzb, hKK, hZ, hU, hN, hM, hNw⟩ := cx
  unfold zEnd
  split
  next v he =>
    intro H locs pc lsr hs hS hrt
    have hq : ∀ t : State, t.heap = H → s.WarmedH t.vm → zQc D cA zb r args s (.returned v) t := fun t ht hW => ⟨v, he, rfl, by rw [ht]; exact hs.moved hW.alike, hS.F ht⟩
    unfold zRt at hrt
    split at hrt
    · exact vx_ret (W.vret hex hb (hr.trans hrt.2) hq hS.2.2 hrt.1)
    · obtain ⟨d, ty, g1, g2⟩ := hrt
      exact vx_ret (W.zret hex hb (hr.trans g1) g2 hq hS.2.2 d)
    · obtain ⟨d, ⟨rt, g1, g2⟩, g3⟩ := hrt
      exact vx_ret (W.aret hex hb (hr.trans g1) g2 g3 hq hS.2.2 d)
  next E he =>
    intro hn H locs q ce pc lsr rest hs hS hq hvm hcl
    rw [hn] at hxt
    exact vx_out (fun x hx => (hxt x hx).elim) hlk hq hvm hcl (fun t ht hA => ⟨E, he, rfl, by rw [ht]; exact hs.moved hA, hS.F ht⟩) hS.2.2 (Nat.le_refl _) (Nat.le_refl _)
theorem zMet {as : List Value} {w : zW} {r : zO × zW} (htr : l.stackTraces = false) (hy : plainFor i.1 = true) (has : ∀ v ∈ as, v.category = 1 ∧ v ≠ zU) (hlen : as.length ≤ i.2.2.1) (h : zQ l D cA zb G i 0 (as ++ List.replicate (i.2.2.1 - as.length) zU) [] w r) :
    vx_Met l i.1 (zHd i :: zT) (zRm i (r.2.1 - w.1) (r.2.2.1 - w.2.1)) (zPc D cA zb G as w) (zQc D cA zb r) (zXC D cA zb r) (r.2.1 - w.1) (r.2.2.1 - w.2.1) (zA zb) := by
  have go : ∀ (p : Program) (e : Env) (s : State) (m : MethodId) (args : Array Value) (below : List Frame) (meth : Method) (c : Code), zCx l D cA zb G i p (headSpec (zHd i :: zT) (zRm i (r.2.1 - w.1) (r.2.2.1 - w.2.1))).room s m args meth c → args = as.toArray → zSim D cA zb s w s.heap →
      W p l e (headSpec (zHd i :: zT) (zRm i (r.2.1 - w.1) (r.2.2.1 - w.2.1))).room s m args below meth c s.heap [] 0 0 (vx_MQ below (zQc D cA zb r) (zXC D cA zb r) args s (r.2.1 - w.1) (r.2.2.1 - w.2.1) (zA zb)) (entryFrame m args i.2.2.1) := by
    intro p e s m args below meth c cx ha hs
    subst ha
    rw [lg_entry_eq]
    exact h.2.2 p e _ s m _ below meth c cx s.heap [] 0 0 _ _ _ _ hs (zL_entry has hlen) va_S.rf (Nat.zero_add _) (Nat.zero_add _) (Nat.le_refl _) (Nat.le_refl _) (zEnd_met cx)
  cases hh : i.2.2.2.2.2 with
  | none =>
    have hd : zHd i = Cond.code i.1 i.2.1 i.2.2.1 i.2.2.2.1 := by unfold zHd; rw [hh]
    refine zx_ofW (cc := i.2.1) (maxL := i.2.2.1) (ret := i.2.2.2.1) hy (by rw [hd]) fun p e s m args below meth c s₁ B hml hxt hv => ?_
    have hts := atoms_spec (ws := zHd i :: zT) B.pre
    exact go p e s m args below meth c ⟨B.exec, B.bytes, B.returns, hml, findClass_of_methodNamed B.named, fun w hw => hts w (List.mem_cons_of_mem _ hw), B.notSynchronized, fun hn => (name_of_methodNamed B.named B.method).1.trans hn, (by rw [hh]; exact hxt), Nat.le_refl _, Nat.le_refl _, htr, hv.2.2⟩ hv.1 hv.2.1
  | some t =>
    have hd : zHd i = Cond.codeWith i.1 i.2.1 i.2.2.1 i.2.2.2.1 t := by unfold zHd; rw [hh]
    refine MetFree.of_bodySF (code := i.2.1) (maxLocals := i.2.2.1) (ret := i.2.2.2.1) hy ?_ ?_
    · intro args s m h hn
      have hcw : (Cond.codeWith i.1 i.2.1 i.2.2.1 i.2.2.2.1 t).before args s = true := by
        rw [← hd]
        exact atoms_spec (ws := zHd i :: zT) h _ List.mem_cons_self
      obtain ⟨m9, meth, c, hn9, h1, h2, h3, h4, -, h5, h6, -⟩ := Cond.codeWith_spec hcw
      cases hn.symm.trans hn9
      exact ⟨meth, c, h1, h2, h3, h4, h5, h6⟩
    · intro p e s m args below meth c s₁ B hml hv _
      have hh0 : s₁.heap = s.heap := by rw [B.state]; rfl
      have hts := atoms_spec (ws := zHd i :: zT) B.pre
      have hcw : (Cond.codeWith i.1 i.2.1 i.2.2.1 i.2.2.2.1 t).before args s = true := by
        rw [← hd]
        exact hts _ List.mem_cons_self
      have htab : c.exceptionTable.toList = tableOf t := vx_table (x := i.1) B hcw
      obtain ⟨t9, a1, o, b1, b2, b3⟩ := go p e s m args below meth c ⟨B.exec, B.bytes, B.returns, hml, findClass_of_methodNamed B.named, fun w hw => hts w (List.mem_cons_of_mem _ hw), B.notSynchronized, fun hn => (name_of_methodNamed B.named B.method).1.trans hn, (by rw [hh]; exact Or.inr htab), Nat.le_refl _, Nat.le_refl _, htr, hv.2.2⟩ hv.1 hv.2.1 s₁ hh0 (Stand.of_body B)
      exact ⟨t9, o, a1, b1, b2, b3⟩
theorem zPc_blind {as : List Value} {w : zW} : FrameBlind (zPc D cA zb G as w) := fun a U g mk q => ⟨q.1, (q.2.1.moved (U := U.calling g mk a) (Vm.Alike.refl U.vm) : _), q.2.2.blind rfl rfl⟩
/-- a call site: what it takes to run the callee there -/
def zLnk (l : Launch) (D : va_G) (cA : Nat → ClassId) (zb : Nat) (G : Nat × Nat) (pre : List Value → zW → zR → zR) (i i' : zI) (pc n : Nat) : Prop :=
  ∀ (p : Program) (e : Env) (R : Room) (s : State) (m : MethodId) (args : Array Value) (below : List Frame) (meth : Method) (c : Code), zCx l D cA zb G i p R s m args meth c →
    ∀ (H : Heap) (locs : List Loc) (cells slots : Nat) (lsr : Array Slot) (as rr : List Value) (w : zW) (o : zR) (ro : zO × zW), zSim D cA zb s w H → va_S (zA zb) s.heap H locs → lsr.size = i.2.2.1 → as.length = n → zcs rr ≤ 8 → pre as w o = some ro → cells + (ro.2.1 - w.1) ≤ R.cells → slots + (ro.2.2.1 - w.2.1) ≤ R.slots →
      vx_Met l i'.1 (zHd i' :: zT) (zRm i' (ro.2.1 - w.1) (ro.2.2.1 - w.2.1)) (zPc D cA zb G as w) (zQc D cA zb ro) (zXC D cA zb ro) (ro.2.1 - w.1) (ro.2.2.1 - w.2.1) (zA zb) →
      vx_Run p l e R s m args below meth c H locs cells slots (ro.2.1 - w.1) (ro.2.2.1 - w.2.1) (F0 m pc lsr (as.reverse ++ rr)) rr (zQc D cA zb ro as.toArray) (zXC D cA zb ro) (zA zb)
theorem zPc_of {s : State} {H : Heap} {locs : List Loc} {as : List Value} {w : zW} (hs : zSim D cA zb s w H) (hS : va_S (zA zb) s.heap H locs) (hct : zCt D cA zb G s) : ∀ U : State, U.heap = H → s.WarmedH U.vm → zPc D cA zb G as w as.toArray U := fun U hU hW => ⟨rfl, by rw [hU]; exact hs.moved hW.alike, hct.next hS hU hW⟩
/-- what is asked of a callee's name, by its own text; np: how many parameters -/
def zNm (i' : zI) (np : Nat) : Prop := i'.1.cls ≠ "java/lang/invoke/MethodHandle" ∧ i'.1.cls ≠ "java/lang/invoke/VarHandle" ∧ (parseMethodDescriptor i'.1.desc).map (fun d => d.parameters.length) = some np
theorem zgood {i' : zI} (hco : zHd i' ∈ zT) : GoodIn zT (zHd i' :: zT) := fun w hw => (List.mem_cons.mp hw).elim (fun h => by rw [h]; exact zT_good _ hco) (zT_good w)
theorem lnk_S {idx n : Nat} (d : decode i.2.1 pc = .ok (.invokestatic idx, 3)) (hw : Cond.methodLink i.1.cls idx i'.1 ∈ zT) (hst : Cond.static i'.1 ∈ zT) (hini : Cond.initialized i'.1.cls ∈ zT) (hco : zHd i' ∈ zT) (hhh : i'.2.2.2.2.2 = none) (hd : zNm i' n) (hrk : i'.2.2.2.2.1 + 1 ≤ i.2.2.2.2.1) (hml : i'.2.2.1 ≤ 40) : zLnk l D cA zb G zpS i i' pc n := by
  intro p e R s m args below meth c cx H locs cells slots lsr as rr w o ro hs hS hls hn hz _ hc hsl hM
  obtain ⟨hex, hb, hr, hml', hown, hts, hlk, hnm2, hxt, hRf, hRl, htr, hct⟩ := cx
  have hd' : zHd i' = Cond.code i'.1 i'.2.1 i'.2.2.1 i'.2.2.2.1 := by unfold zHd; rw [hhh]
  exact vx_runS ⟨hex, hb, hml', hown, hts⟩ hM ⟨callB_of n hts (zgood hco) (by rw [hd']) rfl rfl (hts _ hini) (hts _ hw) hd ⟨by show i'.2.2.2.2.1 + 1 ≤ _; omega, by show 8 + (i'.2.2.1 + 11) + 60 * i'.2.2.2.2.1 ≤ _; omega⟩, hts _ hst⟩ ⟨zPc_blind, zPc_of hs hS hct⟩ rfl hn hls rfl (by show 2 * 0 + _ ≤ 8; rw [zcs_sum]; omega) d ⟨hc, hsl⟩
theorem lnk_SX {idx n : Nat} {hh : List (Nat × Nat × Nat × Nat)} (d : decode i.2.1 pc = .ok (.invokestatic idx, 3)) (hw : Cond.methodLink i.1.cls idx i'.1 ∈ zT) (hst : Cond.static i'.1 ∈ zT) (hini : Cond.initialized i'.1.cls ∈ zT) (hco : zHd i' ∈ zT) (hhh : i'.2.2.2.2.2 = some hh) (hd : zNm i' n) (hrk : i'.2.2.2.2.1 + 1 ≤ i.2.2.2.2.1) (hml : i'.2.2.1 ≤ 40) : zLnk l D cA zb G zpS i i' pc n := by
  intro p e R s m args below meth c cx H locs cells slots lsr as rr w o ro hs hS hls hn hz _ hc hsl hM
  obtain ⟨hex, hb, hr, hml', hown, hts, hlk, hnm2, hxt, hRf, hRl, htr, hct⟩ := cx
  have hd' : zHd i' = Cond.codeWith i'.1 i'.2.1 i'.2.2.1 i'.2.2.2.1 hh := by unfold zHd; rw [hhh]
  have hG : GoodIn zT (va_wsS i.1.cls idx i'.1 (zHd i' :: zT)) := by
    intro x hx
    simp only [va_wsS, List.mem_append, List.mem_cons, List.not_mem_nil, or_false] at hx
    rcases hx with (h | h | h) | h | h
    · rw [h]; exact zT_good _ hw
    · rw [h]; exact zT_good _ hst
    · rw [h]; exact zT_good _ hini
    · rw [h]; exact zT_good _ hco
    · exact zT_good _ h
  exact vx_runSX (hh := hh) ⟨hex, hb, hml', hown, hts⟩ hM (vx_cwSW (ws := zHd i' :: zT) n hts hG (by rw [hd']) rfl rfl hd ⟨by show i'.2.2.2.2.1 + 1 ≤ _; omega, by show 8 + (i'.2.2.1 + 11) + 60 * i'.2.2.2.2.1 ≤ _; omega⟩) ⟨zPc_blind, zPc_of hs hS hct⟩ rfl hn hls rfl (by show 2 * 0 + _ ≤ 8; rw [zcs_sum]; omega) d ⟨hc, hsl⟩
theorem lnk_SN {idx n : Nat} {host : String} (d : decode i.2.1 pc = .ok (.invokestatic idx, 3)) (hw : Cond.methodLinkNest i.1.cls idx i'.1 host ∈ zN) (hst : Cond.static i'.1 ∈ zT) (hini : Cond.initialized i'.1.cls ∈ zT) (hco : zHd i' ∈ zT) (hhh : i'.2.2.2.2.2 = none) (hd : zNm i' n) (hrk : i'.2.2.2.2.1 + 1 ≤ i.2.2.2.2.1) (hml : i'.2.2.1 ≤ 40) : zLnk l D cA zb G zpS i i' pc n := by
  intro p e R s m args below meth c cx H locs cells slots lsr as rr w o ro hs hS hls hn hz _ hc hsl hM
  obtain ⟨hex, hb, hr, hml', hown, hts, hlk, hnm2, hxt, hRf, hRl, htr, hct⟩ := cx
  have hNw := hct.2.2.2.2.2.2
  have hd' : zHd i' = Cond.code i'.1 i'.2.1 i'.2.2.1 i'.2.2.2.1 := by unfold zHd; rw [hhh]
  exact vx_runSN ⟨hex, hb, hml', hown, hts⟩ hM ⟨va_cnB (ws := zHd i' :: zT) n hts (zgood hco) (by rw [hd']) rfl rfl (hNw _ hw) (hts _ hini) hd ⟨by show i'.2.2.2.2.1 + 1 ≤ _; omega, by show 8 + (i'.2.2.1 + 11) + 60 * i'.2.2.2.2.1 ≤ _; omega⟩, hts _ hst, trivial⟩ ⟨zPc_blind, zPc_of hs hS hct⟩ rfl hn hls rfl (by show 2 * 0 + _ ≤ 8; rw [zcs_sum]; omega) d ⟨hc, hsl⟩
theorem zpI_of {as : List Value} {w : zW} {o : zR} {ro : zO × zW} (h : zpI as w o = some ro) : (∃ b as', as = .ref b :: as') ∧ o = some ro := by
  unfold zpI at h
  split at h
  next b as' => exact ⟨⟨b, as', rfl⟩, h⟩
  next => cases h
theorem zpV_of {ci : Nat} {as : List Value} {w : zW} {o : zR} {ro : zO × zW} (h : zpV ci as w o = some ro) : (∃ b as' fs, as = .ref b :: as' ∧ zob ci w b = some fs) ∧ o = some ro := by
  unfold zpV at h
  split at h
  next b as' =>
    obtain ⟨fs, ho, h⟩ := zck_of h
    exact ⟨⟨b, as', fs, rfl, ho⟩, h⟩
  next => cases h
theorem zrev {b : Nat} {as' rr : List Value} : (Value.ref b :: as').reverse ++ rr = as'.reverse ++ .ref b :: rr := by simp
theorem lnk_I {idx n : Nat} (d : decode i.2.1 pc = .ok (.invokespecial idx, 3)) (hw : Cond.methodLink i.1.cls idx i'.1 ∈ zT) (hin : Cond.instanceMethod i'.1 ∈ zT) (hini : Cond.initialized i'.1.cls ∈ zT) (hco : zHd i' ∈ zT) (hhh : i'.2.2.2.2.2 = none) (hnm : i'.1.name = "<init>") (hret : i'.2.2.2.1 = none) (hd : zNm i' n) (hrk : i'.2.2.2.2.1 + 1 ≤ i.2.2.2.2.1) (hml : i'.2.2.1 ≤ 40) : zLnk l D cA zb G zpI i i' pc (n + 1) := by
  intro p e R s m args below meth c cx H locs cells slots lsr as rr w o ro hs hS hls hn hz hp hc hsl hM
  obtain ⟨hex, hb, hr, hml', hown, hts, hlk, hnm2, hxt, hRf, hRl, htr, hct⟩ := cx
  obtain ⟨⟨b, as', rfl⟩, -⟩ := zpI_of hp
  have hd' : zHd i' = Cond.code i'.1 i'.2.1 i'.2.2.1 none := by unfold zHd; rw [hhh, hret]
  rw [zrev]
  exact vx_runI (bytes := i'.2.1) (maxL := i'.2.2.1) ⟨hex, hb, hml', hown, hts⟩ hM ⟨callB_of n hts (zgood hco) (by rw [hd']) rfl rfl (hts _ hini) (hts _ hw) hd ⟨by show i'.2.2.2.2.1 + 1 ≤ _; omega, by show 8 + (i'.2.2.1 + 11) + 60 * i'.2.2.2.2.1 ≤ _; omega⟩, hnm, hts _ hin⟩ ⟨zPc_blind, zPc_of hs hS hct⟩ rfl (by simpa using hn) hls rfl (by show 2 * 0 + _ ≤ 8; rw [zcs_sum]; omega) d ⟨hc, hsl⟩
theorem lnk_IN {idx n : Nat} {host : String} (d : decode i.2.1 pc = .ok (.invokespecial idx, 3)) (hw : Cond.methodLinkNest i.1.cls idx i'.1 host ∈ zN) (hin : Cond.instanceMethod i'.1 ∈ zT) (hini : Cond.initialized i'.1.cls ∈ zT) (hco : zHd i' ∈ zT) (hhh : i'.2.2.2.2.2 = none) (hnm : i'.1.name = "<init>") (hret : i'.2.2.2.1 = none) (hd : zNm i' n) (hrk : i'.2.2.2.2.1 + 1 ≤ i.2.2.2.2.1) (hml : i'.2.2.1 ≤ 40) : zLnk l D cA zb G zpI i i' pc (n + 1) := by
  intro p e R s m args below meth c cx H locs cells slots lsr as rr w o ro hs hS hls hn hz hp hc hsl hM
  obtain ⟨hex, hb, hr, hml', hown, hts, hlk, hnm2, hxt, hRf, hRl, htr, hct⟩ := cx
  have hNw := hct.2.2.2.2.2.2
  obtain ⟨⟨b, as', rfl⟩, -⟩ := zpI_of hp
  have hd' : zHd i' = Cond.code i'.1 i'.2.1 i'.2.2.1 none := by unfold zHd; rw [hhh, hret]
  rw [zrev]
  exact vx_runIN (bytes := i'.2.1) (maxL := i'.2.2.1) ⟨hex, hb, hml', hown, hts⟩ hM ⟨va_cnB (ws := zHd i' :: zT) n hts (zgood hco) (by rw [hd']) rfl rfl (hNw _ hw) (hts _ hini) hd ⟨by show i'.2.2.2.2.1 + 1 ≤ _; omega, by show 8 + (i'.2.2.1 + 11) + 60 * i'.2.2.2.2.1 ≤ _; omega⟩, hnm, hts _ hin⟩ ⟨zPc_blind, zPc_of hs hS hct⟩ rfl (by simpa using hn) hls rfl (by show 2 * 0 + _ ≤ 8; rw [zcs_sum]; omega) d ⟨hc, hsl⟩
theorem lnk_V {idx n ci N : Nat} {C : String} {T : u_T} (d : decode i.2.1 pc = .ok (.invokevirtual idx, 3)) (hw : Cond.methodLink i.1.cls idx i'.1 ∈ zT) (hin : Cond.instanceMethod i'.1 ∈ zT) (hse : Cond.selects C i'.1 i'.1 ∈ lw_tbl) (hseg : Cond.selects C i'.1 i'.1 ∈ zT) (hini : Cond.initialized i'.1.cls ∈ zT) (hco : zHd i' ∈ zT) (hhh : i'.2.2.2.2.2 = none) (hc : vwCl[ci]? = some (C, T, N)) (hd : zNm i' n) (hrk : i'.2.2.2.2.1 + 1 ≤ i.2.2.2.2.1) (hml : i'.2.2.1 ≤ 40) : zLnk l D cA zb G (zpV ci) i i' pc (n + 1) := by
  intro p e R s m args below meth c cx H locs cells slots lsr as rr w o ro hs hS hls hn hz hp hc' hsl hM
  obtain ⟨hex, hb, hr, hml', hown, hts, hlk, hnm2, hxt, hRf, hRl, htr, hct⟩ := cx
  obtain ⟨⟨b, as', fs, rfl, ho⟩, -⟩ := zpV_of hp
  have hd' : zHd i' = Cond.code i'.1 i'.2.1 i'.2.2.1 i'.2.2.2.1 := by unfold zHd; rw [hhh]
  rw [zrev]
  exact vx_runV ⟨hex, hb, hml', hown, hts⟩ hM ⟨callB_of n hts (zgood hco) (by rw [hd']) rfl rfl (hts _ hini) (hts _ hw) hd ⟨by show i'.2.2.2.2.1 + 1 ≤ _; omega, by show 8 + (i'.2.2.1 + 11) + 60 * i'.2.2.2.2.1 ≤ _; omega⟩, hts _ hin, hts _ hseg⟩ ⟨zPc_blind, zob_recv hct.2.1 hs ho hc, zPc_of hs hS hct⟩ rfl (by simpa using hn) hls rfl (by show 2 * 0 + _ ≤ 8; rw [zcs_sum]; omega) d ⟨hc', hsl⟩
end ZH3
section ZH4
variable {l : Launch} {D : va_G} {cA : Nat → ClassId} {zb : Nat} {G : Nat × Nat} {P : zPP} {i i' : zI} {pc nx : Nat}
/-- an exception of kind E stands over the frame at pc -/
def zQX (l : Launch) (D : va_G) (cA : Nat → ClassId) (zb : Nat) (G : Nat × Nat) (i : zI) (pc : Nat) (ls : List Value) (E : Nat) (w : zW) (r : zO × zW) : Prop :=
  w.1 ≤ r.2.1 ∧ w.2.1 ≤ r.2.2.1 ∧
  ∀ (p : Program) (e : Env) (R : Room) (s : State) (m : MethodId) (args : Array Value) (below : List Frame) (meth : Method) (c : Code), zCx l D cA zb G i p R s m args meth c →
    ∀ (H : Heap) (locs : List Loc) (cells slots C S : Nat) (Q : State → Prop) (lsr : Array Slot) (q : Addr) (ce : Cell) (rest : List Value), zSim D cA zb s w H → zL i.2.2.1 ls lsr → va_S (zA zb) s.heap H locs → cells + (r.2.1 - w.1) = C → slots + (r.2.2.1 - w.2.1) = S → C ≤ R.cells → S ≤ R.slots →
      zEnd l D cA zb i p e R s m args below meth c Q C S r → H[q]? = some ce → ce.vm = .none → s.vm.findClass (zEx E) = some ce.cls → vx_W p l e R s m args below meth c H locs cells slots Q (F0 m pc lsr rest) q
def zHOK (l : Launch) (D : va_G) (cA : Nat → ClassId) (zb : Nat) (G : Nat × Nat) (i : zI) (pc : Nat) (hx : zH) : Prop := ∀ K : zK, (∀ pc ls st w r, K pc ls st w = some r → zQ l D cA zb G i pc ls st w r) → ∀ ls E w r, hx K ls E w = some r → zQX l D cA zb G i pc ls E w r
theorem hok_0 (hhh : i.2.2.2.2.2 = none) : zHOK l D cA zb G i pc zx0 := by
  intro K hK ls E w r h
  cases h
  refine ⟨Nat.le_refl _, Nat.le_refl _, fun p e R s m args below meth c cx H locs cells slots C S Q lsr q ce rest hsim hl hS hC hS2 hc hs2 hend hq hvm hcl => ?_⟩
  have e1 : cells = C := by rw [← hC]; show cells = cells + (w.1 - w.1); omega
  have e2 : slots = S := by rw [← hS2]; show slots = slots + (w.2.1 - w.2.1); omega
  subst e1
  subst e2
  exact hend hhh H locs q ce pc lsr rest hsim hS hq hvm hcl
theorem hok_no : zHOK l D cA zb G i pc (zxc 0 []) := by
  intro K hK ls E w r h
  cases h
def zEnt (i : zI) (pc v : Nat) (x : Nat × Nat × Nat × Nat) (q : Nat × Nat) : Prop := q.1 < 3 ∧ (x.1 ≤ pc ∧ pc < x.2.1) ∧ x.2.2.2 ≠ 0 ∧ Cond.classLink i.1.cls x.2.2.2 (zEx q.1) ∈ zT ∧ Cond.castable (zEx q.1) (zEx q.1) ∈ zN ∧
  (decode i.2.1 x.2.2.1 = .ok (.astore v, 2) ∧ q.2 = x.2.2.1 + 2 ∨ ∃ k : Fin 4, (k : Nat) = v ∧ decode i.2.1 x.2.2.1 = .ok (.astore_n k, 1) ∧ q.2 = x.2.2.1 + 1)
theorem zcatch {pre suf : List (Nat × Nat × Nat × Nat)} {x : Nat × Nat × Nat × Nat} {q : Nat × Nat} {v : Nat} {ls : List Value} {w : zW} {r : zO × zW} (hhh : i.2.2.2.2.2 = some (pre ++ x :: suf)) (hv : v < i.2.2.1) (hx : zEnt i pc v x q) (hpre : ∀ z ∈ pre, ∃ qz, zEnt i pc v z qz ∧ q.1 ≠ qz.1) (h : zQ l D cA zb G i q.2 (zset ls v zU) [] w r) : zQX l D cA zb G i pc ls q.1 w r := by
  obtain ⟨h1, h2, h3⟩ := h
  refine ⟨h1, h2, fun p e R s m args below meth c cx H locs cells slots C S Q lsr q9 ce rest hsim hl hS hC hS2 hc hs2 hend hq hvm hcl => ?_⟩
  have cx0 := cx
  obtain ⟨hex, hb, hr, hml, hown, hts, hlk, hnm2, hxt, hRf, hRl, htr, hzb, hKK, hZ, hU, hN, hM, hNw⟩ := cx
  rw [hhh] at hxt
  have htab : c.exceptionTable.toList = tableOf (pre ++ x :: suf) := hxt.resolve_left (by simp)
  have hsplit : c.exceptionTable.toList = tableOf pre ++ ⟨x.1, x.2.1, x.2.2.1, x.2.2.2⟩ :: tableOf suf := by rw [htab]; simp [tableOf]
  obtain ⟨g1, g2, g3, g4, g5, g6⟩ := hx
  refine vx_catch (name := zEx q.1) hown (tableOf pre) _ (tableOf suf) hsplit (fun z hz => ?_) (by simp [covers, g2.1, g2.2]) g3 (hts _ g4) (va_Nw.use rfl (hNw _ g5)) hq hvm hcl ?_
  · obtain ⟨z0, hz0, rfl⟩ := List.mem_map.mp hz
    obtain ⟨qz, ⟨k1, k2, k3, k4, k5, k6⟩, k7⟩ := hpre z0 hz0
    exact Or.inr ⟨k3, zEx qz.1, hts _ k4, hM.2 _ _ g1 k1 k7⟩
  · have fin : ∀ lsr1 : Array Slot, zL i.2.2.1 (zset ls v zU) lsr1 → W p l e R s m args below meth c H locs cells slots Q (F0 m q.2 lsr1 []) := fun lsr1 hl1 => h3 p e R s m args below meth c cx0 H locs cells slots C S Q lsr1 hsim hl1 hS hC hS2 hc hs2 hend
    rcases g6 with ⟨d, e2⟩ | ⟨k, hk, d, e2⟩
    · rw [e2] at fin
      exact lv_astore hex hb d hl.2.1 hv rfl (fun lsr1 h1 => fin lsr1 (hl.drop h1))
    · rw [e2] at fin
      exact lv_astore_n hex hb d hk hl.2.1 hv rfl (fun lsr1 h1 => fin lsr1 (hl.drop h1))
theorem hok_1 {x0 : Nat × Nat × Nat × Nat} {q0 : Nat × Nat} {v : Nat} (hhh : i.2.2.2.2.2 = some [x0]) (hv : v < i.2.2.1) (h0 : zEnt i pc v x0 q0) : zHOK l D cA zb G i pc (zxc v [q0]) := by
  intro K hK ls E w r h
  obtain ⟨e0, n0⟩ := q0
  simp only [zxc] at h
  split at h
  next he => subst he; exact zcatch (pre := []) (suf := []) hhh hv h0 (fun z hz => nomatch hz) (hK _ _ _ _ _ h)
  next => cases h
theorem hok_2 {x0 x1 : Nat × Nat × Nat × Nat} {q0 q1 : Nat × Nat} {v : Nat} (hhh : i.2.2.2.2.2 = some [x0, x1]) (hv : v < i.2.2.1) (h0 : zEnt i pc v x0 q0) (h1 : zEnt i pc v x1 q1) : zHOK l D cA zb G i pc (zxc v [q0, q1]) := by
  intro K hK ls E w r h
  obtain ⟨e0, n0⟩ := q0
  obtain ⟨e1, n1⟩ := q1
  simp only [zxc] at h
  split at h
  next he => subst he; exact zcatch (pre := []) (suf := [x1]) hhh hv h0 (fun z hz => nomatch hz) (hK _ _ _ _ _ h)
  next n0' =>
    split at h
    next he =>
      subst he
      exact zcatch (q := (E, n1)) (pre := [x0]) (suf := []) hhh hv h1 (fun z hz => by rw [List.mem_singleton.mp hz]; exact ⟨_, h0, n0'⟩) (hK _ _ _ _ _ h)
    next => cases h
theorem hok_3 {x0 x1 x2 : Nat × Nat × Nat × Nat} {q0 q1 q2 : Nat × Nat} {v : Nat} (hhh : i.2.2.2.2.2 = some [x0, x1, x2]) (hv : v < i.2.2.1) (h0 : zEnt i pc v x0 q0) (h1 : zEnt i pc v x1 q1) (h2 : zEnt i pc v x2 q2) : zHOK l D cA zb G i pc (zxc v [q0, q1, q2]) := by
  intro K hK ls E w r h
  obtain ⟨e0, n0⟩ := q0
  obtain ⟨e1, n1⟩ := q1
  obtain ⟨e2, n2⟩ := q2
  simp only [zxc] at h
  split at h
  next he => subst he; exact zcatch (pre := []) (suf := [x1, x2]) hhh hv h0 (fun z hz => nomatch hz) (hK _ _ _ _ _ h)
  next n0' =>
    split at h
    next he =>
      subst he
      exact zcatch (q := (E, n1)) (pre := [x0]) (suf := [x2]) hhh hv h1 (fun z hz => by rw [List.mem_singleton.mp hz]; exact ⟨_, h0, n0'⟩) (hK _ _ _ _ _ h)
    next n1' =>
      split at h
      next he =>
        subst he
        refine zcatch (q := (E, n2)) (pre := [x0, x1]) (suf := []) hhh hv h2 (fun z hz => ?_) (hK _ _ _ _ _ h)
        rcases List.mem_cons.mp hz with hz | hz
        · rw [hz]; exact ⟨_, h0, n0'⟩
        · rw [List.mem_singleton.mp hz]; exact ⟨_, h1, n1'⟩
      next => cases h
/-- what is popped for a call -/
theorem zsp_of : ∀ (n : Nat) (acc st as rr : List Value), zsp n acc st = some (as, rr) → ∃ bs : List Value, as = bs ++ acc ∧ st = bs.reverse ++ rr ∧ bs.length = n ∧ zcs rr ≤ 8 ∧ ∀ v ∈ bs, v.category = 1 ∧ v ≠ zU
  | 0, acc, st, as, rr, h => by
    unfold zsp at h
    cases hz : Nat.ble (zcs st) 8 with
    | false => rw [hz] at h; cases h
    | true =>
      rw [hz] at h
      cases h
      exact ⟨[], rfl, rfl, rfl, Nat.le_of_ble_eq_true hz, fun v hv => nomatch hv⟩
  | n + 1, acc, st, as, rr, h => by
    have tl : ∀ (v : Value) (st' : List Value), st = v :: st' → v.category = 1 ∧ v ≠ zU → zsp n (v :: acc) st' = some (as, rr) → ∃ bs : List Value, as = bs ++ acc ∧ st = bs.reverse ++ rr ∧ bs.length = n + 1 ∧ zcs rr ≤ 8 ∧ ∀ v ∈ bs, v.category = 1 ∧ v ≠ zU := by
      intro v st' hst hv h
      obtain ⟨bs, g1, g2, g3, g4, g5⟩ := zsp_of n (v :: acc) st' as rr h
      refine ⟨bs ++ [v], by rw [g1]; simp, by rw [hst, g2]; simp, by simp [g3], g4, fun x hx => ?_⟩
      rcases List.mem_append.mp hx with hx | hx
      · exact g5 x hx
      · rw [List.mem_singleton.mp hx]; exact hv
    unfold zsp at h
    split at h
    next e1 => cases e1
    next x st' e1 => cases e1; exact tl _ _ rfl ⟨rfl, fun z => by cases z⟩ h
    next x st' e1 => cases e1; exact tl _ _ rfl ⟨rfl, fun z => by cases z⟩ h
    next st' e1 => cases e1; exact tl _ _ rfl ⟨rfl, fun z => by cases z⟩ h
    next => cases h
/-- a call: the callee's run, then what stands behind it -/
theorem zQ_call {pre : List Value → zW → zR → zR} {n : Nat} {ls as rr : List Value} {w : zW} {o : zR} {ro r : zO × zW} (hL : zLnk l D cA zb G pre i i' pc n) (hy : plainFor i'.1 = true) (hp : pre as w o = some ro) (hn : as.length = n) (hz : zcs rr ≤ 8) (has : ∀ v ∈ as, v.category = 1 ∧ v ≠ zU) (hlen : n ≤ i'.2.2.1)
    (ho : zQ l D cA zb G i' 0 (as ++ List.replicate (i'.2.2.1 - n) zU) [] w ro) (kx : ∀ E, ro.1 = .inr E → zQX l D cA zb G i pc ls E ro.2 r) (kk : ∀ v, ro.1 = .inl v → zQ l D cA zb G i (pc + 3) ls (v.toList ++ rr) ro.2 r) : zQ l D cA zb G i pc ls (as.reverse ++ rr) w r := by
  have hmono : ro.2.1 ≤ r.2.1 ∧ ro.2.2.1 ≤ r.2.2.1 := by
    cases he : ro.1 with
    | inl v => exact ⟨(kk v he).1, (kk v he).2.1⟩
    | inr E => exact ⟨(kx E he).1, (kx E he).2.1⟩
  have g1 := ho.1
  have g2 := ho.2.1
  refine ⟨Nat.le_trans g1 hmono.1, Nat.le_trans g2 hmono.2, fun p e R s m args below meth c cx H locs cells slots C S Q lsr hsim hl hS hC hS2 hc hs2 hend => ?_⟩
  have htr : l.stackTraces = false := cx.2.2.2.2.2.2.2.2.2.2.2.1
  subst hn
  have hM := zMet htr hy has hlen ho
  have hrun := hL p e R s m args below meth c cx H locs cells slots lsr as rr w o ro hsim hS hl.2.1.1 rfl hz hp (by omega) (by omega) hM
  intro T hT X
  rcases hrun T hT X with ⟨v, st₀, t, T', L, h0, X', hL9, e1, e2, ⟨v9, g3, g4, g5, g6⟩, st⟩ | ⟨q, st₀, t, T', L, E, ce, h0, X', hL9, e1, e2, ⟨E9, g3, g4, g5, g6⟩, hce, hcv, hcl, st⟩
  · cases g4
    obtain ⟨k1, k2, k3⟩ := vx_keep h0 e1 hS (fun q _ h => h) (fun q h => h) hL9 g6
    have hal : s.vm.Alike t.vm := by rw [← e2]; exact X'.warmed.alike
    obtain ⟨t2, a1, b1⟩ := (kk v g3).2.2 p e R s m args below meth c cx T'.heap (locs ++ L) _ _ C S Q lsr (by rw [e1]; exact g5.moved hal.symm) hl k3 (by omega) (by omega) hc hs2 hend T' rfl X'
    exact ⟨t2, st t2 a1, b1⟩
  · obtain ⟨k1, k2, k3⟩ := vx_keep h0 e1 hS (fun q _ h => h) (fun q h => h) hL9 g6
    have hal : s.vm.Alike t.vm := by rw [← e2]; exact X'.warmed.alike
    rw [g4] at hcl
    obtain ⟨t2, a1, b1⟩ := (kx E9 g3).2.2 p e R s m args below meth c cx T'.heap (locs ++ L) _ _ C S Q lsr q ce rr (by rw [e1]; exact g5.moved hal.symm) hl k3 (by omega) (by omega) hc hs2 hend (by rw [e1]; exact hce) hcv hcl T' rfl X'
    exact ⟨t2, st.trans a1, b1⟩
/-- a kind of call, ahead of the callee: what it lets through -/
def zPre2 (pre : List Value → zW → zR → zR) : Prop := ∀ as w o ro, pre as w o = some ro → o = some ro
theorem zPre2_S : zPre2 zpS := fun _ _ _ _ h => h
theorem zPre2_I : zPre2 zpI := fun _ _ _ _ h => (zpI_of h).2
theorem zPre2_V (ci : Nat) : zPre2 (zpV ci) := fun _ _ _ _ h => (zpV_of h).2
theorem ok_cI {pre : List Value → zW → zR → zR} {y n : Nat} {pad : List Value} {hx : zH} (hL : zLnk l D cA zb G pre i i' pc n) (hy : plainFor i'.1 = true) (hpre : zPre2 pre) (hP : ∀ ls st w r, P y 0 ls st w r → zQ l D cA zb G i' 0 ls st w r) (hlen : n ≤ i'.2.2.1) (hpad : pad = List.replicate (i'.2.2.1 - n) zU) (hh : zHOK l D cA zb G i pc hx) (hn : nx = pc + 3) : zOK l D cA zb G P i (s_cI pre y n pad hx nx) pc := by
  intro F K hF hK ls st w r h
  simp only [s_cI] at h
  subst hn
  subst hpad
  cases hz : zsp n [] st with
  | none => rw [hz] at h; cases h
  | some q =>
    obtain ⟨as, rr⟩ := q
    rw [hz] at h
    obtain ⟨bs, g1, g2, g3, g4, g5⟩ := zsp_of n [] st as rr hz
    rw [List.append_nil] at g1
    subst g1
    subst g2
    dsimp only at h
    generalize ho : pre as w (F y 0 (as ++ List.replicate (i'.2.2.1 - n) zU) [] w) = o at h
    unfold zthI at h
    split at h
    next x W1 =>
      refine zQ_call hL hy ho g3 g4 g5 hlen (hP _ _ _ _ (hF _ _ _ _ _ _ (hpre _ _ _ _ ho))) (fun E he => by cases he) (fun v hv => ?_)
      cases hv
      exact hK _ _ _ _ _ h
    next E W1 =>
      refine zQ_call hL hy ho g3 g4 g5 hlen (hP _ _ _ _ (hF _ _ _ _ _ _ (hpre _ _ _ _ ho))) (fun E he => ?_) (fun v hv => by cases hv)
      cases he
      exact hh K hK _ _ _ _ h
    next => cases h
theorem ok_cR {pre : List Value → zW → zR → zR} {y n : Nat} {pad : List Value} {hx : zH} (hL : zLnk l D cA zb G pre i i' pc n) (hy : plainFor i'.1 = true) (hpre : zPre2 pre) (hP : ∀ ls st w r, P y 0 ls st w r → zQ l D cA zb G i' 0 ls st w r) (hlen : n ≤ i'.2.2.1) (hpad : pad = List.replicate (i'.2.2.1 - n) zU) (hh : zHOK l D cA zb G i pc hx) (hn : nx = pc + 3) : zOK l D cA zb G P i (s_cR pre y n pad hx nx) pc := by
  intro F K hF hK ls st w r h
  simp only [s_cR] at h
  subst hn
  subst hpad
  cases hz : zsp n [] st with
  | none => rw [hz] at h; cases h
  | some q =>
    obtain ⟨as, rr⟩ := q
    rw [hz] at h
    obtain ⟨bs, g1, g2, g3, g4, g5⟩ := zsp_of n [] st as rr hz
    rw [List.append_nil] at g1
    subst g1
    subst g2
    dsimp only at h
    generalize ho : pre as w (F y 0 (as ++ List.replicate (i'.2.2.1 - n) zU) [] w) = o at h
    unfold zthR at h
    split at h
    next x W1 =>
      refine zQ_call hL hy ho g3 g4 g5 hlen (hP _ _ _ _ (hF _ _ _ _ _ _ (hpre _ _ _ _ ho))) (fun E he => by cases he) (fun v hv => ?_)
      cases hv
      exact hK _ _ _ _ _ h
    next E W1 =>
      refine zQ_call hL hy ho g3 g4 g5 hlen (hP _ _ _ _ (hF _ _ _ _ _ _ (hpre _ _ _ _ ho))) (fun E he => ?_) (fun v hv => by cases hv)
      cases he
      exact hh K hK _ _ _ _ h
    next => cases h
theorem ok_cN {pre : List Value → zW → zR → zR} {y n : Nat} {pad : List Value} {hx : zH} (hL : zLnk l D cA zb G pre i i' pc n) (hy : plainFor i'.1 = true) (hpre : zPre2 pre) (hP : ∀ ls st w r, P y 0 ls st w r → zQ l D cA zb G i' 0 ls st w r) (hlen : n ≤ i'.2.2.1) (hpad : pad = List.replicate (i'.2.2.1 - n) zU) (hh : zHOK l D cA zb G i pc hx) (hn : nx = pc + 3) : zOK l D cA zb G P i (s_cN pre y n pad hx nx) pc := by
  intro F K hF hK ls st w r h
  simp only [s_cN] at h
  subst hn
  subst hpad
  cases hz : zsp n [] st with
  | none => rw [hz] at h; cases h
  | some q =>
    obtain ⟨as, rr⟩ := q
    rw [hz] at h
    obtain ⟨bs, g1, g2, g3, g4, g5⟩ := zsp_of n [] st as rr hz
    rw [List.append_nil] at g1
    subst g1
    subst g2
    dsimp only at h
    generalize ho : pre as w (F y 0 (as ++ List.replicate (i'.2.2.1 - n) zU) [] w) = o at h
    unfold zthN at h
    split at h
    next x W1 =>
      refine zQ_call hL hy ho g3 g4 g5 hlen (hP _ _ _ _ (hF _ _ _ _ _ _ (hpre _ _ _ _ ho))) (fun E he => by cases he) (fun v hv => ?_)
      cases hv
      exact hK _ _ _ _ _ h
    next W1 =>
      refine zQ_call hL hy ho g3 g4 g5 hlen (hP _ _ _ _ (hF _ _ _ _ _ _ (hpre _ _ _ _ ho))) (fun E he => by cases he) (fun v hv => ?_)
      cases hv
      exact hK _ _ _ _ _ h
    next E W1 =>
      refine zQ_call hL hy ho g3 g4 g5 hlen (hP _ _ _ _ (hF _ _ _ _ _ _ (hpre _ _ _ _ ho))) (fun E he => ?_) (fun v hv => by cases hv)
      cases he
      exact hh K hK _ _ _ _ h
    next => cases h
theorem ok_cV {pre : List Value → zW → zR → zR} {y n : Nat} {pad : List Value} {hx : zH} (hL : zLnk l D cA zb G pre i i' pc n) (hy : plainFor i'.1 = true) (hpre : zPre2 pre) (hP : ∀ ls st w r, P y 0 ls st w r → zQ l D cA zb G i' 0 ls st w r) (hlen : n ≤ i'.2.2.1) (hpad : pad = List.replicate (i'.2.2.1 - n) zU) (hh : zHOK l D cA zb G i pc hx) (hn : nx = pc + 3) : zOK l D cA zb G P i (s_cV pre y n pad hx nx) pc := by
  intro F K hF hK ls st w r h
  simp only [s_cV] at h
  subst hn
  subst hpad
  cases hz : zsp n [] st with
  | none => rw [hz] at h; cases h
  | some q =>
    obtain ⟨as, rr⟩ := q
    rw [hz] at h
    obtain ⟨bs, g1, g2, g3, g4, g5⟩ := zsp_of n [] st as rr hz
    rw [List.append_nil] at g1
    subst g1
    subst g2
    dsimp only at h
    generalize ho : pre as w (F y 0 (as ++ List.replicate (i'.2.2.1 - n) zU) [] w) = o at h
    unfold zthV at h
    split at h
    next W1 =>
      refine zQ_call hL hy ho g3 g4 g5 hlen (hP _ _ _ _ (hF _ _ _ _ _ _ (hpre _ _ _ _ ho))) (fun E he => by cases he) (fun v hv => ?_)
      cases hv
      exact hK _ _ _ _ _ h
    next E W1 =>
      refine zQ_call hL hy ho g3 g4 g5 hlen (hP _ _ _ _ (hF _ _ _ _ _ _ (hpre _ _ _ _ ho))) (fun E he => ?_) (fun v hv => by cases hv)
      cases he
      exact hh K hK _ _ _ _ h
    next => cases h
end ZH4
