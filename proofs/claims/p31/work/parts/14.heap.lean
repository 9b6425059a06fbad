/-! SOUNDNESS, 3: fields, new things, arrays -/
theorem znth_eq : ∀ (l : List Value) (i : Nat), znth l i = l[i]?
  | [], _ => by simp [znth]
  | _ :: _, 0 => by simp [znth]
  | _ :: l, i + 1 => by simp [znth, znth_eq l i]
theorem zset_eq : ∀ (l : List Value) (i : Nat) (v : Value), zset l i v = l.set i v
  | [], _, _ => rfl
  | _ :: _, 0, _ => rfl
  | _ :: l, i + 1, v => by simp [zset, zset_eq l i v]
theorem zgI_of {ci k : Nat} {w : zW} {a : Nat} {x : Int32} (h : zgI ci k w a = some x) : ∃ fs, zob ci w a = some fs ∧ fs[k]? = some (.int x) := by
  unfold zgI at h
  split at h
  next fs ho =>
    split at h
    next y hy => cases h; exact ⟨fs, ho, by rw [← znth_eq]; exact hy⟩
    next => cases h
  next => cases h
theorem zgR_of {ci k : Nat} {w : zW} {a x : Nat} (h : zgR ci k w a = some x) : ∃ fs, zob ci w a = some fs ∧ fs[k]? = some (.ref x) := by
  unfold zgR at h
  split at h
  next fs ho =>
    split at h
    next y hy => cases h; exact ⟨fs, ho, by rw [← znth_eq]; exact hy⟩
    next => cases h
  next => cases h
theorem zpt_of {ci k : Nat} {w w' : zW} {a : Nat} {v : Value} (h : zpt ci k w a v = some w') : ∃ fs, zob ci w a = some fs ∧ k < fs.length ∧ w' = (w.1, w.2.1, zup w.2.2 a (zEo ci (fs.set k v))) := by
  unfold zpt at h
  split at h
  next fs ho =>
    split at h
    next hk => cases h; exact ⟨fs, ho, hk, by rw [zset_eq]⟩
    next => cases h
  next => cases h
section ZE
variable {l : Launch} {D : va_G} {cA : Nat → ClassId} {zb : Nat} {G : Nat × Nat} {P : zPP} {i : zI} {pc nx : Nat}
/-- the reference's class spells the field as it is declared, or the tables say that it is the same one -/
def zSame (C ref : String) (T : u_T) (k : Nat) : Prop := ref = (T k).1 ∨ Cond.sameField ref (T k).1 (T k).2.1 (T k).2.2.1 ∈ zT
theorem zSame.use {C ref : String} {T : u_T} {k : Nat} {s : State} {args : Array Value} (h : zSame C ref T k) (hts : ∀ w ∈ zT, w.before args s = true) : ∀ x, s.fieldFound? (T k).1 (T k).2.1 (T k).2.2.1 = some x → s.fieldFound? ref (T k).2.1 (T k).2.2.1 = some x := by
  rcases h with h | h
  · rw [h]; exact fun _ h => h
  · exact u_same (hts _ h)
theorem ok_gI {ci k idx N : Nat} {C ref : String} {T : u_T} (d : decode i.2.1 pc = .ok (.getfield idx, 3)) (hc : vwCl[ci]? = some (C, T, N)) (hk : k < N) (hin : ∀ w ∈ u_ws C T N, w ∈ zT) (hw : Cond.fieldLink i.1.cls idx ref (T k).2.1 (T k).2.2.1 ∈ zT) (hsm : zSame C ref T k) (hn : nx = pc + 3) : zOK l D cA zb G P i (s_gI ci k nx) pc := by
  intro F K _ hK ls st w r h
  simp only [s_gI] at h
  subst hn
  split at h
  next a rr =>
    obtain ⟨x, hx, h⟩ := Option.bind_eq_some_iff.mp h
    obtain ⟨fs, ho, hf⟩ := zgI_of hx
    refine (hK _ _ _ _ _ h).step fun p e R s m args below meth c cx H locs cells slots Q lsr hsim hl hS kk => ?_
    obtain ⟨hx, hb, hr, hml, hown, hts, hlk, hnm, hxt, hRf, hRl, htr, hzb, hKK, hZ, hU, hN, hM, hNw⟩ := cx
    exact va_get (D := D) (ci := ci) (v := .int x) hx hb hts hin hown hKK (hsim.obj ho).2 0 rfl hc k hk (hts _ hw) (hsm.use hts) hf d (kk lsr hl)
  next => cases h
theorem ok_gR {ci k idx N : Nat} {C ref : String} {T : u_T} (d : decode i.2.1 pc = .ok (.getfield idx, 3)) (hc : vwCl[ci]? = some (C, T, N)) (hk : k < N) (hin : ∀ w ∈ u_ws C T N, w ∈ zT) (hw : Cond.fieldLink i.1.cls idx ref (T k).2.1 (T k).2.2.1 ∈ zT) (hsm : zSame C ref T k) (hn : nx = pc + 3) : zOK l D cA zb G P i (s_gR ci k nx) pc := by
  intro F K _ hK ls st w r h
  simp only [s_gR] at h
  subst hn
  split at h
  next a rr =>
    obtain ⟨x, hx, h⟩ := Option.bind_eq_some_iff.mp h
    obtain ⟨fs, ho, hf⟩ := zgR_of hx
    refine (hK _ _ _ _ _ h).step fun p e R s m args below meth c cx H locs cells slots Q lsr hsim hl hS kk => ?_
    obtain ⟨hx, hb, hr, hml, hown, hts, hlk, hnm, hxt, hRf, hRl, htr, hzb, hKK, hZ, hU, hN, hM, hNw⟩ := cx
    exact va_get (D := D) (ci := ci) (v := .ref x) hx hb hts hin hown hKK (hsim.obj ho).2 0 rfl hc k hk (hts _ hw) (hsm.use hts) hf d (kk lsr hl)
  next => cases h
/-- a field is written: what the heap is behind it -/
theorem zx_put {p : Program} {e : Env} {R : Room} {s : State} {m : MethodId} {args : Array Value} {below : List Frame} {meth : Method} {c : Code} {H : Heap} {locs : List Loc} {cells slots : Nat} {Q : State → Prop} {cc : ByteArray} {lsr : Array Slot} {rest : List Value} {a : Nat}
    (hexec : p.tables.exec = Jvm.exec) (hb : c.code = cc) {own ref C : String} {T : u_T} {N ci index : Nat} {Ts : List Cond} (hts : ∀ w ∈ Ts, w.before args s = true) (hin : ∀ w ∈ u_ws C T N, w ∈ Ts) (ty0 : Nat → FieldType) (hty : ∀ k, k < N → parseFieldDescriptor (T k).2.2.1 = some (ty0 k)) (hnm : ∀ a, a < N → ∀ b, b < N → a ≠ b → (T a).2.1 ≠ (T b).2.1) (hown : s.vm.findClass own = some m.cls) {tys : List (ClassId × FieldType)} (hK : va_K D vwCl tys s) {fs : List Value} (hP : va_P D vwCl [(a, .inr (ci, fs))] H) (hc : vwCl[ci]? = some (C, T, N)) (k : Nat) (hk : k < N) (hlink : (Cond.fieldLink own index ref (T k).2.1 (T k).2.2.1).before args s = true) (hsame : ∀ x, s.fieldFound? (T k).1 (T k).2.1 (T k).2.2.1 = some x → s.fieldFound? ref (T k).2.1 (T k).2.2.1 = some x) (hfin : (T k).2.2.2 = false ∨ ((T k).2.2.2 = true ∧ meth.name = "<init>" ∧ (T k).1 = own)) {ty : FieldType} {v : Value} (hd : parseFieldDescriptor (T k).2.2.1 = some ty) (hn : narrow ty v = v) (hfit : fits ty v = true) (hl : k < fs.length)
    (hdg : decode cc pc = .ok (.putfield index, 3)) (kk : ∀ (H1 : Heap) (j : Nat), va_at D vwCl (a, .inr (ci, fs.set k v)) H1 → H1.size = H.size → (∀ q : Nat, q ≠ a → H1[q]? = H[q]?) → W p l e R s m args below meth c H1 (locs ++ [⟨a, j⟩]) cells slots Q (F0 m (pc + 3) lsr rest)) : W p l e R s m args below meth c H locs cells slots Q (F0 m pc lsr (v :: .ref a :: rest)) := by
  have hap := va_apart (own := own) hts hin ty0 hty hnm hK hc
  obtain ⟨r, h1, cell, q1, q2, q3, q4⟩ := hP 0 _ rfl
  have hr : r = (C, T, N) := Option.some.inj (h1.symm.trans hc)
  subst hr
  obtain ⟨hS, hfc, kC, hkC, hkind⟩ := hK.1 ci _ hc
  obtain ⟨cf, kf, fi, f, hi, hsl⟩ := hS k hk
  have hlay := hts _ (hin _ (u_in_lay hk))
  unfold u_lay at hlay
  have hst := (u_facts hfc hkC (u_lays hts hin hk) hi).1
  rcases hfin with hfin | ⟨hfin, hin2, hdecl⟩
  · rw [if_neg (by rw [hfin]; decide)] at hlay
    have h6 := u_store hfc hkC hkind hlay hi hd hn hfit
    refine W.putK hexec hb (f := f) ⟨hown, hlink, ⟨_, _, _, hsame _ hi⟩, hst⟩ (by rw [q2]; exact h6) q1 q3 (by rw [hsl]; exact k2_hasslot (q4 k hk)) rfl rfl hdg fun H' e1 e2 e3 => ?_
    rw [hsl] at e1 ⊢
    exact kk H' _ ⟨_, hc, t_OB.to (V := updV (vp_V fs) k v) ⟨_, e1, q2, q3, t_set q4 hap hk v⟩ (fun j _ => vp_updV_set hl v j)⟩ e2 e3
  · rw [if_pos hfin] at hlay
    have hcf : m.cls = cf := by
      obtain ⟨_, _, c', _, _, _, -, -, hf', -, -, -, hown2, -⟩ := Cond.laysFinal_spec hlay
      have e1 : c' = cf := by have := hi.symm.trans hf'; simp at this; exact this.1.symm
      rw [hdecl] at hown2
      rw [← e1]; exact Option.some.inj (hown.symm.trans hown2)
    have h6 := u_fits hfc hkC hkind (Or.inr hlay) hi hd hn hfit
    refine W.putFinK hexec hb hown hlink (hsame _ hi) hst hcf hin2 (by rw [q2]; exact h6) q1 q3 (by rw [hsl]; exact k2_hasslot (q4 k hk)) rfl rfl hdg fun H' e1 e2 e3 => ?_
    rw [hsl] at e1 ⊢
    exact kk H' _ ⟨_, hc, t_OB.to (V := updV (vp_V fs) k v) ⟨_, e1, q2, q3, t_set q4 hap hk v⟩ (fun j _ => vp_updV_set hl v j)⟩ e2 e3
/-- what a field's table says, for a write -/
def zFin (i : zI) (T : u_T) (k : Nat) : Prop := (T k).2.2.2 = false ∨ ((T k).2.2.2 = true ∧ i.1.name = "<init>" ∧ (T k).1 = i.1.cls)
theorem zQ_put {ci k idx N : Nat} {C ref : String} {T : u_T} {ls rr : List Value} {w w' : zW} {r : zO × zW} {a : Nat} {v : Value} {ty : FieldType} (d : decode i.2.1 pc = .ok (.putfield idx, 3)) (hc : vwCl[ci]? = some (C, T, N)) (hk : k < N) (hin : ∀ w ∈ u_ws C T N, w ∈ zT) (ty0 : Nat → FieldType) (hty : ∀ k, k < N → parseFieldDescriptor (T k).2.2.1 = some (ty0 k)) (hnm : ∀ a, a < N → ∀ b, b < N → a ≠ b → (T a).2.1 ≠ (T b).2.1) (hw : Cond.fieldLink i.1.cls idx ref (T k).2.1 (T k).2.2.1 ∈ zT) (hsm : zSame C ref T k) (hfin : zFin i T k)
    (hd : parseFieldDescriptor (T k).2.2.1 = some ty) (hn : narrow ty v = v) (hfit : fits ty v = true) (hp : zpt ci k w a v = some w') (h : zQ l D cA zb G i (pc + 3) ls rr w' r) : zQ l D cA zb G i pc ls (v :: .ref a :: rr) w r := by
  obtain ⟨fs, ho, hlen, rfl⟩ := zpt_of hp
  refine h.move (Nat.le_refl _) (Nat.le_refl _) fun p e R s m args below meth c cx H locs cells slots Q lsr hsim hl hS _ _ kk => ?_
  obtain ⟨hx, hb, hr, hml, hown, hts, hlk, hnm2, hxt, hRf, hRl, htr, hzb, hKK, hZ, hU, hN, hM, hNw⟩ := cx
  obtain ⟨hza, hP⟩ := hsim.obj ho
  have hfin' : (T k).2.2.2 = false ∨ ((T k).2.2.2 = true ∧ meth.name = "<init>" ∧ (T k).1 = i.1.cls) := by
    rcases hfin with h | ⟨h1, h2, h3⟩
    · exact Or.inl h
    · exact Or.inr ⟨h1, hnm2 h2, h3⟩
  refine zx_put hx hb hts hin ty0 hty hnm hown hKK hP hc k hk (hts _ hw) (hsm.use hts) hfin' hd hn hfit hlen d fun H1 j e1 e2 e3 => ?_
  have := kk H1 (locs ++ [⟨a, j⟩]) lsr (hsim.upd e2 e3 ⟨hza, e1⟩) hl (hS.put e2 e3 hza)
  rwa [Nat.sub_self, Nat.sub_self] at this
theorem ok_pI {ci k idx N : Nat} {C ref : String} {T : u_T} (d : decode i.2.1 pc = .ok (.putfield idx, 3)) (hc : vwCl[ci]? = some (C, T, N)) (hk : k < N) (hin : ∀ w ∈ u_ws C T N, w ∈ zT) (ty0 : Nat → FieldType) (hty : ∀ k, k < N → parseFieldDescriptor (T k).2.2.1 = some (ty0 k)) (hnm : ∀ a, a < N → ∀ b, b < N → a ≠ b → (T a).2.1 ≠ (T b).2.1) (hw : Cond.fieldLink i.1.cls idx ref (T k).2.1 (T k).2.2.1 ∈ zT) (hsm : zSame C ref T k) (hfin : zFin i T k) (hd : ty0 k = .int) (hn : nx = pc + 3) : zOK l D cA zb G P i (s_pI ci k nx) pc := by
  intro F K _ hK ls st w r h
  simp only [s_pI] at h
  subst hn
  split at h
  next x a rr =>
    obtain ⟨w', hp, h⟩ := Option.bind_eq_some_iff.mp h
    exact zQ_put (ty := .int) d hc hk hin ty0 hty hnm hw hsm hfin ((hty k hk).trans (congrArg some hd)) rfl rfl hp (hK _ _ _ _ _ h)
  next => cases h
theorem znar_b {x : Int32} (h : x &&& 1 = x) : x = 0 ∨ x = 1 := by
  have h1 : x.toBitVec &&& 1#32 = x.toBitVec := congrArg Int32.toBitVec h
  have h2 : x.toBitVec = 0#32 ∨ x.toBitVec = 1#32 := by
    generalize x.toBitVec = b at h1
    have h3 : b.toNat &&& 1 = b.toNat := by have := congrArg BitVec.toNat h1; simpa using this
    have h4 : b.toNat < 2 := by rw [← h3, Nat.and_one_is_mod]; omega
    rcases (by omega : b.toNat = 0 ∨ b.toNat = 1) with h | h
    · exact Or.inl (BitVec.eq_of_toNat_eq (by simpa using h))
    · exact Or.inr (BitVec.eq_of_toNat_eq (by simpa using h))
  rcases h2 with h | h
  · exact Or.inl (Int32.toBitVec_inj.mp h)
  · exact Or.inr (Int32.toBitVec_inj.mp h)
theorem ok_pZ {ci k idx N : Nat} {C ref : String} {T : u_T} (d : decode i.2.1 pc = .ok (.putfield idx, 3)) (hc : vwCl[ci]? = some (C, T, N)) (hk : k < N) (hin : ∀ w ∈ u_ws C T N, w ∈ zT) (ty0 : Nat → FieldType) (hty : ∀ k, k < N → parseFieldDescriptor (T k).2.2.1 = some (ty0 k)) (hnm : ∀ a, a < N → ∀ b, b < N → a ≠ b → (T a).2.1 ≠ (T b).2.1) (hw : Cond.fieldLink i.1.cls idx ref (T k).2.1 (T k).2.2.1 ∈ zT) (hsm : zSame C ref T k) (hfin : zFin i T k) (hd : ty0 k = .boolean) (hn : nx = pc + 3) : zOK l D cA zb G P i (s_pZ ci k nx) pc := by
  intro F K _ hK ls st w r h
  simp only [s_pZ] at h
  subst hn
  split at h
  next x a rr =>
    by_cases hx : x &&& 1 = x
    · rw [if_pos hx] at h
      obtain ⟨w', hp, h⟩ := Option.bind_eq_some_iff.mp h
      exact zQ_put (ty := .boolean) d hc hk hin ty0 hty hnm hw hsm hfin ((hty k hk).trans (congrArg some hd)) (congrArg Value.int hx) (by rcases znar_b hx with h | h <;> rw [h] <;> rfl) hp (hK _ _ _ _ _ h)
    · rw [if_neg hx] at h; cases h
  next => cases h
theorem ok_pR {ci k idx N : Nat} {C ref : String} {T : u_T} (d : decode i.2.1 pc = .ok (.putfield idx, 3)) (hc : vwCl[ci]? = some (C, T, N)) (hk : k < N) (hin : ∀ w ∈ u_ws C T N, w ∈ zT) (ty0 : Nat → FieldType) (hty : ∀ k, k < N → parseFieldDescriptor (T k).2.2.1 = some (ty0 k)) (hnm : ∀ a, a < N → ∀ b, b < N → a ≠ b → (T a).2.1 ≠ (T b).2.1) (hw : Cond.fieldLink i.1.cls idx ref (T k).2.1 (T k).2.2.1 ∈ zT) (hsm : zSame C ref T k) (hfin : zFin i T k) {ty : FieldType} (hd : ty0 k = ty) (hR : (∃ n, ty = .object n) ∨ ∃ t, ty = .array t) (hn : nx = pc + 3) : zOK l D cA zb G P i (s_pR ci k nx) pc := by
  intro F K _ hK ls st w r h
  simp only [s_pR] at h
  subst hn
  split at h
  next x a rr =>
    obtain ⟨w', hp, h⟩ := Option.bind_eq_some_iff.mp h
    refine zQ_put (ty := ty) d hc hk hin ty0 hty hnm hw hsm hfin ((hty k hk).trans (congrArg some hd)) ?_ ?_ hp (hK _ _ _ _ _ h) <;> (rcases hR with ⟨n, rfl⟩ | ⟨t, rfl⟩ <;> rfl)
  next => cases h
theorem ok_new {ci N idx : Nat} {C : String} {T : u_T} {fs : List Value} (d : decode i.2.1 pc = .ok (.new idx, 3)) (hc : vwCl[ci]? = some (C, T, N)) (hin : ∀ w ∈ u_ws C T N, w ∈ zT) (ty0 : Nat → FieldType) (hty : ∀ k, k < N → parseFieldDescriptor (T k).2.2.1 = some (ty0 k)) (hcl : Cond.classLink i.1.cls idx C ∈ zT) (hinst : Cond.instantiable C N ∈ zT) (hini : Cond.initialized C ∈ zT) (hfs : ∀ j, j < N → defaultValue (ty0 j) = vp_V fs j) (hn : nx = pc + 3) : zOK l D cA zb G P i (s_new ci N fs nx) pc := by
  intro F K _ hK ls st w r h
  simp only [s_new] at h
  subst hn
  refine (hK _ _ _ _ _ h).move (Nat.le_succ _) (Nat.le_add_right _ _) fun p e R s m args below meth c cx H locs cells slots Q lsr hsim hl hS h1 h2 kk => ?_
  obtain ⟨hx, hb, hr, hml, hown, hts, hlk, hnm2, hxt, hRf, hRl, htr, hzb, hKK, hZ, hU, hN, hM, hNw⟩ := cx
  have e1 : (znew ci N fs w).1 - w.1 = 1 := Nat.add_sub_cancel_left _ _
  have e2 : (znew ci N fs w).2.1 - w.2.1 = N := Nat.add_sub_cancel_left _ _
  rw [e1] at h1 kk
  rw [e2] at h2 kk
  have hKn := hKK.1 ci _ hc
  refine W.newcK hx hb hown (hts _ hcl) (hts _ hinst) (hts _ hini) rfl d h1 h2 hKn.2.1 rfl fun H1 kC hkC g1 g2 g3 => ?_
  have hz : zb ≤ H.size := Nat.le_trans hzb hS.1
  have hp := hsim.push (ns := w.2.1 + N) (e := zEo ci fs) g2 g3 ⟨hz, _, hc, (u_born ty0 hts hin hKn hkC g1 hty).to hfs⟩
  have := kk H1 locs lsr hp hl ⟨Nat.le_trans hS.1 (by omega), fun x h1 h2 => (g3 x (Nat.lt_of_lt_of_le h1 hS.1)).trans (hS.2.1 x h1 h2), hS.2.2⟩
  rw [← hsim.1] at this
  exact this
/-- the arrays' classes -/
theorem zK_arr {s : State} {k : Nat} {ty : FieldType} (hK : va_K D vwCl (zTy cA) s) (ht : (zTy cA)[k]? = some (cA k, ty)) : ArrOfT s (cA k) ty ∧ va_RA s (cA k) ty := hK.2 k _ ht
theorem zarr_new {s : State} {H H1 : Heap} {locs : List Loc} {s0 : Heap} (hS : va_S (zA zb) s0 H locs) (g2 : H1.size = H.size + 1) (g3 : ∀ q, q < H.size → H1[q]? = H[q]?) : va_S (zA zb) s0 H1 locs := ⟨Nat.le_trans hS.1 (by omega), fun x h1 h2 => (g3 x (Nat.lt_of_lt_of_le h1 hS.1)).trans (hS.2.1 x h1 h2), hS.2.2⟩
theorem ok_nai0 (d : decode i.2.1 pc = .ok (.newarray .int, 2)) (hw : Cond.arrayClass .int ∈ zT) (hn : nx = pc + 2) : zOK l D cA zb G P i (s_nai 0 nx) pc := by
  intro F K _ hK ls st w r h
  simp only [s_nai] at h
  subst hn
  split at h
  next n rr =>
    by_cases hbad : zbad n
    · rw [if_pos hbad] at h; cases h
    rw [if_neg hbad] at h
    have hn0 : ¬ n < 0 := fun q => hbad (Or.inl q)
    have hn1 : n.toNatClampNeg ≤ 100000 := Nat.not_lt.mp fun q => hbad (Or.inr q)
    refine (hK _ _ _ _ _ h).move (Nat.le_succ _) (Nat.le_add_right _ _) fun p e R s m args below meth c cx H locs cells slots Q lsr hsim hl hS h1 h2 kk => ?_
    obtain ⟨hx, hb, hr, hml, hown, hts, hlk, hnm2, hxt, hRf, hRl, htr, hzb, hKK, hZ, hU, hN, hM, hNw⟩ := cx
    have e1 : (znai 0 n w).1 - w.1 = 1 := Nat.add_sub_cancel_left _ _
    have e2 : (znai 0 n w).2.1 - w.2.1 = n.toNatClampNeg := Nat.add_sub_cancel_left _ _
    rw [e1] at h1 kk
    rw [e2] at h2 kk
    refine va_newaK (atype := .int) hx hb (hts _ hw) rfl d rfl hn0 rfl (by show _ * 4 ≤ _; omega) h1 h2 rfl fun H1 c1 g1 g2 g3 hAr hNm => ?_
    have hcc : c1 = cA 0 := Option.some.inj (hNm.symm.trans (zK_arr (k := 0) hKK rfl).2)
    subst hcc
    have hz : zb ≤ H.size := Nat.le_trans hzb hS.1
    have hp := hsim.push (ns := w.2.1 + n.toNatClampNeg) (e := zEi 0 n.toNatClampNeg (fun _ => 0)) g2 g3 (Or.inr (Or.inl ⟨rfl, hz, g1⟩))
    have := kk H1 locs lsr hp hl (zarr_new (s := s) hS g2 g3)
    rw [← hsim.1] at this
    exact this
  next => cases h
theorem ok_naq {idx : Nat} (d : decode i.2.1 pc = .ok (.anewarray idx, 3)) (hw : Cond.classLink i.1.cls idx "java/lang/Object" ∈ zT) (ho : Cond.arrayOver (.object "java/lang/Object") ∈ zN) (hn : nx = pc + 3) : zOK l D cA zb G P i (s_naq nx) pc := by
  intro F K _ hK ls st w r h
  simp only [s_naq] at h
  subst hn
  split at h
  next n rr =>
    by_cases hbad : zbad n
    · rw [if_pos hbad] at h; cases h
    rw [if_neg hbad] at h
    have hn0 : ¬ n < 0 := fun q => hbad (Or.inl q)
    have hn1 : n.toNatClampNeg ≤ 100000 := Nat.not_lt.mp fun q => hbad (Or.inr q)
    refine (hK _ _ _ _ _ h).move (Nat.le_succ _) (Nat.le_add_right _ _) fun p e R s m args below meth c cx H locs cells slots Q lsr hsim hl hS h1 h2 kk => ?_
    obtain ⟨hx, hb, hr, hml, hown, hts, hlk, hnm2, hxt, hRf, hRl, htr, hzb, hKK, hZ, hU, hN, hM, hNw⟩ := cx
    have e1 : (znaq n w).1 - w.1 = 1 := Nat.add_sub_cancel_left _ _
    have e2 : (znaq n w).2.1 - w.2.1 = n.toNatClampNeg := Nat.add_sub_cancel_left _ _
    rw [e1] at h1 kk
    rw [e2] at h2 kk
    refine W.anew hx hb hown (hts _ hw) (va_AO.use (hNw _ ho)) rfl d rfl hn0 (by omega) h1 h2 fun c1 kA comp f1 f2 f3 f4 => ?_
    obtain ⟨-, -, -, -, -, f5⟩ := (zK_arr (k := 3) hKK rfl).2
    have hcc : c1 = cA 3 := Option.some.inj (f1.symm.trans f5)
    subst hcc
    generalize hH1 : H.push ({ cls := cA 3, slots := Array.replicate n.toNatClampNeg .null, vm := .none } : Cell) = H1
    have g2 : H1.size = H.size + 1 := by rw [← hH1, Array.size_push]
    have g1 : H1[H.size]? = some (arrV (cA 3) n.toNatClampNeg (fun _ => .null)) := by rw [← hH1, Array.getElem?_push_size, ← arrV_new]
    have g3 : ∀ q : Nat, q < H.size → H1[q]? = H[q]? := fun q hq => by rw [← hH1, Array.getElem?_push, if_neg (Nat.ne_of_lt hq)]
    have hz : zb ≤ H.size := Nat.le_trans hzb hS.1
    have hp := hsim.push (ns := w.2.1 + n.toNatClampNeg) (e := zEq 3 n.toNatClampNeg (fun _ => none)) g2 g3 (Or.inr ⟨rfl, hz, g1⟩)
    have := kk H1 locs lsr hp hl (zarr_new (s := s) hS g2 g3)
    rw [← hsim.1] at this
    exact this
  next => cases h
theorem ok_alen (d : decode i.2.1 pc = .ok (.arraylength, 1)) (hn : nx = pc + 1) : zOK l D cA zb G P i (s_alen nx) pc := by
  intro F K _ hK ls st w r h
  simp only [s_alen] at h
  subst hn
  split at h
  next a rr =>
    obtain ⟨x, hx, h⟩ := Option.bind_eq_some_iff.mp h
    refine (hK _ _ _ _ _ h).step fun p e R s m args below meth c cx H locs cells slots Q lsr hsim hl hS kk => ?_
    obtain ⟨hex, hb, hr, hml, hown, hts, hlk, hnm2, hxt, hRf, hRl, htr, hzb, hKK, hZ, hU, hN, hM, hNw⟩ := cx
    unfold zlen at hx
    split at hx
    next k n f he =>
      cases hx
      rcases hsim.2 a _ he with ⟨-, ⟨scr, q1, q2, q3, q4, q5⟩, -⟩ | ⟨-, -, q⟩ | ⟨-, -, q⟩
      · exact W.alen (n := Int32.ofNat n) hex hb q1 q2 (by rw [q4] <;> rfl) rfl rfl d (kk lsr hl)
      · exact W.alen (n := Int32.ofNat n) hex hb q ((zK_arr (k := 0) hKK rfl).1 n (fun j => .int (f j))) (by rw [vp_cell_i, arrV_size] <;> rfl) rfl rfl d (kk lsr hl)
      · exact W.alen (n := Int32.ofNat n) hex hb q ((zK_arr (k := 1) hKK rfl).1 n (fun j => .int (f j))) (by rw [vp_cell_i, arrV_size] <;> rfl) rfl rfl d (kk lsr hl)
    next n f he =>
      cases hx
      exact W.alen (n := Int32.ofNat n) hex hb (hsim.2 a _ he).2 ((zK_arr (k := 2) hKK rfl).1 n (fun j => .long (f j))) (by rw [vp_cell_l, arrV_size] <;> rfl) rfl rfl d (kk lsr hl)
    next k n f he =>
      cases hx
      rcases hsim.2 a _ he with ⟨-, cell, q1, q2, q3, q4, q5, -⟩ | ⟨-, -, q⟩
      · exact W.alen (n := Int32.ofNat n) hex hb q1 q2 q5 rfl rfl d (kk lsr hl)
      · exact W.alen (n := Int32.ofNat n) hex hb q ((zK_arr (k := 3) hKK rfl).1 n (fun j => va_rf (f j))) (by rw [vp_cell_q, arrV_size] <;> rfl) rfl rfl d (kk lsr hl)
    next => cases hx
  next => cases h
theorem zP1 {a : Nat} {e : va_E} {H : Heap} (h : va_at D vwCl (a, e) H) : va_P D vwCl [(a, e)] H := fun k q hk => by
  cases k with
  | zero => cases hk; exact h
  | succ k => cases hk
theorem ok_iald (d : decode i.2.1 pc = .ok (.iaload, 1)) (hn : nx = pc + 1) : zOK l D cA zb G P i (s_iald nx) pc := by
  intro F K _ hK ls st w r h
  simp only [s_iald] at h
  subst hn
  split at h
  next j a rr =>
    obtain ⟨x, hx, h⟩ := Option.bind_eq_some_iff.mp h
    refine (hK _ _ _ _ _ h).step fun p e R s m args below meth c cx H locs cells slots Q lsr hsim hl hS kk => ?_
    obtain ⟨hex, hb, hr, hml, hown, hts, hlk, hnm2, hxt, hRf, hRl, htr, hzb, hKK, hZ, hU, hN, hM, hNw⟩ := cx
    unfold zld at hx
    split at hx
    next k n f he =>
      split at hx
      · cases hx
      next hnot =>
        cases hx
        have hin : vp_in j n := fun q => hnot (Or.inl q)
        have hk1 : k ≠ 1 := fun q => hnot (Or.inr (by rw [q]; decide))
        rcases hsim.2 a _ he with ⟨-, ⟨scr, q1, q2, q3, q4, q5⟩, -⟩ | ⟨-, -, q⟩ | ⟨q, -⟩
        · exact W.iald (v := .int (f j.toNatClampNeg)) hex hb q1 q2 q3 (by rw [q4]; exact hin) (q5 _ (Nat.not_le.mp fun z => hin (Or.inr z))) rfl rfl d (kk lsr hl)
        · exact va_iald (D := D) (cl := vwCl) hex hb hKK (zP1 (e := .inl (cA 0, n, .inl f)) q) 0 0 rfl rfl hin d (kk lsr hl)
        · exact absurd q hk1
    next => cases hx
  next => cases h
theorem ok_qald (d : decode i.2.1 pc = .ok (.aaload, 1)) (hn : nx = pc + 1) : zOK l D cA zb G P i (s_qald nx) pc := by
  intro F K _ hK ls st w r h
  simp only [s_qald] at h
  subst hn
  split at h
  next j a rr =>
    obtain ⟨x, hx, h⟩ := Option.bind_eq_some_iff.mp h
    refine (hK _ _ _ _ _ h).step fun p e R s m args below meth c cx H locs cells slots Q lsr hsim hl hS kk => ?_
    obtain ⟨hex, hb, hr, hml, hown, hts, hlk, hnm2, hxt, hRf, hRl, htr, hzb, hKK, hZ, hU, hN, hM, hNw⟩ := cx
    unfold zldq at hx
    split at hx
    next k n f he =>
      split at hx
      · cases hx
      next hnot =>
        have hlt : j.toNatClampNeg < n := Nat.not_le.mp fun z => hnot (Or.inr z)
        have kk := kk lsr hl
        rcases hsim.2 a _ he with ⟨-, cell, q1, q2, q3, q4, q5, q6, -⟩ | ⟨-, -, q⟩
        · have g : cell.slots[j.toNatClampNeg]? = some (va_rf (f j.toNatClampNeg)) := q6 _ hlt
          rw [hx] at g
          exact W.aald (v := .ref x) (ty := .object "java/lang/Object") hex hb q1 q2 rfl q3 (fun z => z.elim (fun z => hnot (Or.inl z)) (fun z => by omega)) g rfl rfl d kk
        · refine va_aldq (D := D) (cl := vwCl) hex hb hKK (zP1 (e := .inl (cA 3, n, .inr (.inr (.inr (.inr f))))) q) 0 3 rfl rfl hnot d ?_
          rw [hx]
          exact kk
    next => cases hx
  next => cases h
theorem zst_move {ls rr st : List Value} {w : zW} {e0 : zE} {a : Nat} {r : zO × zW} (h : zQ l D cA zb G i nx ls rr (w.1, w.2.1, zup w.2.2 a e0) r)
    (hs : ∀ (p : Program) (e : Env) (R : Room) (s : State) (m : MethodId) (args : Array Value) (below : List Frame) (meth : Method) (c : Code), zCx l D cA zb G i p R s m args meth c →
      ∀ (H : Heap) (locs : List Loc) (cells slots : Nat) (Q : State → Prop) (lsr : Array Slot), zSim D cA zb s w H → zL i.2.2.1 ls lsr → va_S (zA zb) s.heap H locs →
        (∀ (H1 : Heap) (L : List Loc), H1.size = H.size → (∀ q : Nat, q ≠ a → H1[q]? = H[q]?) → zat D cA zb s a H1 e0 → (∀ x ∈ L, x.base = a) → zb ≤ a → W p l e R s m args below meth c H1 (locs ++ L) cells slots Q (F0 m nx lsr rr)) →
        W p l e R s m args below meth c H locs cells slots Q (F0 m pc lsr st)) : zQ l D cA zb G i pc ls st w r := by
  refine h.move (Nat.le_refl _) (Nat.le_refl _) fun p e R s m args below meth c cx H locs cells slots Q lsr hsim hl hS _ _ kk => ?_
  refine hs p e R s m args below meth c cx H locs cells slots Q lsr hsim hl hS fun H1 L g1 g2 g3 g4 g5 => ?_
  have := kk H1 (locs ++ L) lsr (hsim.upd g1 g2 g3) hl ⟨by rw [g1]; exact hS.1, fun q h1 h2 => (g2 q (fun z => h2 (by rw [z]; exact g5))).trans (hS.2.1 q h1 h2), fun x hx => (List.mem_append.mp hx).elim (hS.2.2 x) (fun z => by rw [g4 x z]; exact g5)⟩
  rwa [Nat.sub_self, Nat.sub_self] at this
theorem ok_iast (d : decode i.2.1 pc = .ok (.iastore, 1)) (hn : nx = pc + 1) : zOK l D cA zb G P i (s_iast nx) pc := by
  intro F K _ hK ls st w r h
  simp only [s_iast] at h
  subst hn
  split at h
  next x j a rr =>
    obtain ⟨w', hp, h⟩ := Option.bind_eq_some_iff.mp h
    unfold zsto at hp
    split at hp
    next k n f he =>
      split at hp
      · cases hp
      next hnot =>
        cases hp
        have hin : vp_in j n := fun q => hnot (Or.inl q)
        have hk : k = 0 := Decidable.byContradiction fun q => hnot (Or.inr q)
        subst hk
        refine zst_move (hK _ _ _ _ _ h) fun p e R s m args below meth c cx H locs cells slots Q lsr hsim hl hS kk => ?_
        obtain ⟨hex, hb, hr, hml, hown, hts, hlk, hnm2, hxt, hRf, hRl, htr, hzb, hKK, hZ, hU, hN, hM, hNw⟩ := cx
        rcases hsim.2 a _ he with ⟨q, -⟩ | ⟨-, hza, q⟩ | ⟨q, -⟩
        · cases q
        · refine W.iast hex hb q ((zK_arr (k := 0) hKK rfl).1 n (fun j => .int (f j))) (fun q => by cases q) (by show ¬ (j < 0 ∨ (arrV _ _ _).slots.size ≤ _); rw [arrV_size]; exact hin) rfl rfl d fun H1 e1 z oq => ?_
          refine kk H1 [_] z oq (Or.inr (Or.inl ⟨rfl, hza, ?_⟩)) (fun x hx => by rw [List.mem_singleton.mp hx]) hza
          rw [e1]
          rw [vp_cell_i, vp_cell_i, arrV_store]
          congr 2
          funext q
          by_cases hq : q = j.toNatClampNeg
          · subst hq
            simp [updV, upd]
          · simp [updV, upd, hq]
        · cases q
    next => cases hp
  next => cases h
/-- an object of the map can stand in an array of Objects -/
theorem zio_any {s : State} {w : zW} {H : Heap} {y : Nat} (hK : va_K D vwCl (zTy cA) s) (hNw : zNw s) (hca : ∀ (ci : Nat) (q : vw_C), vwCl[ci]? = some q → Cond.castable q.1 "java/lang/Object" ∈ zN) (hsim : zSim D cA zb s w H) (hy : zio w y = true) : va_Any "java/lang/Object" s H y := by
  unfold zio at hy
  split at hy
  next ci fs he =>
    obtain ⟨-, hat⟩ := hsim.2 y _ he
    obtain ⟨r, hr, -⟩ := hat
    exact va_rAny (q0 := 0) hK (zP1 (hsim.2 y _ he).2) rfl hr (vb_asgC (hNw _ (hca ci r hr)))
  next => cases hy
theorem ok_qast (d : decode i.2.1 pc = .ok (.aastore, 1)) (hca : ∀ (ci : Nat) (q : vw_C), vwCl[ci]? = some q → Cond.castable q.1 "java/lang/Object" ∈ zN) (hn : nx = pc + 1) : zOK l D cA zb G P i (s_qast nx) pc := by
  intro F K _ hK ls st w r h
  simp only [s_qast] at h
  subst hn
  split at h
  next x j a rr =>
    unfold zany at h
    cases hio : zio w x with
    | false => rw [hio] at h; cases h
    | true =>
    rw [hio] at h
    obtain ⟨w', hp, h⟩ := Option.bind_eq_some_iff.mp h
    unfold zstq at hp
    split at hp
    next k n f he =>
      split at hp
      · cases hp
      next hnot =>
        cases hp
        have hin : vp_in j n := fun q => hnot (Or.inl q)
        have hk : k = 3 := Decidable.byContradiction fun q => hnot (Or.inr q)
        subst hk
        refine zst_move (hK _ _ _ _ _ h) fun p e R s m args below meth c cx H locs cells slots Q lsr hsim hl hS kk => ?_
        obtain ⟨hex, hb, hr, hml, hown, hts, hlk, hnm2, hxt, hRf, hRl, htr, hzb, hKK, hZ, hU, hN, hM, hNw⟩ := cx
        rcases hsim.2 a _ he with ⟨q, -⟩ | ⟨-, hza, q⟩
        · cases q
        · have hlt : j.toNatClampNeg < n := Nat.not_le.mp fun q => hin (Or.inr q)
          have h0 : ¬ j < 0 := fun q => hin (Or.inl q)
          obtain ⟨cellV, g1, g3, ⟨kC, hkC⟩, hasg⟩ := zio_any hKK hNw hca hsim hio
          obtain ⟨kA, comp, k1, k2, k3, -⟩ := (zK_arr (k := 3) hKK rfl).2
          obtain ⟨kE, hkE, -⟩ := Vm.findClass_spec k3
          refine W.aast hex hb q (fun q h => by cases h) (fun h => by cases h) k1 k2 rfl hkE ⟨h0, by show _ < (arrV _ _ _).slots.size; rw [arrV_size]; exact hlt⟩ g1 (fun q h => by rw [h] at g3; cases g3) hkC (hasg _ k3) rfl rfl d fun H1 e1 z oq => ?_
          refine kk H1 [_] z oq (Or.inr ⟨rfl, hza, ?_⟩) (fun x hx => by rw [List.mem_singleton.mp hx]) hza
          rw [e1]
          rw [vp_cell_q, vp_cell_q, arrV_store]
          congr 2
          funext q
          by_cases hq : q = j.toNatClampNeg
          · subst hq
            simp [updV, va_up, va_rf]
          · simp [updV, va_up, hq]
    next => cases hp
  next => cases h
theorem zck_of {ci : Nat} {w : zW} {a : Nat} {o : zR} {r : zO × zW} (h : zck ci w a o = some r) : ∃ fs, zob ci w a = some fs ∧ o = some r := by
  unfold zck at h
  split at h
  next fs ho => exact ⟨fs, ho, h⟩
  next => cases h
theorem zob_recv {s : State} {w : zW} {H : Heap} {a ci : Nat} {q : vw_C} {fs : List Value} (hK : va_K D vwCl (zTy cA) s) (hsim : zSim D cA zb s w H) (ho : zob ci w a = some fs) (hc : vwCl[ci]? = some q) : ∃ cell : Cell, H[a]? = some cell ∧ cell.vm.isStatics = false ∧ s.vm.findClass q.1 = some cell.cls := va_recv (q0 := 0) hK (hsim.obj ho).2 hc rfl
theorem ok_cast {ci idx N : Nat} {C : String} {T : u_T} (d : decode i.2.1 pc = .ok (.checkcast idx, 3)) (hc : vwCl[ci]? = some (C, T, N)) (hw : Cond.classLink i.1.cls idx C ∈ zT) (hn : nx = pc + 3) : zOK l D cA zb G P i (s_cast ci nx) pc := by
  intro F K _ hK ls st w r h
  simp only [s_cast] at h
  subst hn
  split at h
  next a rr =>
    obtain ⟨fs, ho, h⟩ := zck_of h
    refine (hK _ _ _ _ _ h).step fun p e R s m args below meth c cx H locs cells slots Q lsr hsim hl hS kk => ?_
    obtain ⟨hex, hb, hr, hml, hown, hts, hlk, hnm2, hxt, hRf, hRl, htr, hzb, hKK, hZ, hU, hN, hM, hNw⟩ := cx
    exact va_castS hex hb hown (hts _ hw) (hKK.1 ci _ hc).2 (zob_recv hKK hsim ho hc) d (kk lsr hl)
  next => cases h
end ZE
