/-! SOUNDNESS, 2: the plain instructions -/
abbrev zPP : Type := Nat → Nat → List Value → List Value → zW → zO × zW → Prop
def zOK (l : Launch) (D : va_G) (cA : Nat → ClassId) (zb : Nat) (G : Nat × Nat) (P : zPP) (i : zI) (S : zSem) (pc : Nat) : Prop :=
  ∀ (F : zF) (K : zK), (∀ y pc ls st w r, F y pc ls st w = some r → P y pc ls st w r) → (∀ pc ls st w r, K pc ls st w = some r → zQ l D cA zb G i pc ls st w r) → ∀ ls st w r, S F K ls st w = some r → zQ l D cA zb G i pc ls st w r
section ZD
variable {l : Launch} {D : va_G} {cA : Nat → ClassId} {zb : Nat} {G : Nat × Nat} {P : zPP} {i : zI} {pc nx tgt : Nat} {off : Int}
theorem ok_no : zOK l D cA zb G P i s_no pc := by
  intro F K _ hK ls st w r h
  cases h
theorem ok_iadd (d : decode i.2.1 pc = .ok (.iadd, 1)) (hn : nx = pc + 1) : zOK l D cA zb G P i (s_iadd nx) pc := by
  intro F K _ hK ls st w r h
  simp only [s_iadd] at h
  subst hn
  split at h
  next y x rr => exact (hK _ _ _ _ _ h).step fun p e R s m args below meth c cx H locs cells slots Q lsr hsim hl hS kk => lv_iadd cx.1 cx.2.1 d (kk lsr hl)
  next => cases h
theorem ok_isub (d : decode i.2.1 pc = .ok (.isub, 1)) (hn : nx = pc + 1) : zOK l D cA zb G P i (s_isub nx) pc := by
  intro F K _ hK ls st w r h
  simp only [s_isub] at h
  subst hn
  split at h
  next y x rr => exact (hK _ _ _ _ _ h).step fun p e R s m args below meth c cx H locs cells slots Q lsr hsim hl hS kk => lv_isub cx.1 cx.2.1 d (kk lsr hl)
  next => cases h
theorem ok_imul (d : decode i.2.1 pc = .ok (.imul, 1)) (hn : nx = pc + 1) : zOK l D cA zb G P i (s_imul nx) pc := by
  intro F K _ hK ls st w r h
  simp only [s_imul] at h
  subst hn
  split at h
  next y x rr => exact (hK _ _ _ _ _ h).step fun p e R s m args below meth c cx H locs cells slots Q lsr hsim hl hS kk => lv_imul cx.1 cx.2.1 d (kk lsr hl)
  next => cases h
theorem ok_iand (d : decode i.2.1 pc = .ok (.iand, 1)) (hn : nx = pc + 1) : zOK l D cA zb G P i (s_iand nx) pc := by
  intro F K _ hK ls st w r h
  simp only [s_iand] at h
  subst hn
  split at h
  next y x rr => exact (hK _ _ _ _ _ h).step fun p e R s m args below meth c cx H locs cells slots Q lsr hsim hl hS kk => lv_iand cx.1 cx.2.1 d (kk lsr hl)
  next => cases h
theorem ok_ior (d : decode i.2.1 pc = .ok (.ior, 1)) (hn : nx = pc + 1) : zOK l D cA zb G P i (s_ior nx) pc := by
  intro F K _ hK ls st w r h
  simp only [s_ior] at h
  subst hn
  split at h
  next y x rr => exact (hK _ _ _ _ _ h).step fun p e R s m args below meth c cx H locs cells slots Q lsr hsim hl hS kk => lv_ior cx.1 cx.2.1 d (kk lsr hl)
  next => cases h
theorem ok_ixor (d : decode i.2.1 pc = .ok (.ixor, 1)) (hn : nx = pc + 1) : zOK l D cA zb G P i (s_ixor nx) pc := by
  intro F K _ hK ls st w r h
  simp only [s_ixor] at h
  subst hn
  split at h
  next y x rr => exact (hK _ _ _ _ _ h).step fun p e R s m args below meth c cx H locs cells slots Q lsr hsim hl hS kk => lv_ixor cx.1 cx.2.1 d (kk lsr hl)
  next => cases h
theorem ok_ishl (d : decode i.2.1 pc = .ok (.ishl, 1)) (hn : nx = pc + 1) : zOK l D cA zb G P i (s_ishl nx) pc := by
  intro F K _ hK ls st w r h
  simp only [s_ishl] at h
  subst hn
  split at h
  next y x rr => exact (hK _ _ _ _ _ h).step fun p e R s m args below meth c cx H locs cells slots Q lsr hsim hl hS kk => lv_ishl cx.1 cx.2.1 d (kk lsr hl)
  next => cases h
theorem ok_ishr (d : decode i.2.1 pc = .ok (.ishr, 1)) (hn : nx = pc + 1) : zOK l D cA zb G P i (s_ishr nx) pc := by
  intro F K _ hK ls st w r h
  simp only [s_ishr] at h
  subst hn
  split at h
  next y x rr => exact (hK _ _ _ _ _ h).step fun p e R s m args below meth c cx H locs cells slots Q lsr hsim hl hS kk => lv_ishr cx.1 cx.2.1 d (kk lsr hl)
  next => cases h
theorem ok_iushr (d : decode i.2.1 pc = .ok (.iushr, 1)) (hn : nx = pc + 1) : zOK l D cA zb G P i (s_iushr nx) pc := by
  intro F K _ hK ls st w r h
  simp only [s_iushr] at h
  subst hn
  split at h
  next y x rr => exact (hK _ _ _ _ _ h).step fun p e R s m args below meth c cx H locs cells slots Q lsr hsim hl hS kk => lv_iushr cx.1 cx.2.1 d rfl (kk lsr hl)
  next => cases h
theorem ok_ineg (d : decode i.2.1 pc = .ok (.ineg, 1)) (hn : nx = pc + 1) : zOK l D cA zb G P i (s_ineg nx) pc := by
  intro F K _ hK ls st w r h
  simp only [s_ineg] at h
  subst hn
  split at h
  next x rr => exact (hK _ _ _ _ _ h).step fun p e R s m args below meth c cx H locs cells slots Q lsr hsim hl hS kk => lv_ineg cx.1 cx.2.1 d (kk lsr hl)
  next => cases h
theorem ok_i2l (d : decode i.2.1 pc = .ok (.i2l, 1)) (hn : nx = pc + 1) : zOK l D cA zb G P i (s_i2l nx) pc := by
  intro F K _ hK ls st w r h
  simp only [s_i2l] at h
  subst hn
  split at h
  next x rr => exact (hK _ _ _ _ _ h).step fun p e R s m args below meth c cx H locs cells slots Q lsr hsim hl hS kk => lv_i2l cx.1 cx.2.1 d rfl (kk lsr hl)
  next => cases h
theorem ok_lcmp (d : decode i.2.1 pc = .ok (.lcmp, 1)) (hn : nx = pc + 1) : zOK l D cA zb G P i (s_lcmp nx) pc := by
  intro F K _ hK ls st w r h
  simp only [s_lcmp] at h
  subst hn
  split at h
  next y x rr => exact (hK _ _ _ _ _ h).step fun p e R s m args below meth c cx H locs cells slots Q lsr hsim hl hS kk => W.lcmp cx.1 cx.2.1 d (kk lsr hl)
  next => cases h
theorem ok_dup (d : decode i.2.1 pc = .ok (.dup, 1)) (hn : nx = pc + 1) : zOK l D cA zb G P i (s_dup nx) pc := by
  intro F K _ hK ls st w r h
  simp only [s_dup] at h
  subst hn
  split at h
  next x rr => exact (hK _ _ _ _ _ h).step fun p e R s m args below meth c cx H locs cells slots Q lsr hsim hl hS kk => lv_dup cx.1 cx.2.1 d rfl (kk lsr hl)
  next x rr => exact (hK _ _ _ _ _ h).step fun p e R s m args below meth c cx H locs cells slots Q lsr hsim hl hS kk => lv_dup cx.1 cx.2.1 d rfl (kk lsr hl)
  next => cases h
theorem ok_dup2 (d : decode i.2.1 pc = .ok (.dup2, 1)) (hn : nx = pc + 1) : zOK l D cA zb G P i (s_dup2 nx) pc := by
  intro F K _ hK ls st w r h
  simp only [s_dup2] at h
  subst hn
  split at h
  next x y rr => exact (hK _ _ _ _ _ h).step fun p e R s m args below meth c cx H locs cells slots Q lsr hsim hl hS kk => lv_dup2_11 cx.1 cx.2.1 d rfl rfl (kk lsr hl)
  next => cases h
theorem ok_dupx1 (d : decode i.2.1 pc = .ok (.dup_x1, 1)) (hn : nx = pc + 1) : zOK l D cA zb G P i (s_dupx1 nx) pc := by
  intro F K _ hK ls st w r h
  simp only [s_dupx1] at h
  subst hn
  split at h
  next x y rr => exact (hK _ _ _ _ _ h).step fun p e R s m args below meth c cx H locs cells slots Q lsr hsim hl hS kk => lv_dup_x1 cx.1 cx.2.1 d rfl rfl (kk lsr hl)
  next => cases h
theorem ok_pop (d : decode i.2.1 pc = .ok (.pop, 1)) (hn : nx = pc + 1) : zOK l D cA zb G P i (s_pop nx) pc := by
  intro F K _ hK ls st w r h
  simp only [s_pop] at h
  subst hn
  split at h
  next x rr => exact (hK _ _ _ _ _ h).step fun p e R s m args below meth c cx H locs cells slots Q lsr hsim hl hS kk => lv_pop cx.1 cx.2.1 d rfl (kk lsr hl)
  next x rr => exact (hK _ _ _ _ _ h).step fun p e R s m args below meth c cx H locs cells slots Q lsr hsim hl hS kk => lv_pop cx.1 cx.2.1 d rfl (kk lsr hl)
  next => cases h
theorem ok_idiv (d : decode i.2.1 pc = .ok (.idiv, 1)) (hn : nx = pc + 1) : zOK l D cA zb G P i (s_idiv nx) pc := by
  intro F K _ hK ls st w r h
  simp only [s_idiv] at h
  subst hn
  split at h
  next y x rr =>
    by_cases hy : y = 0
    · rw [if_pos hy] at h; cases h
    · rw [if_neg hy] at h
      exact (hK _ _ _ _ _ h).step fun p e R s m args below meth c cx H locs cells slots Q lsr hsim hl hS kk => lv_idiv cx.1 cx.2.1 d hy (kk lsr hl)
  next => cases h
theorem ok_irem (d : decode i.2.1 pc = .ok (.irem, 1)) (hn : nx = pc + 1) : zOK l D cA zb G P i (s_irem nx) pc := by
  intro F K _ hK ls st w r h
  simp only [s_irem] at h
  subst hn
  split at h
  next y x rr =>
    by_cases hy : y = 0
    · rw [if_pos hy] at h; cases h
    · rw [if_neg hy] at h
      exact (hK _ _ _ _ _ h).step fun p e R s m args below meth c cx H locs cells slots Q lsr hsim hl hS kk => lv_irem cx.1 cx.2.1 d hy (kk lsr hl)
  next => cases h
theorem ok_iconst {n : Int} {v : Int32} (d : decode i.2.1 pc = .ok (.iconst n, 1)) (hv : Int32.ofInt n = v) (hn : nx = pc + 1) : zOK l D cA zb G P i (s_ic v nx) pc := by
  intro F K _ hK ls st w r h
  subst hn
  exact (hK _ _ _ _ _ h).step fun p e R s m args below meth c cx H locs cells slots Q lsr hsim hl hS kk => lv_iconst cx.1 cx.2.1 d hv (kk lsr hl)
theorem ok_bipush {n : Int} {v : Int32} (d : decode i.2.1 pc = .ok (.bipush n, 2)) (hv : (Int8.ofInt n).toInt32 = v) (hn : nx = pc + 2) : zOK l D cA zb G P i (s_ic v nx) pc := by
  intro F K _ hK ls st w r h
  subst hn
  exact (hK _ _ _ _ _ h).step fun p e R s m args below meth c cx H locs cells slots Q lsr hsim hl hS kk => lv_bipush cx.1 cx.2.1 d hv (kk lsr hl)
theorem ok_sipush {n : Int} {v : Int32} (d : decode i.2.1 pc = .ok (.sipush n, 3)) (hv : (Int16.ofInt n).toInt32 = v) (hn : nx = pc + 3) : zOK l D cA zb G P i (s_ic v nx) pc := by
  intro F K _ hK ls st w r h
  subst hn
  exact (hK _ _ _ _ _ h).step fun p e R s m args below meth c cx H locs cells slots Q lsr hsim hl hS kk => lv_sipush cx.1 cx.2.1 d hv (kk lsr hl)
theorem ok_ldc {k : Nat} {v : Int32} (d : decode i.2.1 pc = .ok (.ldc k, 2)) (hw : Cond.constant i.1.cls k v ∈ zT) (hn : nx = pc + 2) : zOK l D cA zb G P i (s_ic v nx) pc := by
  intro F K _ hK ls st w r h
  subst hn
  exact (hK _ _ _ _ _ h).step fun p e R s m args below meth c cx H locs cells slots Q lsr hsim hl hS kk => lv_ldc cx.1 cx.2.1 cx.2.2.2.2.1 (cx.2.2.2.2.2.1 _ hw) d (kk lsr hl)
theorem ok_ldcw {k : Nat} {v : Int32} (d : decode i.2.1 pc = .ok (.ldc_w k, 3)) (hw : Cond.constant i.1.cls k v ∈ zT) (hn : nx = pc + 3) : zOK l D cA zb G P i (s_ic v nx) pc := by
  intro F K _ hK ls st w r h
  subst hn
  exact (hK _ _ _ _ _ h).step fun p e R s m args below meth c cx H locs cells slots Q lsr hsim hl hS kk => lv_ldcw cx.1 cx.2.1 cx.2.2.2.2.1 (cx.2.2.2.2.2.1 _ hw) d (kk lsr hl)
theorem ok_lconst {n : Fin 2} {v : Int64} (d : decode i.2.1 pc = .ok (.lconst n, 1)) (hv : Int64.ofNat (n : Nat) = v) (hn : nx = pc + 1) : zOK l D cA zb G P i (s_lc v nx) pc := by
  intro F K _ hK ls st w r h
  subst hn
  exact (hK _ _ _ _ _ h).step fun p e R s m args below meth c cx H locs cells slots Q lsr hsim hl hS kk => lv_lconst cx.1 cx.2.1 d hv (kk lsr hl)
theorem ok_null (d : decode i.2.1 pc = .ok (.aconst_null, 1)) (hn : nx = pc + 1) : zOK l D cA zb G P i (s_null nx) pc := by
  intro F K _ hK ls st w r h
  subst hn
  exact (hK _ _ _ _ _ h).step fun p e R s m args below meth c cx H locs cells slots Q lsr hsim hl hS kk => lv_null cx.1 cx.2.1 d (kk lsr hl)
theorem ok_iload_n {k : Fin 4} {j : Nat} (d : decode i.2.1 pc = .ok (.iload_n k, 1)) (hj : (k : Nat) = j) (hn : nx = pc + 1) : zOK l D cA zb G P i (s_iload j nx) pc := by
  intro F K _ hK ls st w r h
  simp only [s_iload] at h
  subst hn
  split at h
  next x hx => exact (hK _ _ _ _ _ h).step fun p e R s m args below meth c cx H locs cells slots Q lsr hsim hl hS kk => lv_iload_n cx.1 cx.2.1 d hj (hl.at hx (fun z => by cases z)) (kk lsr hl)
  next => cases h
theorem ok_aload_n {k : Fin 4} {j : Nat} (d : decode i.2.1 pc = .ok (.aload_n k, 1)) (hj : (k : Nat) = j) (hn : nx = pc + 1) : zOK l D cA zb G P i (s_aload j nx) pc := by
  intro F K _ hK ls st w r h
  simp only [s_aload] at h
  subst hn
  split at h
  next x hx => exact (hK _ _ _ _ _ h).step fun p e R s m args below meth c cx H locs cells slots Q lsr hsim hl hS kk => lv_aload_n cx.1 cx.2.1 d hj (hl.at hx (fun z => by cases z)) (kk lsr hl)
  next hx => exact (hK _ _ _ _ _ h).step fun p e R s m args below meth c cx H locs cells slots Q lsr hsim hl hS kk => lv_aload_nN cx.1 cx.2.1 d hj (hl.at hx (fun z => by cases z)) (kk lsr hl)
  next => cases h
theorem ok_istore_n {k : Fin 4} {j : Nat} (d : decode i.2.1 pc = .ok (.istore_n k, 1)) (hj : (k : Nat) = j) (hn : nx = pc + 1) (hj2 : j < i.2.2.1) : zOK l D cA zb G P i (s_istore j nx) pc := by
  intro F K _ hK ls st w r h
  simp only [s_istore] at h
  subst hn
  split at h
  next x rr => exact (hK _ _ _ _ _ h).step fun p e R s m args below meth c cx H locs cells slots Q lsr hsim hl hS kk => lv_istore_n cx.1 cx.2.1 d hj hl.2.1 hj2 rfl (fun lsr1 h1 => kk lsr1 (hl.set rfl h1))
  next => cases h
theorem ok_astore_n {k : Fin 4} {j : Nat} (d : decode i.2.1 pc = .ok (.astore_n k, 1)) (hj : (k : Nat) = j) (hn : nx = pc + 1) (hj2 : j < i.2.2.1) : zOK l D cA zb G P i (s_astore j nx) pc := by
  intro F K _ hK ls st w r h
  simp only [s_astore] at h
  subst hn
  split at h
  next x rr => exact (hK _ _ _ _ _ h).step fun p e R s m args below meth c cx H locs cells slots Q lsr hsim hl hS kk => lv_astore_n cx.1 cx.2.1 d hj hl.2.1 hj2 rfl (fun lsr1 h1 => kk lsr1 (hl.set rfl h1))
  next rr => exact (hK _ _ _ _ _ h).step fun p e R s m args below meth c cx H locs cells slots Q lsr hsim hl hS kk => lv_astore_nN cx.1 cx.2.1 d hj hl.2.1 hj2 rfl (fun lsr1 h1 => kk lsr1 (hl.set rfl h1))
  next => cases h
theorem ok_iload {j : Nat} (d : decode i.2.1 pc = .ok (.iload j, 2)) (hn : nx = pc + 2) : zOK l D cA zb G P i (s_iload j nx) pc := by
  intro F K _ hK ls st w r h
  simp only [s_iload] at h
  subst hn
  split at h
  next x hx => exact (hK _ _ _ _ _ h).step fun p e R s m args below meth c cx H locs cells slots Q lsr hsim hl hS kk => lv_iload cx.1 cx.2.1 d (hl.at hx (fun z => by cases z)) (kk lsr hl)
  next => cases h
theorem ok_aload {j : Nat} (d : decode i.2.1 pc = .ok (.aload j, 2)) (hn : nx = pc + 2) : zOK l D cA zb G P i (s_aload j nx) pc := by
  intro F K _ hK ls st w r h
  simp only [s_aload] at h
  subst hn
  split at h
  next x hx => exact (hK _ _ _ _ _ h).step fun p e R s m args below meth c cx H locs cells slots Q lsr hsim hl hS kk => lv_aload cx.1 cx.2.1 d (hl.at hx (fun z => by cases z)) (kk lsr hl)
  next hx => exact (hK _ _ _ _ _ h).step fun p e R s m args below meth c cx H locs cells slots Q lsr hsim hl hS kk => lv_aloadN cx.1 cx.2.1 d (hl.at hx (fun z => by cases z)) (kk lsr hl)
  next => cases h
theorem ok_istore {j : Nat} (d : decode i.2.1 pc = .ok (.istore j, 2)) (hn : nx = pc + 2) (hj2 : j < i.2.2.1) : zOK l D cA zb G P i (s_istore j nx) pc := by
  intro F K _ hK ls st w r h
  simp only [s_istore] at h
  subst hn
  split at h
  next x rr => exact (hK _ _ _ _ _ h).step fun p e R s m args below meth c cx H locs cells slots Q lsr hsim hl hS kk => lv_istore cx.1 cx.2.1 d hl.2.1 hj2 rfl (fun lsr1 h1 => kk lsr1 (hl.set rfl h1))
  next => cases h
theorem ok_astore {j : Nat} (d : decode i.2.1 pc = .ok (.astore j, 2)) (hn : nx = pc + 2) (hj2 : j < i.2.2.1) : zOK l D cA zb G P i (s_astore j nx) pc := by
  intro F K _ hK ls st w r h
  simp only [s_astore] at h
  subst hn
  split at h
  next x rr => exact (hK _ _ _ _ _ h).step fun p e R s m args below meth c cx H locs cells slots Q lsr hsim hl hS kk => lv_astore cx.1 cx.2.1 d hl.2.1 hj2 rfl (fun lsr1 h1 => kk lsr1 (hl.set rfl h1))
  next rr => exact (hK _ _ _ _ _ h).step fun p e R s m args below meth c cx H locs cells slots Q lsr hsim hl hS kk => lv_astoreN cx.1 cx.2.1 d hl.2.1 hj2 rfl (fun lsr1 h1 => kk lsr1 (hl.set rfl h1))
  next => cases h
theorem zpr_get {ls : List Value} {j : Nat} {v : Value} (hx : znth ls j = some v) (hv : v ≠ zU) : ∃ k : Nat, (zpr 0 ls)[k]? = some (j, v) := by
  have h1 := zpr_in ls 0 j v hx hv
  rw [Nat.zero_add] at h1
  exact List.getElem?_of_mem h1
theorem ok_iinc {j : Nat} {n : Int} {v : Int32} (d : decode i.2.1 pc = .ok (.iinc j n, 3)) (hv : Int32.ofInt n = v) (hn : nx = pc + 3) (hj2 : j < i.2.2.1) : zOK l D cA zb G P i (s_iinc j v nx) pc := by
  intro F K _ hK ls st w r h
  simp only [s_iinc] at h
  subst hn
  subst hv
  split at h
  next x hx =>
    obtain ⟨k, hk⟩ := zpr_get hx (fun z => by cases z)
    exact (hK _ _ _ _ _ h).step fun p e R s m args below meth c cx H locs cells slots Q lsr hsim hl hS kk => lv_iinc cx.1 cx.2.1 d hl.2.1 hk rfl hj2 rfl (fun lsr1 h1 => kk lsr1 (hl.set rfl h1))
  next => cases h
theorem ok_goto (d : decode i.2.1 pc = .ok (.goto off, 3)) (ht : (pc : Int) + off = (tgt : Int)) : zOK l D cA zb G P i (s_goto tgt) pc := by
  intro F K _ hK ls st w r h
  exact (hK _ _ _ _ _ h).step fun p e R s m args below meth c cx H locs cells slots Q lsr hsim hl hS kk => lv_goto cx.1 cx.2.1 d ht (kk lsr hl)
theorem ok_ifeq (d : decode i.2.1 pc = .ok (.ifCond .eq off, 3)) (ht : (pc : Int) + off = (tgt : Int)) (hn : nx = pc + 3) : zOK l D cA zb G P i (s_ifeq tgt nx) pc := by
  intro F K _ hK ls st w r h
  simp only [s_ifeq] at h
  subst hn
  split at h
  next x rr =>
    by_cases hc : x = 0
    · rw [if_pos hc] at h
      exact (hK _ _ _ _ _ h).step fun p e R s m args below meth c cx H locs cells slots Q lsr hsim hl hS kk => lv_if_eq cx.1 cx.2.1 d ht (fun _ => kk lsr hl) (fun q => absurd hc q)
    · rw [if_neg hc] at h
      exact (hK _ _ _ _ _ h).step fun p e R s m args below meth c cx H locs cells slots Q lsr hsim hl hS kk => lv_if_eq cx.1 cx.2.1 d ht (fun q => absurd q hc) (fun _ => kk lsr hl)
  next => cases h
theorem ok_cmpeq (d : decode i.2.1 pc = .ok (.if_icmp .eq off, 3)) (ht : (pc : Int) + off = (tgt : Int)) (hn : nx = pc + 3) : zOK l D cA zb G P i (s_cmpeq tgt nx) pc := by
  intro F K _ hK ls st w r h
  simp only [s_cmpeq] at h
  subst hn
  split at h
  next y x rr =>
    by_cases hc : x = y
    · rw [if_pos hc] at h
      exact (hK _ _ _ _ _ h).step fun p e R s m args below meth c cx H locs cells slots Q lsr hsim hl hS kk => lv_icmp_eq cx.1 cx.2.1 d ht (fun _ => kk lsr hl) (fun q => absurd hc q)
    · rw [if_neg hc] at h
      exact (hK _ _ _ _ _ h).step fun p e R s m args below meth c cx H locs cells slots Q lsr hsim hl hS kk => lv_icmp_eq cx.1 cx.2.1 d ht (fun q => absurd q hc) (fun _ => kk lsr hl)
  next => cases h
theorem ok_ifne (d : decode i.2.1 pc = .ok (.ifCond .ne off, 3)) (ht : (pc : Int) + off = (tgt : Int)) (hn : nx = pc + 3) : zOK l D cA zb G P i (s_ifne tgt nx) pc := by
  intro F K _ hK ls st w r h
  simp only [s_ifne] at h
  subst hn
  split at h
  next x rr =>
    by_cases hc : x = 0
    · rw [if_pos hc] at h
      exact (hK _ _ _ _ _ h).step fun p e R s m args below meth c cx H locs cells slots Q lsr hsim hl hS kk => lv_if_ne cx.1 cx.2.1 d ht (fun q => absurd hc q) (fun _ => kk lsr hl)
    · rw [if_neg hc] at h
      exact (hK _ _ _ _ _ h).step fun p e R s m args below meth c cx H locs cells slots Q lsr hsim hl hS kk => lv_if_ne cx.1 cx.2.1 d ht (fun _ => kk lsr hl) (fun q => absurd q hc)
  next => cases h
theorem ok_cmpne (d : decode i.2.1 pc = .ok (.if_icmp .ne off, 3)) (ht : (pc : Int) + off = (tgt : Int)) (hn : nx = pc + 3) : zOK l D cA zb G P i (s_cmpne tgt nx) pc := by
  intro F K _ hK ls st w r h
  simp only [s_cmpne] at h
  subst hn
  split at h
  next y x rr =>
    by_cases hc : x = y
    · rw [if_pos hc] at h
      exact (hK _ _ _ _ _ h).step fun p e R s m args below meth c cx H locs cells slots Q lsr hsim hl hS kk => lv_icmp_ne cx.1 cx.2.1 d ht (fun q => absurd hc q) (fun _ => kk lsr hl)
    · rw [if_neg hc] at h
      exact (hK _ _ _ _ _ h).step fun p e R s m args below meth c cx H locs cells slots Q lsr hsim hl hS kk => lv_icmp_ne cx.1 cx.2.1 d ht (fun _ => kk lsr hl) (fun q => absurd q hc)
  next => cases h
theorem ok_iflt (d : decode i.2.1 pc = .ok (.ifCond .lt off, 3)) (ht : (pc : Int) + off = (tgt : Int)) (hn : nx = pc + 3) : zOK l D cA zb G P i (s_iflt tgt nx) pc := by
  intro F K _ hK ls st w r h
  simp only [s_iflt] at h
  subst hn
  split at h
  next x rr =>
    by_cases hc : x < 0
    · rw [if_pos hc] at h
      exact (hK _ _ _ _ _ h).step fun p e R s m args below meth c cx H locs cells slots Q lsr hsim hl hS kk => lv_if_lt cx.1 cx.2.1 d ht (fun _ => kk lsr hl) (fun q => absurd hc q)
    · rw [if_neg hc] at h
      exact (hK _ _ _ _ _ h).step fun p e R s m args below meth c cx H locs cells slots Q lsr hsim hl hS kk => lv_if_lt cx.1 cx.2.1 d ht (fun q => absurd q hc) (fun _ => kk lsr hl)
  next => cases h
theorem ok_cmplt (d : decode i.2.1 pc = .ok (.if_icmp .lt off, 3)) (ht : (pc : Int) + off = (tgt : Int)) (hn : nx = pc + 3) : zOK l D cA zb G P i (s_cmplt tgt nx) pc := by
  intro F K _ hK ls st w r h
  simp only [s_cmplt] at h
  subst hn
  split at h
  next y x rr =>
    by_cases hc : x < y
    · rw [if_pos hc] at h
      exact (hK _ _ _ _ _ h).step fun p e R s m args below meth c cx H locs cells slots Q lsr hsim hl hS kk => lv_icmp_lt cx.1 cx.2.1 d ht (fun _ => kk lsr hl) (fun q => absurd hc q)
    · rw [if_neg hc] at h
      exact (hK _ _ _ _ _ h).step fun p e R s m args below meth c cx H locs cells slots Q lsr hsim hl hS kk => lv_icmp_lt cx.1 cx.2.1 d ht (fun q => absurd q hc) (fun _ => kk lsr hl)
  next => cases h
theorem ok_ifge (d : decode i.2.1 pc = .ok (.ifCond .ge off, 3)) (ht : (pc : Int) + off = (tgt : Int)) (hn : nx = pc + 3) : zOK l D cA zb G P i (s_ifge tgt nx) pc := by
  intro F K _ hK ls st w r h
  simp only [s_ifge] at h
  subst hn
  split at h
  next x rr =>
    by_cases hc : 0 ≤ x
    · rw [if_pos hc] at h
      exact (hK _ _ _ _ _ h).step fun p e R s m args below meth c cx H locs cells slots Q lsr hsim hl hS kk => lv_if_ge cx.1 cx.2.1 d ht (fun _ => kk lsr hl) (fun q => absurd hc q)
    · rw [if_neg hc] at h
      exact (hK _ _ _ _ _ h).step fun p e R s m args below meth c cx H locs cells slots Q lsr hsim hl hS kk => lv_if_ge cx.1 cx.2.1 d ht (fun q => absurd q hc) (fun _ => kk lsr hl)
  next => cases h
theorem ok_cmpge (d : decode i.2.1 pc = .ok (.if_icmp .ge off, 3)) (ht : (pc : Int) + off = (tgt : Int)) (hn : nx = pc + 3) : zOK l D cA zb G P i (s_cmpge tgt nx) pc := by
  intro F K _ hK ls st w r h
  simp only [s_cmpge] at h
  subst hn
  split at h
  next y x rr =>
    by_cases hc : y ≤ x
    · rw [if_pos hc] at h
      exact (hK _ _ _ _ _ h).step fun p e R s m args below meth c cx H locs cells slots Q lsr hsim hl hS kk => lv_icmp_ge cx.1 cx.2.1 d ht (fun _ => kk lsr hl) (fun q => absurd hc q)
    · rw [if_neg hc] at h
      exact (hK _ _ _ _ _ h).step fun p e R s m args below meth c cx H locs cells slots Q lsr hsim hl hS kk => lv_icmp_ge cx.1 cx.2.1 d ht (fun q => absurd q hc) (fun _ => kk lsr hl)
  next => cases h
theorem ok_ifgt (d : decode i.2.1 pc = .ok (.ifCond .gt off, 3)) (ht : (pc : Int) + off = (tgt : Int)) (hn : nx = pc + 3) : zOK l D cA zb G P i (s_ifgt tgt nx) pc := by
  intro F K _ hK ls st w r h
  simp only [s_ifgt] at h
  subst hn
  split at h
  next x rr =>
    by_cases hc : 0 < x
    · rw [if_pos hc] at h
      exact (hK _ _ _ _ _ h).step fun p e R s m args below meth c cx H locs cells slots Q lsr hsim hl hS kk => lv_if_gt cx.1 cx.2.1 d ht (fun _ => kk lsr hl) (fun q => absurd hc q)
    · rw [if_neg hc] at h
      exact (hK _ _ _ _ _ h).step fun p e R s m args below meth c cx H locs cells slots Q lsr hsim hl hS kk => lv_if_gt cx.1 cx.2.1 d ht (fun q => absurd q hc) (fun _ => kk lsr hl)
  next => cases h
theorem ok_cmpgt (d : decode i.2.1 pc = .ok (.if_icmp .gt off, 3)) (ht : (pc : Int) + off = (tgt : Int)) (hn : nx = pc + 3) : zOK l D cA zb G P i (s_cmpgt tgt nx) pc := by
  intro F K _ hK ls st w r h
  simp only [s_cmpgt] at h
  subst hn
  split at h
  next y x rr =>
    by_cases hc : y < x
    · rw [if_pos hc] at h
      exact (hK _ _ _ _ _ h).step fun p e R s m args below meth c cx H locs cells slots Q lsr hsim hl hS kk => lv_icmp_gt cx.1 cx.2.1 d ht (fun _ => kk lsr hl) (fun q => absurd hc q)
    · rw [if_neg hc] at h
      exact (hK _ _ _ _ _ h).step fun p e R s m args below meth c cx H locs cells slots Q lsr hsim hl hS kk => lv_icmp_gt cx.1 cx.2.1 d ht (fun q => absurd q hc) (fun _ => kk lsr hl)
  next => cases h
theorem ok_ifle (d : decode i.2.1 pc = .ok (.ifCond .le off, 3)) (ht : (pc : Int) + off = (tgt : Int)) (hn : nx = pc + 3) : zOK l D cA zb G P i (s_ifle tgt nx) pc := by
  intro F K _ hK ls st w r h
  simp only [s_ifle] at h
  subst hn
  split at h
  next x rr =>
    by_cases hc : x ≤ 0
    · rw [if_pos hc] at h
      exact (hK _ _ _ _ _ h).step fun p e R s m args below meth c cx H locs cells slots Q lsr hsim hl hS kk => lv_if_le cx.1 cx.2.1 d ht (fun _ => kk lsr hl) (fun q => absurd hc q)
    · rw [if_neg hc] at h
      exact (hK _ _ _ _ _ h).step fun p e R s m args below meth c cx H locs cells slots Q lsr hsim hl hS kk => lv_if_le cx.1 cx.2.1 d ht (fun q => absurd q hc) (fun _ => kk lsr hl)
  next => cases h
theorem ok_cmple (d : decode i.2.1 pc = .ok (.if_icmp .le off, 3)) (ht : (pc : Int) + off = (tgt : Int)) (hn : nx = pc + 3) : zOK l D cA zb G P i (s_cmple tgt nx) pc := by
  intro F K _ hK ls st w r h
  simp only [s_cmple] at h
  subst hn
  split at h
  next y x rr =>
    by_cases hc : x ≤ y
    · rw [if_pos hc] at h
      exact (hK _ _ _ _ _ h).step fun p e R s m args below meth c cx H locs cells slots Q lsr hsim hl hS kk => lv_icmp_le cx.1 cx.2.1 d ht (fun _ => kk lsr hl) (fun q => absurd hc q)
    · rw [if_neg hc] at h
      exact (hK _ _ _ _ _ h).step fun p e R s m args below meth c cx H locs cells slots Q lsr hsim hl hS kk => lv_icmp_le cx.1 cx.2.1 d ht (fun q => absurd q hc) (fun _ => kk lsr hl)
  next => cases h
theorem ok_acmpeq (d : decode i.2.1 pc = .ok (.if_acmp .eq off, 3)) (ht : (pc : Int) + off = (tgt : Int)) (hn : nx = pc + 3) : zOK l D cA zb G P i (s_acmpeq tgt nx) pc := by
  intro F K _ hK ls st w r h
  simp only [s_acmpeq] at h
  subst hn
  split at h
  next y x rr =>
    by_cases hc : x = y
    · rw [if_pos hc] at h
      exact (hK _ _ _ _ _ h).step fun p e R s m args below meth c cx H locs cells slots Q lsr hsim hl hS kk => lv_acmp_eq (rx := some x) (ry := some y) cx.1 cx.2.1 d ht (fun _ => kk lsr hl) (fun q => absurd (congrArg some hc) q)
    · rw [if_neg hc] at h
      exact (hK _ _ _ _ _ h).step fun p e R s m args below meth c cx H locs cells slots Q lsr hsim hl hS kk => lv_acmp_eq (rx := some x) (ry := some y) cx.1 cx.2.1 d ht (fun q => absurd (Option.some.inj q) hc) (fun _ => kk lsr hl)
  next => cases h
theorem ok_acmpne (d : decode i.2.1 pc = .ok (.if_acmp .ne off, 3)) (ht : (pc : Int) + off = (tgt : Int)) (hn : nx = pc + 3) : zOK l D cA zb G P i (s_acmpne tgt nx) pc := by
  intro F K _ hK ls st w r h
  simp only [s_acmpne] at h
  subst hn
  split at h
  next y x rr =>
    by_cases hc : x = y
    · rw [if_pos hc] at h
      exact (hK _ _ _ _ _ h).step fun p e R s m args below meth c cx H locs cells slots Q lsr hsim hl hS kk => lv_acmp_ne (rx := some x) (ry := some y) cx.1 cx.2.1 d ht (fun q => absurd (congrArg some hc) q) (fun _ => kk lsr hl)
    · rw [if_neg hc] at h
      exact (hK _ _ _ _ _ h).step fun p e R s m args below meth c cx H locs cells slots Q lsr hsim hl hS kk => lv_acmp_ne (rx := some x) (ry := some y) cx.1 cx.2.1 d ht (fun _ => kk lsr hl) (fun q => absurd (Option.some.inj q) hc)
  next => cases h
theorem ok_nonnull (d : decode i.2.1 pc = .ok (.ifnonnull off, 3)) (ht : (pc : Int) + off = (tgt : Int)) (hn : nx = pc + 3) : zOK l D cA zb G P i (s_nonnull tgt nx) pc := by
  intro F K _ hK ls st w r h
  simp only [s_nonnull] at h
  subst hn
  split at h
  next x rr => exact (hK _ _ _ _ _ h).step fun p e R s m args below meth c cx H locs cells slots Q lsr hsim hl hS kk => lv_ifnonnull cx.1 cx.2.1 d ht (kk lsr hl)
  next rr => exact (hK _ _ _ _ _ h).step fun p e R s m args below meth c cx H locs cells slots Q lsr hsim hl hS kk => lv_ifnonnullN cx.1 cx.2.1 d (kk lsr hl)
  next => cases h
theorem ok_sw {dflt lo hi : Int} {offs : Array Int} {len tgt : Nat} {ts : List Nat} (d : decode i.2.1 pc = .ok (.tableswitch dflt lo hi offs, len)) (hd : (pc : Int) + dflt = (tgt : Int)) (hh : hi = lo + ts.length - 1) (ho : ∀ (k t : Nat), ts[k]? = some t → ∃ off : Int, offs[k]? = some off ∧ (pc : Int) + off = (t : Int)) : zOK l D cA zb G P i (s_sw lo ts tgt) pc := by
  intro F K _ hK ls st w r h
  simp only [s_sw] at h
  split at h
  next x rr =>
    refine (hK _ _ _ _ _ h).step fun p e R s m args below meth c cx H locs cells slots Q lsr hsim hl hS kk => ?_
    have kk := kk lsr hl
    unfold zsw at kk
    by_cases h1 : x.toInt < lo
    · rw [if_pos h1] at kk
      exact lv_tableOut cx.1 cx.2.1 d (Or.inl h1) hd kk
    · rw [if_neg h1] at kk
      cases ht : ts[(x.toInt - lo).toNat]? with
      | none =>
        rw [ht] at kk
        have hlen := List.getElem?_eq_none_iff.mp ht
        exact lv_tableOut cx.1 cx.2.1 d (Or.inr (by omega)) hd kk
      | some t =>
        rw [ht] at kk
        obtain ⟨o, g1, g2⟩ := ho _ _ ht
        have hlen := (List.getElem?_eq_some_iff.mp ht).1
        exact lv_tableIn cx.1 cx.2.1 d h1 (by omega) g1 g2 kk
  next => cases h
theorem ok_gse {k : Nat} (d : decode i.2.1 pc = .ok (.getstatic k, 3)) (hw : Cond.fieldLink i.1.cls k "java/util/ArrayList" "DEFAULTCAPACITY_EMPTY_ELEMENTDATA" "[Ljava/lang/Object;" ∈ zT) (hn : nx = pc + 3) : zOK l D cA zb G P i (s_gs G.1 nx) pc := by
  intro F K _ hK ls st w r h
  subst hn
  exact (hK _ _ _ _ _ h).step fun p e R s m args below meth c cx H locs cells slots Q lsr hsim hl hS kk => va_gets cx.1 cx.2.1 cx.2.2.2.2.2.2.2.2.2.2.2.2.2.2.1 hS cx.2.2.2.2.1 (cx.2.2.2.2.2.1 _ hw) (fun _ z => z) d (kk lsr hl)
theorem ok_gsm {k : Nat} (d : decode i.2.1 pc = .ok (.ldc k, 2)) (hw : Cond.classLink i.1.cls k "[Ljava/lang/Object;" ∈ zT) (hn : nx = pc + 2) : zOK l D cA zb G P i (s_gs G.2 nx) pc := by
  intro F K _ hK ls st w r h
  subst hn
  exact (hK _ _ _ _ _ h).step fun p e R s m args below meth c cx H locs cells slots Q lsr hsim hl hS kk => va_ldcM cx.1 cx.2.1 cx.2.2.2.2.1 (cx.2.2.2.2.2.1 _ hw) cx.2.2.2.2.2.2.2.2.2.2.2.2.2.2.2.2.2.1.1 d (kk lsr hl)
end ZD
