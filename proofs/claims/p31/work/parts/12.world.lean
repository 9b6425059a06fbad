/-! SOUNDNESS, 1: what a map of cells says of a heap; what is known in a frame -/
def zkeep : Cond → Bool
  | .castable .. => true
  | .declares _ => true
  | .arrayOver (.object _) => true
  | .methodLinkNest .. => true
  | _ => false
def zT : List Cond := lw_tbl.filter goodWord
def zN : List Cond := lw_tbl.filter zkeep
theorem zT_in {w : Cond} (k : Nat) (h : lw_tbl[k]? = some w) (g : goodWord w = true) : w ∈ zT := List.mem_filter.mpr ⟨List.mem_of_getElem? h, g⟩
theorem zN_in {w : Cond} (k : Nat) (h : lw_tbl[k]? = some w) (g : zkeep w = true) : w ∈ zN := List.mem_filter.mpr ⟨List.mem_of_getElem? h, g⟩
theorem zT_good : GoodIn zT zT := fun w hw => ⟨hw, good_of_word (List.mem_filter.mp hw).2⟩
def zNw (U : State) : Prop := ∀ w ∈ zN, va_Nw w U
theorem zNw.warm {s U : State} (hW : s.WarmedH U.vm) (h : zNw s) : zNw U := by
  intro w hw
  have h1 := h w hw
  have hk := (List.mem_filter.mp hw).2
  cases w with
  | castable a b => exact va_Nw.warmC hW h1
  | declares x => exact va_Nw.warmD hW h1
  | methodLinkNest a b c d => exact va_Nw.warmM hW h1
  | arrayOver t =>
    cases t with
    | object C => exact va_AO.moved hW.alike h1
    | _ => cases hk
  | _ => cases hk
theorem zNw.same {u U : State} (h : u.vm = U.vm) (hn : zNw u) : zNw U := by
  intro w hw
  have h1 := hn w hw
  have hk := (List.mem_filter.mp hw).2
  cases w with
  | castable a b => exact va_Nw.same rfl h h1
  | declares x => exact va_Nw.same rfl h h1
  | methodLinkNest a b c d => exact va_Nw.same rfl h h1
  | arrayOver t =>
    cases t with
    | object C => exact va_AO.moved (by rw [h]; exact Vm.Alike.refl _) h1
    | _ => cases hk
  | _ => cases hk
abbrev zA (zb : Nat) : Nat → Prop := fun q => zb ≤ q
abbrev zTy (cA : Nat → ClassId) : List (ClassId × FieldType) := [(cA 0, .int), (cA 1, .int), (cA 2, .int), (cA 3, .object "java/lang/Object")]
def zat (D : va_G) (cA : Nat → ClassId) (zb : Nat) (s : State) (a : Nat) (H : Heap) (e : zE) : Prop := match e with
  | .inl (k, n, f) => (k = 4 ∧ va_X a n f s H ∧ ¬ zb ≤ a) ∨ (k = 0 ∧ zb ≤ a ∧ H[a]? = some (vp_cell (cA 0) (n, .inl f))) ∨ (k = 1 ∧ zb ≤ a ∧ H[a]? = some (vp_cell (cA 1) (n, .inl f)))
  | .inr (.inl (n, f)) => zb ≤ a ∧ H[a]? = some (vp_cell (cA 2) (n, .inr (.inl f)))
  | .inr (.inr (.inl (k, n, f))) => (k = 5 ∧ va_T (.object "java/lang/Object") a n (fun j => va_rf (f j)) (zA zb) s H) ∨ (k = 3 ∧ zb ≤ a ∧ H[a]? = some (vp_cell (cA 3) (n, .inr (.inr (.inr (.inr f))))))
  | .inr (.inr (.inr (ci, fs))) => zb ≤ a ∧ va_at D vwCl (a, .inr (ci, fs)) H
section ZB
variable {D : va_G} {cA : Nat → ClassId} {zb : Nat} {s U : State} {H H1 : Heap}
theorem zat.kept {a : Nat} {e : zE} (h : zat D cA zb s a H e) (hq : H1[a]? = H[a]?) : zat D cA zb s a H1 e := by
  match e, h with
  | .inl (k, n, f), h =>
    rcases h with ⟨h1, h2, h3⟩ | ⟨h1, h2, h3⟩ | ⟨h1, h2, h3⟩
    · exact Or.inl ⟨h1, h2.kept hq, h3⟩
    · exact Or.inr (Or.inl ⟨h1, h2, by rw [hq]; exact h3⟩)
    · exact Or.inr (Or.inr ⟨h1, h2, by rw [hq]; exact h3⟩)
  | .inr (.inl (n, f)), h => exact ⟨h.1, by rw [hq]; exact h.2⟩
  | .inr (.inr (.inl (k, n, f))), h =>
    rcases h with ⟨h1, cell, h2, h3⟩ | ⟨h1, h2, h3⟩
    · exact Or.inl ⟨h1, cell, by rw [hq]; exact h2, h3⟩
    · exact Or.inr ⟨h1, h2, by rw [hq]; exact h3⟩
  | .inr (.inr (.inr (ci, fs))), h => exact ⟨h.1, h.2.kept hq⟩
theorem zat.moved {a : Nat} {e : zE} (hvm : s.vm.Alike U.vm) (h : zat D cA zb s a H e) : zat D cA zb U a H e := by
  match e, h with
  | .inl (k, n, f), h =>
    rcases h with ⟨h1, h2, h3⟩ | h
    · exact Or.inl ⟨h1, va_X.moved hvm h2, h3⟩
    · exact Or.inr h
  | .inr (.inl (n, f)), h => exact h
  | .inr (.inr (.inl (k, n, f))), h =>
    rcases h with ⟨h1, cell, h2, h3, h4⟩ | h
    · exact Or.inl ⟨h1, cell, h2, State.isArrayOf_alike hvm h3, h4⟩
    · exact Or.inr h
  | .inr (.inr (.inr (ci, fs))), h => exact h
theorem zat.lt {a : Nat} {e : zE} (h : zat D cA zb s a H e) : a < H.size := by
  match e, h with
  | .inl (k, n, f), h =>
    rcases h with ⟨h1, ⟨cell, h2, -⟩, h3⟩ | ⟨h1, h2, h3⟩ | ⟨h1, h2, h3⟩
    · exact (Array.getElem?_eq_some_iff.mp h2).1
    · exact (Array.getElem?_eq_some_iff.mp h3).1
    · exact (Array.getElem?_eq_some_iff.mp h3).1
  | .inr (.inl (n, f)), h => exact (Array.getElem?_eq_some_iff.mp h.2).1
  | .inr (.inr (.inl (k, n, f))), h =>
    rcases h with ⟨h1, cell, h2, -⟩ | ⟨h1, h2, h3⟩
    · exact (Array.getElem?_eq_some_iff.mp h2).1
    · exact (Array.getElem?_eq_some_iff.mp h3).1
  | .inr (.inr (.inr (ci, fs))), h => exact h.2.lt
/-- the map w says what the heap H holds -/
def zSim (D : va_G) (cA : Nat → ClassId) (zb : Nat) (s : State) (w : zW) (H : Heap) : Prop := H.size = w.1 ∧ ∀ (a : Nat) (e : zE), w.2.2 a = some e → zat D cA zb s a H e
theorem zSim.moved {w : zW} (hvm : s.vm.Alike U.vm) (h : zSim D cA zb s w H) : zSim D cA zb U w H := ⟨h.1, fun a e he => (h.2 a e he).moved hvm⟩
theorem zSim.upd {w : zW} {a : Nat} {e : zE} (h : zSim D cA zb s w H) (hz : H1.size = H.size) (hq : ∀ q : Nat, q ≠ a → H1[q]? = H[q]?) (he : zat D cA zb s a H1 e) : zSim D cA zb s (w.1, w.2.1, zup w.2.2 a e) H1 := by
  refine ⟨hz.trans h.1, fun b x hb => ?_⟩
  by_cases hba : b = a
  · subst hba
    have hx : some e = some x := by simpa [zup] using hb
    cases hx
    exact he
  · have hx : w.2.2 b = some x := by simpa [zup, hba] using hb
    exact (h.2 b x hx).kept (hq b hba)
theorem zSim.push {w : zW} {e : zE} {ns : Nat} (h : zSim D cA zb s w H) (hz : H1.size = H.size + 1) (hq : ∀ q : Nat, q < H.size → H1[q]? = H[q]?) (he : zat D cA zb s H.size H1 e) : zSim D cA zb s (w.1 + 1, ns, zup w.2.2 w.1 e) H1 := by
  refine ⟨by rw [hz, h.1], fun b x hb => ?_⟩
  by_cases hba : b = w.1
  · subst hba
    have hx : some e = some x := by simpa [zup] using hb
    cases hx
    rw [← h.1]
    exact he
  · have hx : w.2.2 b = some x := by simpa [zup, hba] using hb
    exact (h.2 b x hx).kept (hq b (h.2 b x hx).lt)
theorem zSim.grow {w : zW} {ns : Nat} (h : zSim D cA zb s w H) (hz : H1.size = H.size + 1) (hq : ∀ q : Nat, q < H.size → H1[q]? = H[q]?) : zSim D cA zb s (w.1 + 1, ns, w.2.2) H1 :=
  ⟨by rw [hz, h.1], fun b x hb => (h.2 b x hb).kept (hq b (h.2 b x hb).lt)⟩
/-- an object of the map -/
theorem zSim.obj {w : zW} {a ci : Nat} {fs : List Value} (h : zSim D cA zb s w H) (ho : zob ci w a = some fs) : zb ≤ a ∧ va_P D vwCl [(a, .inr (ci, fs))] H := by
  unfold zob at ho
  split at ho
  next c fs' he =>
    split at ho
    next hc =>
      subst hc
      cases ho
      have h1 := h.2 a _ he
      refine ⟨h1.1, fun k q hk => ?_⟩
      cases k with
      | zero => cases hk; exact h1.2
      | succ k => cases hk
    next => cases ho
  next => cases ho
theorem zob_map {w : zW} {a ci : Nat} {fs : List Value} (ho : zob ci w a = some fs) : w.2.2 a = some (zEo ci fs) := by
  unfold zob at ho
  split at ho
  next c fs' he =>
    split at ho
    next hc => subst hc; cases ho; exact he
    next => cases ho
  next => cases ho
end ZB
theorem zD1 {A : Nat → Prop} {a : Nat} {e : va_E} (h : A a) : va_D A [(a, e)] := by
  refine ⟨fun i j x y hi hj _ => ?_, fun k q hk => ?_⟩
  · have h1 := (List.getElem?_eq_some_iff.mp hi).1
    have h2 := (List.getElem?_eq_some_iff.mp hj).1
    simp at h1 h2
    omega
  · cases k with
    | zero => cases hk; exact h
    | succ k => cases hk
/-! locals -/
def zpr : Nat → List Value → List (Nat × Value)
  | _, [] => []
  | k, v :: l => if v = zU then zpr (k + 1) l else (k, v) :: zpr (k + 1) l
def zL (n : Nat) (ls : List Value) (lsr : Array Slot) : Prop := ls.length = n ∧ lv_has lsr n (zpr 0 ls) ∧ ∀ v ∈ ls, v.category = 1
theorem zpr_in : ∀ (ls : List Value) (k i : Nat) (v : Value), znth ls i = some v → v ≠ zU → (k + i, v) ∈ zpr k ls
  | [], _, _, _, h, _ => by cases h
  | x :: l, k, 0, v, h, hv => by
    cases h
    unfold zpr
    rw [if_neg hv]
    exact List.mem_cons_self
  | x :: l, k, i + 1, v, h, hv => by
    have h1 := zpr_in l (k + 1) i v h hv
    rw [show k + 1 + i = k + (i + 1) by omega] at h1
    unfold zpr
    split
    · exact h1
    · exact List.mem_cons_of_mem _ h1
theorem zpr_out : ∀ (ls : List Value) (k : Nat) (q : Nat × Value), q ∈ zpr k ls → k ≤ q.1 ∧ znth ls (q.1 - k) = some q.2 ∧ q.2 ≠ zU
  | [], _, _, h => by cases h
  | x :: l, k, q, h => by
    unfold zpr at h
    have tl : q ∈ zpr (k + 1) l → k ≤ q.1 ∧ znth (x :: l) (q.1 - k) = some q.2 ∧ q.2 ≠ zU := fun h => by
      obtain ⟨h1, h2, h3⟩ := zpr_out l (k + 1) q h
      refine ⟨by omega, ?_, h3⟩
      rw [show q.1 - k = (q.1 - (k + 1)) + 1 by omega]
      exact h2
    split at h
    · exact tl h
    next hx =>
      rcases List.mem_cons.mp h with h | h
      · subst h
        exact ⟨Nat.le_refl _, by simp [znth], hx⟩
      · exact tl h
theorem zset_len : ∀ (l : List Value) (i : Nat) (v : Value), (zset l i v).length = l.length
  | [], _, _ => rfl
  | _ :: _, 0, _ => rfl
  | _ :: l, i + 1, v => congrArg (· + 1) (zset_len l i v)
theorem zset_nth : ∀ (l : List Value) (i j : Nat) (v w : Value), znth (zset l i v) j = some w → (j = i ∧ w = v) ∨ (j ≠ i ∧ znth l j = some w)
  | [], _, _, _, _, h => by cases h
  | _ :: _, 0, 0, v, w, h => by cases h; exact Or.inl ⟨rfl, rfl⟩
  | _ :: l, 0, j + 1, v, w, h => Or.inr ⟨by omega, h⟩
  | _ :: l, i + 1, 0, v, w, h => Or.inr ⟨by omega, h⟩
  | _ :: l, i + 1, j + 1, v, w, h => by
    rcases zset_nth l i j v w h with ⟨h1, h2⟩ | ⟨h1, h2⟩
    · exact Or.inl ⟨by omega, h2⟩
    · exact Or.inr ⟨by omega, h2⟩
theorem zset_mem : ∀ (l : List Value) (i : Nat) (v w : Value), w ∈ zset l i v → w = v ∨ w ∈ l
  | [], _, _, _, h => by cases h
  | _ :: _, 0, v, w, h => by
    rcases List.mem_cons.mp h with h | h
    · exact Or.inl h
    · exact Or.inr (List.mem_cons_of_mem _ h)
  | x :: l, i + 1, v, w, h => by
    rcases List.mem_cons.mp h with h | h
    · exact Or.inr (by rw [h]; exact List.mem_cons_self)
    · rcases zset_mem l i v w h with h | h
      · exact Or.inl h
      · exact Or.inr (List.mem_cons_of_mem _ h)
theorem znth_mem : ∀ (l : List Value) (i : Nat) (v : Value), znth l i = some v → v ∈ l
  | [], _, _, h => by cases h
  | _ :: _, 0, _, h => by cases h; exact List.mem_cons_self
  | _ :: l, i + 1, v, h => List.mem_cons_of_mem _ (znth_mem l i v h)
theorem zL.at {n i : Nat} {ls : List Value} {lsr : Array Slot} {v : Value} (h : zL n ls lsr) (hv : znth ls i = some v) (hn : v ≠ zU) : lsr[i]? = some (.val v) := by
  have h1 := h.2.1.2.2 _ (zpr_in ls 0 i v hv hn)
  simpa using h1
/-- the list behind a store -/
theorem zL.set {n i : Nat} {ls : List Value} {lsr lsr' : Array Slot} {v : Value} (h : zL n ls lsr) (hc : v.category = 1) (hs : lv_has lsr' n ((i, v) :: (zpr 0 ls).filter (fun q => !(q.1 == i) && !(q.1 + 1 == i && q.2.category == 2)))) : zL n (zset ls i v) lsr' := by
  refine ⟨(zset_len ls i v).trans h.1, ⟨hs.1, hs.2.1, fun q hq => ?_⟩, fun w hw => ?_⟩
  · obtain ⟨-, h2, h3⟩ := zpr_out _ 0 q hq
    rw [Nat.sub_zero] at h2
    rcases zset_nth ls i q.1 v q.2 h2 with ⟨e1, e2⟩ | ⟨e1, e2⟩
    · have := hs.2.2 (i, v) List.mem_cons_self
      rw [e1, e2]
      exact this
    · refine hs.2.2 q (List.mem_cons_of_mem _ (List.mem_filter.mpr ⟨?_, ?_⟩))
      · have := zpr_in ls 0 q.1 q.2 e2 h3
        rwa [Nat.zero_add] at this
      · have hc2 := h.2.2 _ (znth_mem _ _ _ e2)
        simp [e1, hc2]
  · rcases zset_mem ls i v w hw with h1 | h1
    · rw [h1]; exact hc
    · exact h.2.2 w h1
/-- a local about which nothing more is said -/
theorem zL.drop {n i : Nat} {ls : List Value} {lsr lsr' : Array Slot} {v : Value} (h : zL n ls lsr) (hs : lv_has lsr' n ((i, v) :: (zpr 0 ls).filter (fun q => !(q.1 == i) && !(q.1 + 1 == i && q.2.category == 2)))) : zL n (zset ls i zU) lsr' := by
  refine ⟨(zset_len ls i zU).trans h.1, ⟨hs.1, hs.2.1, fun q hq => ?_⟩, fun w hw => ?_⟩
  · obtain ⟨-, h2, h3⟩ := zpr_out _ 0 q hq
    rw [Nat.sub_zero] at h2
    rcases zset_nth ls i q.1 zU q.2 h2 with ⟨e1, e2⟩ | ⟨e1, e2⟩
    · exact absurd e2 h3
    · refine hs.2.2 q (List.mem_cons_of_mem _ (List.mem_filter.mpr ⟨?_, ?_⟩))
      · have := zpr_in ls 0 q.1 q.2 e2 h3
        rwa [Nat.zero_add] at this
      · have hc2 := h.2.2 _ (znth_mem _ _ _ e2)
        simp [e1, hc2]
  · rcases zset_mem ls i zU w hw with h1 | h1
    · rw [h1]; rfl
    · exact h.2.2 w h1
/-! a frame's method: name, bytes, locals, what it returns, rank, table (none: it has none) -/
abbrev zI : Type := MethodName × ByteArray × Nat × Option FieldType × Nat × Option (List (Nat × Nat × Nat × Nat))
def zEx : Nat → String
  | 0 => "java/lang/IndexOutOfBoundsException"
  | 1 => "java/lang/IllegalArgumentException"
  | _ => "java/lang/IllegalStateException"
/-- none of the three exceptions is another one -/
def zNcs (U : State) : Prop := ∀ a b : Nat, a < 3 → b < 3 → a ≠ b → va_Nc (zEx a) (zEx b) U
theorem zNcs.moved {u U : State} (hvm : u.vm.Alike U.vm) (h : zNcs u) : zNcs U := fun a b ha hb hn => va_Nc.moved hvm (h a b ha hb hn)
/-- what is known of a state at which a method begins -/
def zCt (D : va_G) (cA : Nat → ClassId) (zb : Nat) (G : Nat × Nat) (U : State) : Prop := zb ≤ U.heap.size ∧ va_K D vwCl (zTy cA) U ∧ va_Z "java/util/ArrayList" "DEFAULTCAPACITY_EMPTY_ELEMENTDATA" "[Ljava/lang/Object;" (.ref G.1) (zA zb) U U.heap ∧
  vx_Zq Bundle.tN "UNASSIGNED_STACK" Bundle.steD (zA zb) U U.heap ∧ vx_Zq Bundle.tN "SUPPRESSED_SENTINEL" Bundle.listD (zA zb) U U.heap ∧ (va_Mi "[Ljava/lang/Object;" G.2 U ∧ zNcs U) ∧ zNw U
theorem zCt.next {D : va_G} {cA : Nat → ClassId} {zb : Nat} {G : Nat × Nat} {s U : State} {H : Heap} {locs : List Loc} (h : zCt D cA zb G s) (hS : va_S (zA zb) s.heap H locs) (hU : U.heap = H) (hW : s.WarmedH U.vm) : zCt D cA zb G U := by
  obtain ⟨h1, h2, h3, h4, h5, h6, h7⟩ := h
  have hq : ∀ a : Nat, a < s.heap.size → ¬ zA zb a → U.heap[a]? = s.heap[a]? := fun a ha hn => by rw [hU]; exact hS.2.1 a ha hn
  exact ⟨Nat.le_trans h1 (by rw [hU]; exact hS.1), va_K.moved hW.alike h2, va_Z.moved hW.alike (h3.kept hq), vx_Zq.moved hW.alike (h4.kept hq), vx_Zq.moved hW.alike (h5.kept hq), ⟨va_Mi.moved hW.alike h6.1, h6.2.moved hW.alike⟩, h7.warm hW⟩
theorem zCt.blind {D : va_G} {cA : Nat → ClassId} {zb : Nat} {G : Nat × Nat} {U U' : State} (h : zCt D cA zb G U) (hv : U.vm = U'.vm) (hh : U.heap = U'.heap) : zCt D cA zb G U' := by
  obtain ⟨h1, h2, h3, h4, h5, h6, h7⟩ := h
  have hvm : U.vm.Alike U'.vm := by rw [hv]; exact Vm.Alike.refl _
  exact ⟨by rw [← hh]; exact h1, va_K.moved hvm h2, va_Z.moved hvm (by rw [← hh]; exact h3), vx_Zq.moved hvm (by rw [← hh]; exact h4), vx_Zq.moved hvm (by rw [← hh]; exact h5), ⟨va_Mi.moved hvm h6.1, h6.2.moved hvm⟩, h7.same hv⟩
/-- a frame of method i -/
def zCx (l : Launch) (D : va_G) (cA : Nat → ClassId) (zb : Nat) (G : Nat × Nat) (i : zI) (p : Program) (R : Room) (s : State) (m : MethodId) (args : Array Value) (meth : Method) (c : Code) : Prop :=
  p.tables.exec = Jvm.exec ∧ c.code = i.2.1 ∧ meth.sig.returnType = i.2.2.2.1 ∧ c.maxLocals = i.2.2.1 ∧ s.vm.findClass i.1.cls = some m.cls ∧ (∀ w ∈ zT, w.before args s = true) ∧ meth.locks = false ∧ (i.1.name = "<init>" → meth.name = "<init>") ∧
  (match i.2.2.2.2.2 with
    | none => ∀ x ∈ c.exceptionTable.toList, False
    | some hh => hh = [] ∨ c.exceptionTable.toList = tableOf hh) ∧ i.2.2.2.2.1 ≤ R.frames ∧ 60 * i.2.2.2.2.1 ≤ R.locals ∧ l.stackTraces = false ∧ zCt D cA zb G s
/-- the return at pc gives v back -/
def zRt (i : zI) (pc : Nat) (v : Option Value) : Prop := match v with
  | none => decode i.2.1 pc = .ok (.return_, 1) ∧ i.2.2.2.1 = none
  | some (.int x) => decode i.2.1 pc = .ok (.ireturn, 1) ∧ ∃ ty : FieldType, i.2.2.2.1 = some ty ∧ narrow ty (.int x) = .int x
  | some v => decode i.2.1 pc = .ok (.areturn, 1) ∧ (∃ rt : FieldType, i.2.2.2.1 = some rt ∧ ((∃ n, rt = .object n) ∨ ∃ t, rt = .array t)) ∧ (v = .null ∨ ∃ a, v = .ref a)
/-- what is owed at a method's ends -/
def zEnd (l : Launch) (D : va_G) (cA : Nat → ClassId) (zb : Nat) (i : zI) (p : Program) (e : Env) (R : Room) (s : State) (m : MethodId) (args : Array Value) (below : List Frame) (meth : Method) (c : Code) (Q : State → Prop) (C S : Nat) (r : zO × zW) : Prop := match r.1 with
  | .inl v => ∀ (H : Heap) (locs : List Loc) (pc : Nat) (lsr : Array Slot), zSim D cA zb s r.2 H → va_S (zA zb) s.heap H locs → zRt i pc v → W p l e R s m args below meth c H locs C S Q (F0 m pc lsr v.toList)
  | .inr E => i.2.2.2.2.2 = none → ∀ (H : Heap) (locs : List Loc) (q : Addr) (ce : Cell) (pc : Nat) (lsr : Array Slot) (rest : List Value), zSim D cA zb s r.2 H → va_S (zA zb) s.heap H locs → H[q]? = some ce → ce.vm = .none → s.vm.findClass (zEx E) = some ce.cls → vx_W p l e R s m args below meth c H locs C S Q (F0 m pc lsr rest) q
/-- from pc on the method's frame does what the abstract machine says -/
def zQ (l : Launch) (D : va_G) (cA : Nat → ClassId) (zb : Nat) (G : Nat × Nat) (i : zI) (pc : Nat) (ls st : List Value) (w : zW) (r : zO × zW) : Prop :=
  w.1 ≤ r.2.1 ∧ w.2.1 ≤ r.2.2.1 ∧
  ∀ (p : Program) (e : Env) (R : Room) (s : State) (m : MethodId) (args : Array Value) (below : List Frame) (meth : Method) (c : Code), zCx l D cA zb G i p R s m args meth c →
    ∀ (H : Heap) (locs : List Loc) (cells slots C S : Nat) (Q : State → Prop) (lsr : Array Slot), zSim D cA zb s w H → zL i.2.2.1 ls lsr → va_S (zA zb) s.heap H locs → cells + (r.2.1 - w.1) = C → slots + (r.2.2.1 - w.2.1) = S → C ≤ R.cells → S ≤ R.slots →
      zEnd l D cA zb i p e R s m args below meth c Q C S r → W p l e R s m args below meth c H locs cells slots Q (F0 m pc lsr st)
section ZC
variable {l : Launch} {D : va_G} {cA : Nat → ClassId} {zb : Nat} {G : Nat × Nat} {i : zI} {pc nx : Nat} {ls ls' st st' : List Value} {w w' : zW} {r : zO × zW}
theorem zQ.move (h : zQ l D cA zb G i nx ls' st' w' r) (h1 : w.1 ≤ w'.1) (h2 : w.2.1 ≤ w'.2.1)
    (hs : ∀ (p : Program) (e : Env) (R : Room) (s : State) (m : MethodId) (args : Array Value) (below : List Frame) (meth : Method) (c : Code), zCx l D cA zb G i p R s m args meth c →
      ∀ (H : Heap) (locs : List Loc) (cells slots : Nat) (Q : State → Prop) (lsr : Array Slot), zSim D cA zb s w H → zL i.2.2.1 ls lsr → va_S (zA zb) s.heap H locs → cells + (w'.1 - w.1) ≤ R.cells → slots + (w'.2.1 - w.2.1) ≤ R.slots →
        (∀ (H1 : Heap) (locs1 : List Loc) (lsr1 : Array Slot), zSim D cA zb s w' H1 → zL i.2.2.1 ls' lsr1 → va_S (zA zb) s.heap H1 locs1 → W p l e R s m args below meth c H1 locs1 (cells + (w'.1 - w.1)) (slots + (w'.2.1 - w.2.1)) Q (F0 m nx lsr1 st')) →
        W p l e R s m args below meth c H locs cells slots Q (F0 m pc lsr st)) : zQ l D cA zb G i pc ls st w r := by
  obtain ⟨g1, g2, g3⟩ := h
  refine ⟨Nat.le_trans h1 g1, Nat.le_trans h2 g2, fun p e R s m args below meth c cx H locs cells slots C S Q lsr hsim hl hS hC hS2 hc hs2 hend => ?_⟩
  refine hs p e R s m args below meth c cx H locs cells slots Q lsr hsim hl hS (by omega) (by omega) fun H1 locs1 lsr1 k1 k2 k3 => ?_
  exact g3 p e R s m args below meth c cx H1 locs1 _ _ C S Q lsr1 k1 k2 k3 (by omega) (by omega) hc hs2 hend
theorem zQ.step (h : zQ l D cA zb G i nx ls' st' w r)
    (hs : ∀ (p : Program) (e : Env) (R : Room) (s : State) (m : MethodId) (args : Array Value) (below : List Frame) (meth : Method) (c : Code), zCx l D cA zb G i p R s m args meth c →
      ∀ (H : Heap) (locs : List Loc) (cells slots : Nat) (Q : State → Prop) (lsr : Array Slot), zSim D cA zb s w H → zL i.2.2.1 ls lsr → va_S (zA zb) s.heap H locs →
        (∀ (lsr1 : Array Slot), zL i.2.2.1 ls' lsr1 → W p l e R s m args below meth c H locs cells slots Q (F0 m nx lsr1 st')) →
        W p l e R s m args below meth c H locs cells slots Q (F0 m pc lsr st)) : zQ l D cA zb G i pc ls st w r := by
  refine zQ.move h (Nat.le_refl _) (Nat.le_refl _) fun p e R s m args below meth c cx H locs cells slots Q lsr hsim hl hS _ _ kk => ?_
  refine hs p e R s m args below meth c cx H locs cells slots Q lsr hsim hl hS fun lsr1 k2 => ?_
  have := kk H locs lsr1 hsim k2 hS
  rwa [Nat.sub_self, Nat.sub_self] at this
end ZC
