/-! THE TWO SIDES, 12: a list takes one more -/
theorem up_s {M : Nat → Option zE} {a : Nat} {e : zE} : zup M a e a = some e := if_pos rfl
theorem up_n {M : Nat → Option zE} {a b : Nat} {e : zE} (h : b ≠ a) : zup M a e b = M b := if_neg h
theorem up_up {M : Nat → Option zE} {a : Nat} {e e' : zE} : zup (zup M a e) a e' = zup M a e' := by
  funext b
  unfold zup
  split <;> rfl
theorem up_cm {M : Nat → Option zE} {a b : Nat} {e e' : zE} (h : a ≠ b) : zup (zup M a e) b e' = zup (zup M b e') a e := by
  funext c
  unfold zup
  by_cases h1 : c = b
  · rw [if_pos h1, if_neg (fun q => h (q.symm.trans h1)), if_pos h1]
  · rw [if_neg h1]
    split
    · rfl
    · rfl
section ZR
variable {W : zW} {G : Nat × Nat} {a b d e ci j : Nat} {fs : List Value}
theorem x_ob (h : W.2.2 a = some (zEo ci fs)) : zob ci W a = some fs := by
  unfold zob
  rw [h]
  exact if_pos rfl
theorem x_gI {x : Int32} (h : W.2.2 a = some (zEo ci fs)) (hj : znth fs j = some (.int x)) : zgI ci j W a = some x := by
  unfold zgI
  rw [x_ob h]
  show (match znth fs j with | some (.int x) => some x | _ => none) = _
  rw [hj]
theorem x_gR {x : Nat} (h : W.2.2 a = some (zEo ci fs)) (hj : znth fs j = some (.ref x)) : zgR ci j W a = some x := by
  unfold zgR
  rw [x_ob h]
  show (match znth fs j with | some (.ref x) => some x | _ => none) = _
  rw [hj]
theorem x_pt {v : Value} {fs' : List Value} (h : W.2.2 a = some (zEo ci fs)) (hz : zset fs j v = fs') (hj : Nat.blt j fs.length = true) : zpt ci j W a v = some (W.1, W.2.1, zup W.2.2 a (zEo ci fs')) := by
  subst hz
  unfold zpt
  rw [x_ob h]
  exact if_pos (Nat.le_of_ble_eq_true hj)
theorem x_ck {o : zR} (h : W.2.2 a = some (zEo ci fs)) : zck ci W a o = o := by
  unfold zck
  rw [x_ob h]
theorem x_len {k n : Nat} {f : Nat → Option Nat} (h : W.2.2 a = some (zEq k n f)) : zlen W a = some (zJ n) := by
  unfold zlen
  rw [h]
  exact congrArg some (zJ_ofNat n)
theorem x_stq {k : Nat} {i : Int} {f : Nat → Option Nat} {v : Nat} (h : W.2.2 a = some (zEq 3 k f)) (hi : 0 ≤ i) (hl : i < k) (hk : k ≤ 2000) : zstq W a (zJ i) v = some (W.1, W.2.1, zup W.2.2 a (zEq 3 k (va_up f i.toNat (some v)))) := by
  unfold zstq
  rw [h]
  show (if zoff (zJ i) k ∨ 3 ≠ 3 then none else some (W.1, W.2.1, zup W.2.2 a (zEq 3 k (va_up f (zJ i).toNatClampNeg (some v))))) = _
  rw [if_neg (fun q => q.elim (zoff_not hi hl hk) (fun g => g rfl)), zJ_clamp hi (by omega)]
theorem x_io {x : zE} {n s : Nat} (h : zio W e = true) (hb : b ≠ e) : zio (n, s, zup W.2.2 b x) e = true := by
  unfold zio at h ⊢
  show (match zup W.2.2 b x e with | some (.inr (.inr (.inr (c, _)))) => Nat.blt c 14 | _ => false) = true
  rw [up_n (Ne.symm hb)]
  exact h
theorem x_ioo {n s c : Nat} {l : List Value} (h : zio W e = true) (hc : Nat.blt c 14 = true) : zio (n, s, zup W.2.2 b (zEo c l)) e = true := by
  by_cases hb : b = e
  · subst hb
    unfold zio
    show (match zup W.2.2 b (zEo c l) b with | some (.inr (.inr (.inr (c, _)))) => Nat.blt c 14 | _ => false) = true
    rw [up_s]
    exact hc
  · exact x_io h hb
/-- the last steps of add -/
theorem x_add11 {md : Int32} {sz : Int} {cap : Nat} {f : Nat → Option Nat} (ha : W.2.2 a = some (zEo 0 [.int md, .ref d, .int (zJ sz)])) (hd : W.2.2 d = some (zEq 3 cap f)) (he : zio W e = true) (h0 : 0 ≤ sz) (h1 : sz < cap) (h2 : cap ≤ 1000) : ev_ G 26 11 [.ref a, .ref e, .ref d, .int (zJ sz)] [] W = some (.inl none, (W.1, W.2.1, zup (zup W.2.2 d (zEq 3 cap (va_up f sz.toNat (some e)))) a (zEo 0 [.int md, .ref d, .int (zJ (sz + 1))]))) := by
  have hda : a ≠ d := by
    rintro rfl
    rw [ha] at hd
    cases hd
  have ha' : ((W.1, W.2.1, zup W.2.2 d (zEq 3 cap (va_up f sz.toNat (some e)))) : zW).2.2 a = some (zEo 0 [.int md, .ref d, .int (zJ sz)]) := (up_n hda).trans ha
  rw [q_Jx4a65c_add_72be8_11, x_stq hd h0 h1 (by omega), l_1, zJ_add]
  unfold zany
  rw [he]
  show ((zpt 0 2 _ a _).bind _) = _
  rw [x_pt ha' rfl rfl]
  rfl
/-- room is left -/
theorem x_add0 {md : Int32} {sz : Int} {cap : Nat} {f : Nat → Option Nat} (ha : W.2.2 a = some (zEo 0 [.int md, .ref d, .int (zJ sz)])) (hd : W.2.2 d = some (zEq 3 cap f)) (he : zio W e = true) (h0 : 0 ≤ sz) (h1 : sz < cap) (h2 : cap ≤ 1000) : ev_ G 27 0 [.ref a, .ref e] [] W = some (.inl (some (.int 1)), (W.1, W.2.1, zup (zup W.2.2 d (zEq 3 cap (va_up f sz.toNat (some e)))) a (zEo 0 [.int (md + 1), .ref d, .int (zJ (sz + 1))]))) := by
  have hda : a ≠ d := by
    rintro rfl
    rw [ha] at hd
    cases hd
  have ha1 : ((W.1, W.2.1, zup W.2.2 a (zEo 0 [.int (md + 1), .ref d, .int (zJ sz)])) : zW).2.2 a = some (zEo 0 [.int (md + 1), .ref d, .int (zJ sz)]) := up_s
  have hd1 : ((W.1, W.2.1, zup W.2.2 a (zEo 0 [.int (md + 1), .ref d, .int (zJ sz)])) : zW).2.2 d = some (zEq 3 cap f) := (up_n (Ne.symm hda)).trans hd
  have he1 := x_ioo (n := W.1) (s := W.2.1) (b := a) (l := [.int (md + 1), .ref d, .int (zJ sz)]) he (show Nat.blt 0 14 = true from rfl)
  rw [q_Jx4a65c_add_9ea2d_0, x_gI ha rfl, t_b, x_pt (fs' := [.int (md + 1), .ref d, .int (zJ sz)]) ha rfl rfl, t_b, x_gR ha1 rfl, t_b, x_gI ha1 rfl, t_b, x_ck ha1, q_Jx4a65c_add_72be8_0, x_len hd1, t_b]
  have hne : ¬zJ sz = zJ cap := by
    rw [zJ_eq (by omega) (by omega) (by omega) (by omega)]
    omega
  rw [if_neg hne, x_add11 ha1 hd1 he1 h0 h1 h2, t_V, t_1]
  show some (_, (W.1, W.2.1, zup (zup (zup W.2.2 a _) d _) a _)) = _
  rw [up_cm hda, up_up]
theorem x_cpy {ns nd : Nat} {f g : Nat → Option Nat} {m : Nat} (hs : W.2.2 a = some (zEq 3 ns f)) (hd : W.2.2 d = some (zEq 3 nd g)) (hn : a ≠ d) (h0 : m ≤ ns) (h1 : m ≤ nd) (hm : m ≤ 1000) (hf : ∀ j y, j < m → f j = some y → zio W y = true) : zcpy W a (zJ 0) d (zJ 0) (zJ (m : Int)) = some (W.1, W.2.1, zup W.2.2 d (zEq 3 nd (va_cpy f g 0 0 m))) := by
  have e0 : (zJ 0).toNatClampNeg = 0 := by rw [zJ_clamp (by omega) (by omega)]; rfl
  have em : (zJ (m : Int)).toNatClampNeg = m := by rw [zJ_clamp (by omega) (by omega)]; rfl
  have hneg : ¬(zJ (m : Int) < 0) := by
    intro h
    rw [l_0, zJ_lt (by omega) (by omega) (by omega) (by omega)] at h
    omega
  have hany : ((List.range m).any (fun j => match f (0 + j) with | some y => !zio W y | none => false)) = false := by
    rw [List.any_eq_false]
    intro j hj
    rw [List.mem_range] at hj
    rw [Nat.zero_add]
    cases hfj : f j with
    | none => exact Bool.false_ne_true
    | some y =>
      show ¬((!zio W y) = true)
      rw [hf j y hj hfj]
      exact Bool.false_ne_true
  unfold zcpy
  rw [hs, hd]
  simp only [e0, em, Nat.zero_add]
  rw [if_neg]
  rintro (h | (h | h) | h | h | h | h | h | h)
  · exact hn h
  · exact h rfl
  · exact h rfl
  · exact absurd h (by decide)
  · exact absurd h (by decide)
  · exact hneg h
  · omega
  · omega
  · simp only [Nat.zero_add] at hany
    exact absurd (h.symm.trans hany) (by decide)
/-- copyOf of a row of references -/
theorem x_copyOf {cap : Nat} {f : Nat → Option Nat} {m : Int} (hd : W.2.2 d = some (zEq 3 cap f)) (hn : W.1 ≠ d) (h0 : (cap : Int) ≤ m) (h1 : m ≤ 1000) (hf : ∀ j y, j < cap → f j = some y → y ≠ W.1 ∧ zio W y = true) : ev_ G 23 0 [.ref d, .int (zJ m)] [] W = some (.inl (some (.ref W.1)), (W.1 + 1, W.2.1 + m.toNat, zup W.2.2 W.1 (zEq 3 m.toNat (fun j => if j < cap then f j else none)))) := by
  have hb : ¬zbad (zJ m) := by
    rintro (h | h)
    · rw [l_0, zJ_lt (by omega) (by omega) (by omega) (by omega)] at h
      omega
    · rw [zJ_clamp (by omega) (by omega)] at h
      omega
  have hq : znaq (zJ m) W = (W.1 + 1, W.2.1 + m.toNat, zup W.2.2 W.1 (zEq 3 m.toNat (fun _ => none))) := by
    unfold znaq
    rw [zJ_clamp (by omega) (by omega)]
  have hd1 : ((W.1 + 1, W.2.1 + m.toNat, zup W.2.2 W.1 (zEq 3 m.toNat (fun _ => none))) : zW).2.2 d = some (zEq 3 cap f) := (up_n (Ne.symm hn)).trans hd
  have hn1 : ((W.1 + 1, W.2.1 + m.toNat, zup W.2.2 W.1 (zEq 3 m.toNat (fun _ => none))) : zW).2.2 W.1 = some (zEq 3 m.toNat (fun _ => none)) := up_s
  rw [q_J7_copyOf_1904c_0]
  unfold zckq
  rw [hd]
  show (if 3 = 3 then zthR (ev_ G 22 0 [.ref d, .int (zJ m), .ref G.2, zU] [] W) _ _ else none) = _
  rw [if_pos rfl, q_J7_copyOf_6403c_0, if_pos rfl, if_neg hb, hq, x_len hd1, t_b, c_min (by omega) (by omega) (by omega) (by omega), t_I, l_0, show min (cap : Int) m = cap by omega]
  have hc := x_cpy (W := (W.1 + 1, W.2.1 + m.toNat, zup W.2.2 W.1 (zEq 3 m.toNat (fun _ => none)))) hd1 hn1 (Ne.symm hn) (Nat.le_refl cap) (by omega) (by omega) (fun j y hj hy => x_io (hf j y hj hy).2 (Ne.symm (hf j y hj hy).1))
  rw [hc]
  show some (_, (_, _, zup (zup W.2.2 W.1 _) W.1 _)) = _
  rw [up_up]
  have : va_cpy f (fun _ => none) 0 0 cap = (fun j => if j < cap then f j else none) := by
    funext j
    unfold va_cpy
    by_cases h : j < cap
    · rw [if_pos ⟨Nat.zero_le _, by omega⟩, if_pos h]
      congr 1
      omega
    · rw [if_neg (by omega), if_neg h]
  rw [this]
theorem z_sh : ∀ c : Fin 512, zJ ((c.val : Nat) : Int) >>> ((1 : Int32) &&& 31) = zJ (((c.val / 2 : Nat)) : Int) := by decide +kernel
theorem x_newLength {cap : Nat} {W : zW} (h : 0 < cap) (h' : cap ≤ 500) : ev_ G 20 0 [.int (zJ cap), .int (zJ 1), .int (zJ ((cap / 2 : Nat) : Int)), zU] [] W = some (.inl (some (.int (zJ ((cap + max 1 (cap / 2) : Nat) : Int)))), W) := by
  rw [q_J8_newLength_cabcc_0, c_max (by omega) (by omega) (by omega) (by omega), t_I, zJ_add, l_0, show (2147483639 : Int32) = zJ 2147483639 from rfl]
  have e : (cap : Int) + max 1 ((cap / 2 : Nat) : Int) = ((cap + max 1 (cap / 2) : Nat) : Int) := by omega
  rw [e]
  have h1 : ¬(zJ ((cap + max 1 (cap / 2) : Nat) : Int) ≤ zJ 0) := by
    rw [zJ_le (by omega) (by omega) (by omega) (by omega)]
    omega
  have h2 : ¬(zJ 2147483639 < zJ ((cap + max 1 (cap / 2) : Nat) : Int)) := by
    rw [zJ_lt (by omega) (by omega) (by omega) (by omega)]
    omega
  rw [if_neg h1, if_neg h2]
/-- the row is full, or there is none yet: a new one is made -/
theorem x_add1 {md : Int32} {sz : Int} {cap k : Nat} {f : Nat → Option Nat} (ha : W.2.2 a = some (zEo 0 [.int md, .ref d, .int (zJ sz)])) (hd : W.2.2 d = some (zEq k cap f)) (hk : (cap = 0 ∧ d = G.1 ∧ sz = 0) ∨ (0 < cap ∧ k = 3)) (he : zio W e = true) (hen : e ≠ W.1) (han : a ≠ W.1) (hdn : d ≠ W.1) (h1 : sz = cap) (h2 : cap ≤ 500) (hf : ∀ j y, j < cap → f j = some y → y ≠ W.1 ∧ zio W y = true) : ev_ G 27 0 [.ref a, .ref e] [] W = some (.inl (some (.int 1)), (W.1 + 1, W.2.1 + (if cap = 0 then 10 else cap + max 1 (cap / 2)), zup (zup W.2.2 W.1 (zEq 3 (if cap = 0 then 10 else cap + max 1 (cap / 2)) (va_up (fun j => if j < cap then f j else none) cap (some e)))) a (zEo 0 [.int (md + 1), .ref W.1, .int (zJ (sz + 1))]))) := by
  have hda : a ≠ d := by
    rintro rfl
    rw [ha] at hd
    cases hd
  have ha1 : ((W.1, W.2.1, zup W.2.2 a (zEo 0 [.int (md + 1), .ref d, .int (zJ sz)])) : zW).2.2 a = some (zEo 0 [.int (md + 1), .ref d, .int (zJ sz)]) := up_s
  have hd1 : ((W.1, W.2.1, zup W.2.2 a (zEo 0 [.int (md + 1), .ref d, .int (zJ sz)])) : zW).2.2 d = some (zEq k cap f) := (up_n (Ne.symm hda)).trans hd
  rw [q_Jx4a65c_add_9ea2d_0, x_gI ha rfl, t_b, x_pt (fs' := [.int (md + 1), .ref d, .int (zJ sz)]) ha rfl rfl, t_b, x_gR ha1 rfl, t_b, x_gI ha1 rfl, t_b, x_ck ha1, q_Jx4a65c_add_72be8_0, x_len hd1, t_b, h1, if_pos rfl]
  subst h1
  generalize md + 1 = md1 at ha1 hd1 ⊢
  -- the new row
  have hg : ∃ m : Nat, m = (if cap = 0 then 10 else cap + max 1 (cap / 2)) ∧ ev_ G 25 0 [.ref a] [] (W.1, W.2.1, zup W.2.2 a (zEo 0 [.int md1, .ref d, .int (zJ cap)])) = some (.inl (some (.ref W.1)), (W.1 + 1, W.2.1 + m, zup (zup W.2.2 W.1 (zEq 3 m (fun j => if j < cap then f j else none))) a (zEo 0 [.int md1, .ref W.1, .int (zJ cap)]))) := by
    rw [q_Jx4a65c_grow_d5877_0, x_gI ha1 rfl, t_b, l_1, zJ_add, x_ck ha1, q_Jx4a65c_grow_92f84_0, x_gR ha1 rfl, t_b, x_len hd1, t_b]
    rcases hk with ⟨hc, hdg, -⟩ | ⟨hc, hk3⟩
    · subst hc
      refine ⟨10, rfl, ?_⟩
      have hb : ¬zbad (zJ 10) := by
        rintro (h | h)
        · exact absurd h (by decide)
        · exact absurd h (by decide)
      have hq : znaq (zJ 10) (W.1, W.2.1, zup W.2.2 a (zEo 0 [.int md1, .ref d, .int (zJ ((0 : Nat) : Int))])) = (W.1 + 1, W.2.1 + 10, zup (zup W.2.2 a (zEo 0 [.int md1, .ref d, .int (zJ ((0 : Nat) : Int))])) W.1 (zEq 3 10 (fun _ => none))) := rfl
      have ha3 : ((W.1 + 1, W.2.1 + 10, zup (zup W.2.2 a (zEo 0 [.int md1, .ref d, .int (zJ ((0 : Nat) : Int))])) W.1 (zEq 3 10 (fun _ => none))) : zW).2.2 a = some (zEo 0 [.int md1, .ref d, .int (zJ ((0 : Nat) : Int))]) := (up_n han).trans up_s
      rw [if_neg (by decide), t_b, if_pos hdg, show (10 : Int32) = zJ 10 from rfl, c_max (by omega) (by omega) (by omega) (by omega), t_I, show max (10 : Int) (((0 : Nat) : Int) + 1) = 10 from rfl, if_neg hb, hq, x_pt (fs' := [.int md1, .ref W.1, .int (zJ ((0 : Nat) : Int))]) ha3 rfl rfl, t_b, t_R]
      show some (_, (_, _, zup (zup (zup W.2.2 a _) W.1 _) a _)) = _
      rw [up_cm han, up_up]
      have : (fun _ => none : Nat → Option Nat) = (fun j => if j < 0 then f j else none) := by
        funext j
        rw [if_neg (by omega)]
      rw [this]
    · subst hk3
      have hp : (0 : Int32) < zJ (cap : Int) := by
        rw [l_0, zJ_lt (by omega) (by omega) (by omega) (by omega)]
        omega
      have hs := z_sh ⟨cap, by omega⟩
      dsimp only at hs
      have e1 : (cap : Int) + 1 - cap = 1 := by omega
      refine ⟨cap + max 1 (cap / 2), (if_neg (by omega)).symm, ?_⟩
      have hc2 := x_copyOf (G := G) (W := (W.1, W.2.1, zup W.2.2 a (zEo 0 [.int md1, .ref d, .int (zJ cap)]))) (m := ((cap + max 1 (cap / 2) : Nat) : Int)) hd1 (Ne.symm hdn) (by omega) (by omega) (fun j y hj hy => ⟨(hf j y hj hy).1, x_ioo (hf j y hj hy).2 rfl⟩)
      rw [if_pos hp, q_Jx4a65c_grow_92f84_20, hs, zJ_sub, e1, x_newLength hc h2, t_I, x_gR ha1 rfl, t_b, hc2, t_R, Int.toNat_natCast]
      have ha3 : ((W.1 + 1, W.2.1 + (cap + max 1 (cap / 2)), zup (zup W.2.2 a (zEo 0 [.int md1, .ref d, .int (zJ cap)])) W.1 (zEq 3 (cap + max 1 (cap / 2)) (fun j => if j < cap then f j else none))) : zW).2.2 a = some (zEo 0 [.int md1, .ref d, .int (zJ cap)]) := (up_n han).trans up_s
      rw [x_pt (fs' := [.int md1, .ref W.1, .int (zJ cap)]) ha3 rfl rfl, t_b, t_R]
      show some (_, (_, _, zup (zup (zup W.2.2 a _) W.1 _) a _)) = _
      rw [up_cm han, up_up]
  obtain ⟨m, hm, hg⟩ := hg
  rw [← hm]
  have hm2 : cap < m ∧ m ≤ 1000 := by
    rw [hm]
    split <;> omega
  have ha2 : ((W.1 + 1, W.2.1 + m, zup (zup W.2.2 W.1 (zEq 3 m (fun j => if j < cap then f j else none))) a (zEo 0 [.int md1, .ref W.1, .int (zJ cap)])) : zW).2.2 a = some (zEo 0 [.int md1, .ref W.1, .int (zJ cap)]) := up_s
  have hd2 : ((W.1 + 1, W.2.1 + m, zup (zup W.2.2 W.1 (zEq 3 m (fun j => if j < cap then f j else none))) a (zEo 0 [.int md1, .ref W.1, .int (zJ cap)])) : zW).2.2 W.1 = some (zEq 3 m (fun j => if j < cap then f j else none)) := (up_n (Ne.symm han)).trans up_s
  have he2 : zio (W.1 + 1, W.2.1 + m, zup (zup W.2.2 W.1 (zEq 3 m (fun j => if j < cap then f j else none))) a (zEo 0 [.int md1, .ref W.1, .int (zJ cap)])) e = true := x_ioo (W := (W.1 + 1, W.2.1 + m, zup W.2.2 W.1 (zEq 3 m (fun j => if j < cap then f j else none)))) (x_io he (Ne.symm hen)) rfl
  rw [x_ck ha1, hg, t_R, x_add11 ha2 hd2 he2 (by omega) (by omega) hm2.2, t_V, t_1]
  show some (_, (_, _, zup (zup (zup (zup W.2.2 W.1 _) a _) W.1 _) a _)) = _
  rw [up_cm han, up_up, up_up]
  rfl
end ZR
