/-! THE CLAIM, 1: what is known at the law's entry -/
section ZV
variable {s : State} {b : Nat}
theorem z_D (hts : ∀ w ∈ zT, w.before #[Value.ref b] s = true) (hao : (Cond.arrayOver (.object "java/lang/Object")).before #[Value.ref b] s = true) : ∃ (D : va_G) (cA : Nat → ClassId), va_K D vwCl (zTy cA) s := by
  obtain ⟨c0, i0, k0⟩ := u_known (C := RJx4a65c) (T := TJx4a65c) (N := 3) hts hi_Jx4a65c (hts _ wd_62)
  obtain ⟨c1, i1, k1⟩ := u_known (C := RX0) (T := TX0) (N := 5) hts hi_X0 (hts _ wd_777)
  obtain ⟨c2, i2, k2⟩ := u_known (C := RX1) (T := TX1) (N := 5) hts hi_X1 (hts _ wd_421)
  obtain ⟨c3, i3, k3⟩ := u_known (C := RX2) (T := TX2) (N := 5) hts hi_X2 (hts _ wd_518)
  obtain ⟨c4, i4, k4⟩ := u_known (C := RX3) (T := TX3) (N := 4) hts hi_X3 (hts _ wd_140)
  obtain ⟨c5, i5, k5⟩ := u_known (C := RX4) (T := TX4) (N := 4) hts hi_X4 (hts _ wd_56)
  obtain ⟨c6, i6, k6⟩ := u_known (C := RX5) (T := TX5) (N := 5) hts hi_X5 (hts _ wd_115)
  obtain ⟨c7, i7, k7⟩ := u_known (C := RX6) (T := TX6) (N := 3) hts hi_X6 (hts _ wd_163)
  obtain ⟨c8, i8, k8⟩ := u_known (C := RX7) (T := TX7) (N := 5) hts hi_X7 (hts _ wd_725)
  obtain ⟨c9, i9, k9⟩ := u_known (C := RX8) (T := TX8) (N := 1) hts hi_X8 (hts _ wd_88)
  obtain ⟨c10, i10, k10⟩ := u_known (C := RX9) (T := TX9) (N := 8) hts hi_X9 (hts _ wd_787)
  obtain ⟨c11, i11, k11⟩ := u_known (C := RX10) (T := TX10) (N := 8) hts hi_X10 (hts _ wd_597)
  obtain ⟨c12, i12, k12⟩ := u_known (C := RX11) (T := TX11) (N := 8) hts hi_X11 (hts _ wd_48)
  obtain ⟨A0, kA0, p0, f0, g0, h0⟩ := Cond.arrayClass_spec (hts _ wd_97)
  obtain ⟨p3, A3, kA3, f3, -, g3, h3, e3⟩ := Cond.arrayOver_spec hao
  refine ⟨(fun k => [c0, c1, c2, c3, c4, c5, c6, c7, c8, c9, c10, c11, c12].getD k c0, fun k => [i0, i1, i2, i3, i4, i5, i6, i7, i8, i9, i10, i11, i12].getD k i0), fun k => [A0, A0, A0, A3].getD k A0, fun k q hq => ?_, fun k q hq => ?_⟩
  · match k, hq with
    | 0, hq => cases hq; exact k0
    | 1, hq => cases hq; exact k1
    | 2, hq => cases hq; exact k2
    | 3, hq => cases hq; exact k3
    | 4, hq => cases hq; exact k4
    | 5, hq => cases hq; exact k5
    | 6, hq => cases hq; exact k6
    | 7, hq => cases hq; exact k7
    | 8, hq => cases hq; exact k8
    | 9, hq => cases hq; exact k9
    | 10, hq => cases hq; exact k10
    | 11, hq => cases hq; exact k11
    | 12, hq => cases hq; exact k12
    | k + 13, hq => cases hq
  · match k, hq with
    | 0, hq => cases hq; exact ⟨fun n z => ⟨fun k h => (by cases h), kA0, g0, p0, h0⟩, f0⟩
    | 1, hq => cases hq; exact ⟨fun n z => ⟨fun k h => (by cases h), kA0, g0, p0, h0⟩, f0⟩
    | 2, hq => cases hq; exact ⟨fun n z => ⟨fun k h => (by cases h), kA0, g0, p0, h0⟩, f0⟩
    | 3, hq => cases hq; exact ⟨fun n z => ⟨fun k h => (by cases h), kA3, g3, p3, h3⟩, kA3, p3, g3, h3, f3, e3⟩
    | k + 4, hq => cases hq
theorem z_Ct (hts : ∀ w ∈ lw_tbl, w.before #[Value.ref b] s = true) (hgv : (Jvm.Cond.and given_1 narrow_1).before #[Value.ref b] s = true) : ∃ (D : va_G) (cA : Nat → ClassId) (G : Nat × Nat), zCt D cA s.heap.size G s ∧ va_T (.object "java/lang/Object") G.1 0 (fun j => va_rf ((fun _ => none : Nat → Option Nat) j)) (zA s.heap.size) s s.heap := by
  have hz : ∀ w ∈ zT, w.before #[Value.ref b] s = true := fun w hw => hts w (zT_tbl hw)
  have hn : ∀ w ∈ zN, w.before #[Value.ref b] s = true := fun w hw => hts w (List.mem_filter.mp hw).1
  have hg := flat_of_before _ hgv
  have hA : ∀ a : Nat, a < s.heap.size → ¬zA s.heap.size a := fun a h => Nat.not_le.mpr h
  obtain ⟨D, cA, hK⟩ := z_D hz (hn _ wn_501)
  have hlen := va_eqt (hg (.eq (.length (.static "java/util/ArrayList" "DEFAULTCAPACITY_EMPTY_ELEMENTDATA" "[Ljava/lang/Object;")) (.int 0)) (by decide +kernel))
  obtain ⟨t, ht, hT⟩ := va_Tof (N := 0) (f := fun j => va_rf ((fun _ => none : Nat → Option Nat) j)) (by decide) (hg (.arrayOf (.static "java/util/ArrayList" "DEFAULTCAPACITY_EMPTY_ELEMENTDATA" "[Ljava/lang/Object;") (.object "java/lang/Object")) (by decide +kernel)) hlen (fun j hj => absurd hj (Nat.not_lt_zero j)) hA
  obtain ⟨mi, hmi⟩ := va_Mi.of (hg (.isRef (.mirror "[Ljava/lang/Object;")) (by decide +kernel))
  refine ⟨D, cA, (t, mi), ⟨Nat.le_refl _, hK, va_Zref (hts _ (by decide +kernel)) (hts _ (by decide +kernel)) ht hA, vx_Zqof (hts _ (by decide +kernel)) (hts _ (by decide +kernel)) (hg _ (by decide +kernel)) hA, vx_Zqof (hts _ (by decide +kernel)) (hts _ (by decide +kernel)) (hg _ (by decide +kernel)) hA, ⟨hmi, ?_⟩, ?_⟩, hT⟩
  · intro x y hx hy hxy
    have h01 := va_Nc.of (hg (.not (.castable "java/lang/IndexOutOfBoundsException" "java/lang/IllegalArgumentException")) (by decide +kernel))
    have h02 := va_Nc.of (hg (.not (.castable "java/lang/IndexOutOfBoundsException" "java/lang/IllegalStateException")) (by decide +kernel))
    have h10 := va_Nc.of (hg (.not (.castable "java/lang/IllegalArgumentException" "java/lang/IndexOutOfBoundsException")) (by decide +kernel))
    have h12 := va_Nc.of (hg (.not (.castable "java/lang/IllegalArgumentException" "java/lang/IllegalStateException")) (by decide +kernel))
    have h20 := va_Nc.of (hg (.not (.castable "java/lang/IllegalStateException" "java/lang/IndexOutOfBoundsException")) (by decide +kernel))
    have h21 := va_Nc.of (hg (.not (.castable "java/lang/IllegalStateException" "java/lang/IllegalArgumentException")) (by decide +kernel))
    have hx' : x = 0 ∨ x = 1 ∨ x = 2 := by omega
    have hy' : y = 0 ∨ y = 1 ∨ y = 2 := by omega
    rcases hx' with rfl | rfl | rfl <;> rcases hy' with rfl | rfl | rfl
    · exact absurd rfl hxy
    · exact h01
    · exact h02
    · exact h10
    · exact absurd rfl hxy
    · exact h12
    · exact h20
    · exact h21
    · exact absurd rfl hxy
  · intro w hw
    have h1 := hn w hw
    have hk := (List.mem_filter.mp hw).2
    cases w with
    | castable a b => exact va_Nw.of rfl h1
    | declares x => exact va_Nw.of rfl h1
    | methodLinkNest a b c d => exact va_Nw.of rfl h1
    | arrayOver t =>
      cases t with
      | object C => exact va_AO.of h1
      | _ => cases hk
    | _ => cases hk
end ZV
