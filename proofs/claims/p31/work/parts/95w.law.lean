/-! THE LAW, 1: its numbers beside the others -/
theorem l_11 : (11 : Int32) = zJ 11 := rfl
theorem l_13 : (13 : Int32) = zJ 13 := rfl
theorem l_14 : (14 : Int32) = zJ 14 := rfl
theorem l_15 : (15 : Int32) = zJ 15 := rfl
theorem l_17 : (17 : Int32) = zJ 17 := rfl
theorem l_18 : (18 : Int32) = zJ 18 := rfl
theorem l_19 : (19 : Int32) = zJ 19 := rfl
theorem l_20 : (20 : Int32) = zJ 20 := rfl
theorem l_21 : (21 : Int32) = zJ 21 := rfl
theorem l_22 : (22 : Int32) = zJ 22 := rfl
theorem l_23 : (23 : Int32) = zJ 23 := rfl
theorem l_25 : (25 : Int32) = zJ 25 := rfl
theorem l_26 : (26 : Int32) = zJ 26 := rfl
theorem l_28 : (28 : Int32) = zJ 28 := rfl
theorem l_30 : (30 : Int32) = zJ 30 := rfl
theorem l_34 : (34 : Int32) = zJ 34 := rfl
theorem l_38 : (38 : Int32) = zJ 38 := rfl
theorem l_42 : (42 : Int32) = zJ 42 := rfl
theorem l_44 : (44 : Int32) = zJ 44 := rfl
theorem l_54 : (54 : Int32) = zJ 54 := rfl
theorem l_60 : (60 : Int32) = zJ 60 := rfl
theorem l_64 : (64 : Int32) = zJ 64 := rfl
theorem l_81 : (81 : Int32) = zJ 81 := rfl
theorem l_90 : (90 : Int32) = zJ 90 := rfl
theorem l_101 : (101 : Int32) = zJ 101 := rfl
theorem l_103 : (103 : Int32) = zJ 103 := rfl
theorem l_110 : (110 : Int32) = zJ 110 := rfl
theorem l_120 : (120 : Int32) = zJ 120 := rfl
theorem l_128 : (128 : Int32) = zJ 128 := rfl
theorem l_140 : (140 : Int32) = zJ 140 := rfl
theorem l_256 : (256 : Int32) = zJ 256 := rfl
theorem l_401 : (401 : Int32) = zJ 401 := rfl
theorem l_403 : (403 : Int32) = zJ 403 := rfl
theorem l_450 : (450 : Int32) = zJ 450 := rfl
theorem l_512 : (512 : Int32) = zJ 512 := rfl
theorem l_853 : (853 : Int32) = zJ 853 := rfl
theorem l_983 : (983 : Int32) = zJ 983 := rfl
theorem l_1000 : (1000 : Int32) = zJ 1000 := rfl
theorem l_1001 : (1001 : Int32) = zJ 1001 := rfl
theorem l_2048 : (2048 : Int32) = zJ 2048 := rfl
theorem l_3000000 : (3000000 : Int32) = zJ 3000000 := rfl
theorem l_2000000 : (2000000 : Int32) = zJ 2000000 := rfl
theorem l_4096 : (4096 : Int32) = zJ 4096 := rfl
theorem l_5001 : (5001 : Int32) = zJ 5001 := rfl
theorem l_5002 : (5002 : Int32) = zJ 5002 := rfl
theorem l_10000 : (10000 : Int32) = zJ 10000 := rfl
theorem l_10001 : (10001 : Int32) = zJ 10001 := rfl
theorem l_32767 : (32767 : Int32) = zJ 32767 := rfl
theorem l_32768 : (32768 : Int32) = zJ 32768 := rfl
theorem l_60000 : (60000 : Int32) = zJ 60000 := rfl
theorem l_2147483647 : (2147483647 : Int32) = zJ 2147483647 := rfl
theorem zJ_dv {a b : Int} (h : 0 ≤ a) (h' : a < 2147483648) (hb : 0 < b) (hb' : b < 2147483648) : zJ a / zJ b = zJ (a / b) := by
  rw [zJ_div (by omega) h' hb hb', ztd_e hb, if_pos h]
theorem zem {a b : Int} : a - a / b * b = a % b := by rw [Int.emod_def, Int.mul_comm]
theorem t_z0 : zJ 0 &&& zJ 1 = zJ 0 := by decide
theorem t_z1 : zJ 1 &&& zJ 1 = zJ 1 := by decide
theorem t_00 {α : Type} {a b : α} {d : Decidable (zJ 0 &&& zJ 1 = zJ 0)} : @ite α (zJ 0 &&& zJ 1 = zJ 0) d a b = a := if_pos t_z0
theorem t_11 {α : Type} {a b : α} {d : Decidable (zJ 1 &&& zJ 1 = zJ 1)} : @ite α (zJ 1 &&& zJ 1 = zJ 1) d a b = a := if_pos t_z1
section ZL
variable {Y : zLy} {n s : Nat} {X : zX} {G : Nat × Nat} {X' : zX} {t : Int} {Q : zQs}
theorem all_l {F : List Int} (hF : F.all (fun f => decide (f < 1100)) = true) (g : ∀ f, f < 1100 → X' f = X f) : ∀ f ∈ F, X' f = X f := fun f hf => g f (of_decide_eq_true (List.all_eq_true.mp hF f hf))
/-- the law's own numbers have no part in what ties the others -/
theorem iAll_l (g : ∀ f, f < 1100 → X' f = X f) (hn : Q 0 2 ≤ 24) (hn4 : Q 0 4 ≤ 12) (h : iAll t Q X) : iAll t Q X' := by
  obtain ⟨h1, h2, h3, h4, h5, h6, h7, h8, h9, h10, h11, h12⟩ := h
  exact ⟨iB_c h1 (all_l (by decide) g) rfl, iC_c h2 (all_l (by decide) g) rfl, iT_c h3 (all_l (by decide) g) rfl, iW_c h4 (all_l (by decide) g) (fun _ _ _ => rfl) hn, iF_c h5 (all_l (by decide) g), iO_c h6 (all_l (by decide) g), iD_c h7 (all_l (by decide) g) (Int.le_refl _), iR_c h8 (all_l (by decide) g) rfl, iM_c h9 (all_l (by decide) g), iV_c h10 (all_l (by decide) g), iH_c h11 (all_l (by decide) g), iS_c h12 (all_l (by decide) g) rfl rfl hn4⟩
theorem wis_400 : ∀ k, k < 15 → ∀ j ∈ wis k, wfx k j < 400 := by decide
/-- numbers that stand nowhere may change -/
theorem wd_gh (hY : wY Y n) (h : zgh X X') : wd Y n s X = wd Y n s X' := by
  refine congrArg (fun M => ((n, s, M) : zW)) (funext fun b => ?_)
  show (bif Nat.beq (Y.2.2.1 b).1 0 then Y.2.1 b else some (wc Y X (Y.2.2.1 b).1 (Y.2.2.1 b).2)) = (bif Nat.beq (Y.2.2.1 b).1 0 then Y.2.1 b else some (wc Y X' (Y.2.2.1 b).1 (Y.2.2.1 b).2))
  cases hb : Nat.beq (Y.2.2.1 b).1 0 with
  | true => rfl
  | false =>
    have h0 : (Y.2.2.1 b).1 ≠ 0 := Nat.ne_of_beq_eq_false hb
    have hs : wS Y.2.2.2.2 (Y.2.2.1 b).1 (Y.2.2.1 b).2 := by
      rw [← hY.1.2.2.1 _ _ h0]
      unfold wV
      rw [← hY.1.1 b h0]
    generalize (Y.2.2.1 b).1 = k at hs
    generalize (Y.2.2.1 b).2 = i at hs
    refine congrArg some (wc_c (X := X) (X' := X') (fun j hj => ?_) (fun hk hi j => ?_) rfl rfl (fun _ _ _ _ _ => rfl) (fun _ _ _ _ => rfl)).symm
    · have h1 := wis_400 k (wis_le hj).1 j (List.elem_iff.mp hj)
      exact congrFun (h _ (.inl (by omega))) i
    · subst hk
      have h4 : Y.2.2.2.2 0 4 ≤ 12 := hY.2.2.2.2.2.1.2
      have hs' : (0 ≤ i ∧ i < 9 + Y.2.2.2.2 0 4) ∨ (600 ≤ i ∧ i ≤ 613) := hs
      exact congrFun (h _ (by omega)) j
/-- what the law gives for a refusal -/
def zrv (E : Nat) : Int := if E = 0 then -3000000 else if E = 1 then -2000000 else -1000000
def zhx : Nat → zW → zR := fun E W9 => if E = 0 then some (.inl (some (.int (-3000000))), W9) else if E = 1 then some (.inl (some (.int (-2000000))), W9) else if E = 2 then some (.inl (some (.int (-1000000))), W9) else none
theorem zhx_e {E : Nat} {W : zW} (h : E < 3) : zhx E W = some (.inl (some (.int (zJ (zrv E)))), W) := by
  have : E = 0 ∨ E = 1 ∨ E = 2 := by omega
  rcases this with rfl | rfl | rfl <;> rfl
/-- a call by the law -/
def zdoes (ec : List (Nat × Int)) (t : Int) (Y : zLy) (n s : Nat) (X : zX) (run : zR) (D : Int → Int → zX → Prop) : Prop := ∃ (Y' : zLy) (n' s' : Nat) (X2 : zX) (code ans v : Int), run = some (.inl (some (.int (zJ v))), wd Y' n' s' X2) ∧ D code ans X2 ∧ (code = 0 → v = ans) ∧ (∀ q ∈ ec, code = q.2 → v = zrv q.1) ∧ wY Y' n' ∧ wle Y n Y' n' ∧ n' ≤ n + 30 ∧ s ≤ s' ∧ s' ≤ s + 500 ∧ iAll (t + 1) Y'.2.2.2.2 X2 ∧ ∀ f, 1100 ≤ f → X2 f = X f
def zec (ec : List (Nat × Int)) : Bool := ec.all (fun q => decide (q.1 < 3) && decide (q.2 ≠ 0) && ec.all (fun q' => decide (q.2 = q'.2 → q.1 = q'.1)))
theorem zec_e {ec : List (Nat × Int)} (h : zec ec = true) {q : Nat × Int} (hq : q ∈ ec) : q.1 < 3 ∧ q.2 ≠ 0 ∧ ∀ q' ∈ ec, q.2 = q'.2 → q.1 = q'.1 := by
  have h1 := List.all_eq_true.mp h q hq
  simp only [Bool.and_eq_true, decide_eq_true_iff, List.all_eq_true] at h1
  exact ⟨h1.1.1, h1.1.2, h1.2⟩
theorem dz {ec : List (Nat × Int)} {cls : zW → zR} {D : Int → Int → zX → Prop} {f : Int32 → zW → zR} (h : zcal ec t Y n s X cls D) (hec : zec ec = true) (hf : ∀ (a : Int) (X2 : zX), D 0 a X2 → ∀ W, f (zJ a) W = some (.inl (some (.int (zJ a))), W)) : zdoes ec t Y n s X (zthI (cls (wd Y n s X)) f zhx) D := by
  obtain ⟨Y', n', s', X1, X2, code, ans, h1, h2, h3, h4, h5, h6, h7, h8, h9, h10, h11, h12⟩ := h
  have hg := wd_gh (s := s') h5 h11
  rcases h1 with ⟨e, h1⟩ | ⟨E, e1, e2, h1⟩
  · refine ⟨Y', n', s', X2, code, ans, ans, ?_, h2, fun _ => rfl, fun q hq e3 => absurd (e3.symm.trans e) (zec_e hec hq).2.1, h5, h6, h7, h8, h9, h10, h12⟩
    rw [h1, t_I, hf ans X2 (e ▸ h2), hg]
  · refine ⟨Y', n', s', X2, code, ans, zrv E, ?_, h2, fun e => absurd e e2, fun q hq e3 => ?_, h5, h6, h7, h8, h9, h10, h12⟩
    · rw [h1, t_Ie, zhx_e (zec_e hec e1).1, hg]
    · rw [(zec_e hec hq).2.2 _ e1 e3.symm]
theorem dzN {ec : List (Nat × Int)} {cls : zW → zR} {D : Int → Int → zX → Prop} (h : zcaN ec t Y n s X cls D) (hec : zec ec = true) : zdoes ec t Y n s X (zthI (zthV (cls (wd Y n s X)) (fun W1 => some (.inl (some (.int 0)), W1)) zxe) (fun t W1 => some (.inl (some (.int t)), W1)) zhx) (fun c a X2 => a = 0 ∧ D c a X2) := by
  obtain ⟨Y', n', s', X1, X2, code, h1, h2, h3, h4, h5, h6, h7, h8, h9, h10, h11, h12⟩ := h
  have hg := wd_gh (s := s') h5 h11
  rcases h1 with ⟨e, h1⟩ | ⟨E, e1, e2, h1⟩
  · refine ⟨Y', n', s', X2, code, 0, 0, ?_, ⟨rfl, h2⟩, fun _ => rfl, fun q hq e3 => absurd (e3.symm.trans e) (zec_e hec hq).2.1, h5, h6, h7, h8, h9, h10, h12⟩
    rw [h1, t_V, t_I, hg]
    rfl
  · refine ⟨Y', n', s', X2, code, 0, zrv E, ?_, ⟨rfl, h2⟩, fun e => absurd e e2, fun q hq e3 => ?_, h5, h6, h7, h8, h9, h10, h12⟩
    · rw [h1, t_Ve, t_x, t_Ie, zhx_e (zec_e hec e1).1, hg]
    · rw [(zec_e hec hq).2.2 _ e1 e3.symm]
end ZL
/-- the rows of the law against the numbers -/
def zbv (y b : Int) : Int := ((zJ y >>> (zJ b &&& zJ 31)) &&& zJ 1).toInt
def pG (X : zX) : Prop := X 1113 0 = X 400 0 ∧ X 1113 1 = X 405 0 ∧ X 1113 2 = X 410 0 ∧ X 1113 4 = X 425 0 ∧ X 1113 5 = X 434 0 ∧ X 1113 6 = X 421 0 ∧ X 1113 7 = X 422 0 ∧ X 434 0 ≤ 4
def pB (X : zX) : Prop := ∀ k, 0 ≤ k → k < X 400 0 → X 1100 k = X 1001 k + 8 * X 1002 k + 64 * X 1003 k ∧ X 1101 k = X 1004 k
def pC (X : zX) : Prop := ∀ k, 0 ≤ k → k < X 405 0 → X 1102 k = X 1006 k + 8 * X 1007 k + 128 * X 1008 k + 2048 * (X 1009 k + 1)
def pW (X : zX) : Prop := (∀ k, 0 ≤ k → k < X 410 0 → X 1103 k = X 1012 (2 * k) + 64 * X 1012 (2 * k + 1) + 4096 * X 1013 k + 32768 * X 1011 k ∧ X 1104 (24 + k) = X 245 k ∧ (0 ≤ X 245 k ∧ X 245 k < 10000) ∧ ∀ b, 0 ≤ b → b < 16 → zbv (X 1104 k) b = zsm (fun m => zB (X 1015 m = b)) (16 * k) (X 1014 k).toNat) ∧ ∀ k, X 410 0 ≤ k → k < 24 → X 1104 k = 0
def pR (X : zX) : Prop := ∀ k, 0 ≤ k → k < X 425 0 → X 1105 k = X 1026 k + 8 * X 1028 k ∧ X 1106 k = X 1027 k ∧ X 1107 k = X 1029 k
def pH (X : zX) : Prop := (∀ k, 0 ≤ k → k < 4 → X 1108 k = X 1030 k) ∧ (∀ k, 0 ≤ k → k < 6 → X 1108 (4 + k) = X 1031 k ∧ X 1108 (10 + k) = X 1032 k) ∧ X 1108 16 = X 266 0 ∧ X 1108 17 = X 424 0
def pS (X : zX) : Prop := (∀ k, 0 ≤ k → k < 32 → X 1109 k = (X 1038 k + 1) + 64 * (X 1041 k + 4 * X 1042 k + 8 * X 1043 k) + 2048 * (X 1040 k + 1) ∧ X 1110 k = X 1039 k ∧ (-1 ≤ X 1040 k ∧ X 1040 k ≤ 2) ∧ (X 1038 k = -1 → X 1043 k = 0)) ∧ ∀ b, 0 ≤ b → b < 4 → X 1111 b = X 1035 b + 2 * X 1036 b + 4 * X 1037 b ∧ (X 1035 b = 0 → X 1036 b = 0) ∧ (X 1036 b = 0 → X 1037 b = 0) ∧ (X 1037 b ≠ 0 → ∀ k, 8 * b ≤ k → k < 8 * b + 8 → X 1042 k = 0)
def pF (X : zX) : Prop := ∀ k, 0 ≤ k → k < 8 → X 1112 k = X 1023 k
def pK (X : zX) : Prop := pG X ∧ pB X ∧ pC X ∧ pW X ∧ pR X ∧ pH X ∧ pS X ∧ pF X
/-- all that stands between two rounds -/
def zLA (G : Nat × Nat) (t : Int) (Y : zLy) (n : Nat) (X : zX) : Prop := wY Y n ∧ Y.1 = G.1 ∧ iAll t Y.2.2.2.2 X ∧ pK X
