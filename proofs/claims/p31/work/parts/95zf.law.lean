/-! THE LAW, 9: what becomes of its rows in a round -/
theorem zrv_0 : zrv 0 = -3000000 := rfl
theorem zrv_1 : zrv 1 = -2000000 := rfl
theorem zrv_2 : zrv 2 = -1000000 := rfl
theorem zd1_v {E1 : Nat} {A S E : Prop} {code ans v : Int} (h : zd1 code A 1 S E) (h0 : code = 0 → v = ans) (hE : ∀ q ∈ [(E1, (1 : Int))], code = q.2 → v = zrv q.1) : (¬A → v = zrv E1 ∧ E) ∧ (A → v = ans ∧ S) := by
  obtain ⟨h1, h2, h5⟩ := h
  refine ⟨fun a => ?_, fun a => ⟨h0 (h2 a).1, (h2 a).2⟩⟩
  have e := h1 a
  exact ⟨hE (E1, 1) (by simp) e, h5 (by omega)⟩
theorem zd2_v {E1 E2 : Nat} {A B S E : Prop} {code ans v : Int} (h : zd2 code A B 1 2 S E) (h0 : code = 0 → v = ans) (hE : ∀ q ∈ [(E1, (1 : Int)), (E2, 2)], code = q.2 → v = zrv q.1) : (¬A → v = zrv E1 ∧ E) ∧ (A → ¬B → v = zrv E2 ∧ E) ∧ (A → B → v = ans ∧ S) := by
  obtain ⟨h1, h2, h3, h5⟩ := h
  refine ⟨fun a => ?_, fun a b => ?_, fun a b => ⟨h0 (h3 a b).1, (h3 a b).2⟩⟩
  · have e := h1 a
    exact ⟨hE (E1, 1) (by simp) e, h5 (by omega)⟩
  · have e := h2 a b
    exact ⟨hE (E2, 2) (by simp) e, h5 (by omega)⟩
theorem zd3_v {E1 E2 E3 : Nat} {A B C S E : Prop} {code ans v : Int} (h : zd3 code A B C 1 2 3 S E) (h0 : code = 0 → v = ans) (hE : ∀ q ∈ [(E1, (1 : Int)), (E2, 2), (E3, 3)], code = q.2 → v = zrv q.1) : (¬A → v = zrv E1 ∧ E) ∧ (A → ¬B → v = zrv E2 ∧ E) ∧ (A → B → ¬C → v = zrv E3 ∧ E) ∧ (A → B → C → v = ans ∧ S) := by
  obtain ⟨h1, h2, h3, h4, h5⟩ := h
  refine ⟨fun a => ?_, fun a b => ?_, fun a b c => ?_, fun a b c => ⟨h0 (h4 a b c).1, (h4 a b c).2⟩⟩
  · have e := h1 a
    exact ⟨hE (E1, 1) (by simp) e, h5 (by omega)⟩
  · have e := h2 a b
    exact ⟨hE (E2, 2) (by simp) e, h5 (by omega)⟩
  · have e := h3 a b c
    exact ⟨hE (E3, 3) (by simp) e, h5 (by omega)⟩
def eG : List Int := [1113, 400, 405, 410, 425, 434, 421, 422]
def eB : List Int := [400, 1100, 1001, 1002, 1003, 1101, 1004]
def eC : List Int := [405, 1102, 1006, 1007, 1008, 1009]
def eW : List Int := [410, 1103, 1012, 1013, 1011, 1104, 245, 1015, 1014]
def eR : List Int := [425, 1105, 1026, 1028, 1106, 1027, 1107, 1029]
def eH : List Int := [1108, 1030, 1031, 1032, 266, 424]
def eS : List Int := [1109, 1038, 1041, 1042, 1043, 1040, 1110, 1039, 1111, 1035, 1036, 1037]
def eF : List Int := [1112, 1023]
section ZL
variable {Y : zLy} {n s : Nat} {X : zX} {G : Nat × Nat} {X' : zX} {t p q r k j : Int} {E : List Int}
theorem wu_self {f i : Int} : wu X f i (X f i) = X := by
  funext g j
  show (if g = f ∧ j = i then X f i else X g j) = X g j
  by_cases h : g = f ∧ j = i
  · rw [if_pos h, h.1, h.2]
  · rw [if_neg h]
theorem pG_c (h : pG X) (g : ∀ f ∈ eG, X' f = X f) : pG X' := by
  unfold pG
  rw [g 1113 (by decide), g 400 (by decide), g 405 (by decide), g 410 (by decide), g 425 (by decide), g 434 (by decide), g 421 (by decide), g 422 (by decide)]
  exact h
theorem pB_c (h : pB X) (g : ∀ f ∈ eB, X' f = X f) : pB X' := by
  unfold pB
  rw [g 400 (by decide), g 1100 (by decide), g 1001 (by decide), g 1002 (by decide), g 1003 (by decide), g 1101 (by decide), g 1004 (by decide)]
  exact h
theorem pC_c (h : pC X) (g : ∀ f ∈ eC, X' f = X f) : pC X' := by
  unfold pC
  rw [g 405 (by decide), g 1102 (by decide), g 1006 (by decide), g 1007 (by decide), g 1008 (by decide), g 1009 (by decide)]
  exact h
theorem pW_c (h : pW X) (g : ∀ f ∈ eW, X' f = X f) : pW X' := by
  unfold pW
  rw [g 410 (by decide), g 1103 (by decide), g 1012 (by decide), g 1013 (by decide), g 1011 (by decide), g 1104 (by decide), g 245 (by decide), g 1015 (by decide), g 1014 (by decide)]
  exact h
theorem pR_c (h : pR X) (g : ∀ f ∈ eR, X' f = X f) : pR X' := by
  unfold pR
  rw [g 425 (by decide), g 1105 (by decide), g 1026 (by decide), g 1028 (by decide), g 1106 (by decide), g 1027 (by decide), g 1107 (by decide), g 1029 (by decide)]
  exact h
theorem pH_c (h : pH X) (g : ∀ f ∈ eH, X' f = X f) : pH X' := by
  unfold pH
  rw [g 1108 (by decide), g 1030 (by decide), g 1031 (by decide), g 1032 (by decide), g 266 (by decide), g 424 (by decide)]
  exact h
theorem pS_c (h : pS X) (g : ∀ f ∈ eS, X' f = X f) : pS X' := by
  unfold pS
  rw [g 1109 (by decide), g 1038 (by decide), g 1041 (by decide), g 1042 (by decide), g 1043 (by decide), g 1040 (by decide), g 1110 (by decide), g 1039 (by decide), g 1111 (by decide), g 1035 (by decide), g 1036 (by decide), g 1037 (by decide)]
  exact h
theorem pF_c (h : pF X) (g : ∀ f ∈ eF, X' f = X f) : pF X' := by
  unfold pF
  rw [g 1112 (by decide), g 1023 (by decide)]
  exact h
/-- a call that told of nothing -/
theorem pK_s (s : zsame E X X') (hE : (eG ++ eB ++ eC ++ eW ++ eR ++ eH ++ eS ++ eF).all (fun f => !E.elem f) = true) (h : pK X) : pK X' := by
  have g := same_g s hE
  simp only [List.mem_append] at g
  obtain ⟨pg, pb, pc, pw, pr, ph, ps, pf⟩ := h
  exact ⟨pG_c pg fun f hf => g f (by simp [hf]), pB_c pb fun f hf => g f (by simp [hf]), pC_c pc fun f hf => g f (by simp [hf]), pW_c pw fun f hf => g f (by simp [hf]), pR_c pr fun f hf => g f (by simp [hf]), pH_c ph fun f hf => g f (by simp [hf]), pS_c ps fun f hf => g f (by simp [hf]), pF_c pf fun f hf => g f (by simp [hf])⟩
theorem pG_v (h : pG X) (e0 : X' 1113 0 = X' 400 0) (e1 : X' 1113 1 = X' 405 0) (e2 : X' 1113 2 = X' 410 0) (e4 : X' 1113 4 = X' 425 0) (e5 : X' 1113 5 = X' 434 0) (e6 : X' 1113 6 = X' 421 0) (e7 : X' 1113 7 = X' 422 0) (e8 : X' 434 0 ≤ 4) : pG X' := ⟨e0, e1, e2, e4, e5, e6, e7, e8⟩
theorem wA_l {Y' : zLy} {n' : Nat} (h : wle Y n Y' n') (hL : wL Y) (h0 : 600 ≤ j) (h1 : j ≤ 613) : wA Y 15 j = wA Y' 15 j := ((h.2.2.1 15 j (by decide) (by decide) (hL.2 j h0 h1)).2).symm
/-- a round comes out true -/
def zgL (G : Nat × Nat) (t : Int) (Y : zLy) (n s : Nat) (run : zR) : Prop := ∃ (Y' : zLy) (n' s' : Nat) (X' : zX), run = some (.inl (some (.int (zJ 1))), wd Y' n' s' X') ∧ zLA G (t + 1) Y' n' X' ∧ wle Y n Y' n' ∧ n' ≤ n + 60 ∧ s ≤ s' ∧ s' ≤ s + 1000
theorem zgL_d {ec : List (Nat × Int)} {D : Int → Int → zX → Prop} {run : zR} {K : Int32 → zW → zR} (hG : Y.1 = G.1) (hd : zdoes ec t Y n s X run D) (hK : ∀ (Y' : zLy) (n' s' : Nat) (X2 : zX) (code ans v : Int), D code ans X2 → (code = 0 → v = ans) → (∀ q ∈ ec, code = q.2 → v = zrv q.1) → (∀ f, 1100 ≤ f → X2 f = X f) → wY Y' n' → Y'.1 = G.1 → iAll (t + 1) Y'.2.2.2.2 X2 → wle Y n Y' n' → pK X2 ∧ (pK X2 → K (zJ v) (wd Y' n' s' X2) = some (.inl (some (.int (zJ 1))), wd Y' n' s' X2))) : zgL G t Y n s (zthI run K zxe) := by
  obtain ⟨Y', n', s', X2, code, ans, v, h1, h2, h3, h4, h5, h6, h7, h8, h9, h10, h11⟩ := hd
  obtain ⟨k1, k2⟩ := hK Y' n' s' X2 code ans v h2 h3 h4 h11 h5 (h6.2.1.trans hG) h10 h6
  refine ⟨Y', n', s', X2, ?_, ⟨h5, h6.2.1.trans hG, h10, k1⟩, h6, by omega, h8, by omega⟩
  rw [h1, t_I]
  exact k2 k1
theorem zgL_k {ec : List (Nat × Int)} {D : Int → Int → zX → Prop} {run : zR} {K : Int32 → zW → zR} {Y9 : zLy} {n9 s9 : Nat} {X9 : zX} (hG : Y9.1 = G.1) (h9 : wle Y n Y9 n9) (hn9 : n9 ≤ n + 5) (hs9 : s ≤ s9 ∧ s9 ≤ s + 100) (hd : zdoes ec t Y9 n9 s9 X9 run D) (hK : ∀ (Y' : zLy) (n' s' : Nat) (X2 : zX) (code ans v : Int), D code ans X2 → (code = 0 → v = ans) → (∀ q ∈ ec, code = q.2 → v = zrv q.1) → (∀ f, 1100 ≤ f → X2 f = X9 f) → wY Y' n' → Y'.1 = G.1 → iAll (t + 1) Y'.2.2.2.2 X2 → wle Y9 n9 Y' n' → ∃ X3, K (zJ v) (wd Y' n' s' X2) = some (.inl (some (.int (zJ 1))), wd Y' n' s' X3) ∧ iAll (t + 1) Y'.2.2.2.2 X3 ∧ pK X3) : zgL G t Y n s (zthI run K zxe) := by
  obtain ⟨Y', n', s', X2, code, ans, v, h1, h2, h3, h4, h5, h6, h7, h8, h9', h10, h11⟩ := hd
  obtain ⟨X3, k1, k2, k3⟩ := hK Y' n' s' X2 code ans v h2 h3 h4 h11 h5 (h6.2.1.trans hG) h10 h6
  refine ⟨Y', n', s', X3, ?_, ⟨h5, h6.2.1.trans hG, k2, k3⟩, wle_t h9 h6, by omega, by omega, by omega⟩
  rw [h1, t_I]
  exact k1
end ZL
