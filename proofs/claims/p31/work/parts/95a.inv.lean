/-! THE TWO SIDES, 70: what the two sides' numbers have in common between two calls -/
def zsame (E : List Int) (X X' : zX) : Prop := ∀ f, f ∉ E → X' f = X f
section ZI
variable {X X' X2 : zX} {E F : List Int} {Q Q' : zQs}
theorem same_r : zsame E X X := fun _ _ => rfl
theorem same_u {f i v : Int} (hf : E.elem f = true) (h : zsame E X X') : zsame E X (wu X' f i v) := by
  intro g hg
  rw [← h g hg]
  funext j
  exact wu_ne (fun q => hg (q ▸ List.elem_iff.mp hf))
theorem same_t (h : zsame E X X') (h' : zsame E X' X2) : zsame E X X2 := fun f hf => (h' f hf).trans (h f hf)
theorem same_m (h : zsame E X X') (hF : ∀ f, f ∈ E → f ∈ F) : zsame F X X' := fun f hf => h f (fun q => hf (hF f q))
theorem same_g (h : zsame E X X') (hd : F.all (fun f => !E.elem f) = true) : ∀ f ∈ F, X' f = X f := by
  intro f hf
  refine h f (fun q => ?_)
  have := List.all_eq_true.mp hd f hf
  rw [List.elem_iff.mpr q] at this
  cases this
def iB (Q : zQs) (X : zX) : Prop := X 400 0 = Q 0 0 ∧ ∀ i, 0 ≤ i → i < Q 0 0 → (X 60 i = i ∧ X 1001 i = X 61 i ∧ X 1002 i = X 62 i ∧ X 1003 i = X 63 i ∧ X 1004 i = X 64 i) ∧ (0 ≤ X 61 i ∧ X 61 i < 8 ∧ 0 ≤ X 62 i ∧ X 62 i < 8 ∧ X 61 i ≠ X 62 i ∧ 1 ≤ X 63 i ∧ X 63 i ≤ 999)
def fB : List Int := [400, 60, 61, 62, 63, 64, 1001, 1002, 1003, 1004]
theorem iB_c (h : iB Q X) (g : ∀ f ∈ fB, X' f = X f) (q : Q' 0 0 = Q 0 0) : iB Q' X' := by
  unfold iB
  rw [q, g 400 (by decide), g 60 (by decide), g 61 (by decide), g 62 (by decide), g 63 (by decide), g 64 (by decide), g 1001 (by decide), g 1002 (by decide), g 1003 (by decide), g 1004 (by decide)]
  exact h
def iC (Q : zQs) (X : zX) : Prop := X 405 0 = Q 0 1 ∧ (∀ c, 0 ≤ c → c < 8 → (0 ≤ X 1006 c ∧ X 1006 c < 8) ∧ (0 ≤ X 1007 c ∧ X 1007 c ≤ 8) ∧ (0 ≤ X 1008 c ∧ X 1008 c ≤ 9) ∧ -1 ≤ X 1009 c ∧ X 1009 c < 8) ∧ (∀ c, 0 ≤ c → c < Q 0 1 → X 80 c = X 1006 c ∧ X 81 c = X 1007 c ∧ X 82 c = X 1008 c ∧ X 83 c = X 1009 c) ∧ (∀ c, Q 0 1 ≤ c → c < 8 → X 1009 c = -1) ∧ (∀ c, 0 ≤ c → c < Q 0 1 → X 83 c ≠ -1 → 0 ≤ X 83 c ∧ X 83 c < Q 0 1 ∧ X 83 (X 83 c) = c ∧ X 83 c ≠ c)
def fC : List Int := [405, 80, 81, 82, 83, 1006, 1007, 1008, 1009]
theorem iC_c (h : iC Q X) (g : ∀ f ∈ fC, X' f = X f) (q : Q' 0 1 = Q 0 1) : iC Q' X' := by
  unfold iC
  rw [q, g 405 (by decide), g 80 (by decide), g 81 (by decide), g 82 (by decide), g 83 (by decide), g 1006 (by decide), g 1007 (by decide), g 1008 (by decide), g 1009 (by decide)]
  exact h
def iT (Q : zQs) (X : zX) : Prop := (∀ c, 0 ≤ c → c < Q 0 1 → 0 ≤ X 84 c ∧ X 84 c < 256) ∧ (∀ c v, 0 ≤ c → c < Q 0 1 → 0 ≤ v → v < 8 → (zbt (X 84 c) v = true ↔ zty X (8 * c + v))) ∧ (∀ a w w', 0 ≤ w → w < X 410 0 → 0 ≤ w' → w' < X 410 0 → ztk1 X a w → ztk1 X a w' → w = w')
def fT : List Int := [84, 410, 1011, 1012]
theorem iT_c (h : iT Q X) (g : ∀ f ∈ fT, X' f = X f) (q : Q' 0 1 = Q 0 1) : iT Q' X' := by
  unfold iT zty ztk1
  rw [q, g 84 (by decide), g 410 (by decide), g 1011 (by decide), g 1012 (by decide)]
  exact h
/-- a wire's facts -/
def iW1 (Q : zQs) (X : zX) (w : Int) : Prop := (X 246 w = X 1011 w ∧ X 244 w = X 1013 w ∧ 0 ≤ X 244 w ∧ X 244 w < 8) ∧ (X 1012 (2 * w) = 8 * Q 2 w + X 241 w ∧ X 1012 (2 * w + 1) = 8 * Q 3 w + X 243 w ∧ 0 ≤ X 241 w ∧ X 241 w < 8 ∧ 0 ≤ X 243 w ∧ X 243 w < 8) ∧ (Q 2 w ≠ Q 3 w ∧ 0 ≤ Q 2 w ∧ Q 2 w < Q 0 1 ∧ 0 ≤ Q 3 w ∧ Q 3 w < Q 0 1) ∧ (X 1014 w = Q 0 (5 + w) ∧ 0 ≤ Q 0 (5 + w) ∧ Q 0 (5 + w) ≤ 7) ∧ (∀ j, 0 ≤ j → j < Q 0 (5 + w) → X 1015 (16 * w + j) = Q 4 (16 * w + j) ∧ 0 ≤ Q 4 (16 * w + j) ∧ Q 4 (16 * w + j) < Q 0 0) ∧ X 245 w = zsm (fun k => X 63 (Q 4 k)) (16 * w) (Q 0 (5 + w)).toNat
def iW (Q : zQs) (X : zX) : Prop := X 410 0 = Q 0 2 ∧ (∀ w, 0 ≤ w → w < 24 → 0 ≤ X 1011 w ∧ X 1011 w ≤ 1) ∧ (∀ w, Q 0 2 ≤ w → w < 24 → X 1011 w = 0) ∧ ∀ w, 0 ≤ w → w < Q 0 2 → iW1 Q X w
def fW : List Int := [410, 246, 1011, 244, 1013, 241, 243, 1012, 1014, 1015, 245, 63]
theorem iW_c (h : iW Q X) (g : ∀ f ∈ fW, X' f = X f) (q : ∀ a i, (a = 0 ∧ (i = 0 ∨ i = 1 ∨ i = 2)) ∨ (a = 0 ∧ 5 ≤ i ∧ i < 29) ∨ 2 ≤ a → Q' a i = Q a i) (hn : Q 0 2 ≤ 24) : iW Q' X' := by
  obtain ⟨h1, h2, h3, h4⟩ := h
  unfold iW
  rw [q 0 2 (.inl ⟨rfl, .inr (.inr rfl)⟩), g 410 (by decide), g 1011 (by decide)]
  refine ⟨h1, h2, h3, fun w w1 w2 => ?_⟩
  have h5 := h4 w w1 w2
  unfold iW1 at h5 ⊢
  rw [g 246 (by decide), g 1011 (by decide), g 244 (by decide), g 1013 (by decide), g 241 (by decide), g 243 (by decide), g 1012 (by decide), g 1014 (by decide), g 1015 (by decide), g 245 (by decide), g 63 (by decide), q 0 0 (.inl ⟨rfl, .inl rfl⟩), q 0 1 (.inl ⟨rfl, .inr (.inl rfl)⟩), q 0 (5 + w) (.inr (.inl ⟨rfl, by omega, by omega⟩)), q 2 w (.inr (.inr (by decide))), q 3 w (.inr (.inr (by decide))), show Q' 4 = Q 4 from funext fun i => q 4 i (.inr (.inr (by decide)))]
  exact h5
def iF (X : zX) : Prop := zcb (X 500) ∧ zcbm (X 1016)
theorem iF_c (h : iF X) (g : ∀ f ∈ [(500 : Int), 1016], X' f = X f) : iF X' := by
  unfold iF
  rw [g 500 (by decide), g 1016 (by decide)]
  exact h
def iO (X : zX) : Prop := X 417 0 = X 144 0 ∧ (0 ≤ X 144 0 ∧ X 144 0 ≤ 5) ∧ (∀ k, 0 ≤ k → k < X 144 0 → X 1018 k = X 501 k ∧ 0 ≤ X 501 k ∧ X 501 k ≤ 255 ∧ X 1019 k = X 502 k ∧ 1 ≤ X 502 k ∧ X 502 k ≤ 99) ∧ (∀ k, 0 ≤ k → k < 5 → 0 ≤ X 1020 k ∧ X 1020 k < 100) ∧ (∀ r, 0 ≤ X 503 r ∧ X 503 r ≤ 100000000) ∧ (∀ r, 0 ≤ X 504 r ∧ X 504 r ≤ 1000000000)
def fO : List Int := [417, 144, 1018, 501, 1019, 502, 1020, 503, 504]
theorem iO_c (h : iO X) (g : ∀ f ∈ fO, X' f = X f) : iO X' := by
  unfold iO
  rw [g 417 (by decide), g 144 (by decide), g 1018 (by decide), g 501 (by decide), g 1019 (by decide), g 502 (by decide), g 1020 (by decide), g 503 (by decide), g 504 (by decide)]
  exact h
def iD (t : Int) (X : zX) : Prop := X 421 0 = X 100 0 ∧ X 422 0 = X 101 0 ∧ (0 ≤ X 101 0 ∧ X 101 0 ≤ X 100 0 ∧ X 100 0 ≤ t) ∧ X 103 0 = X 101 0 % 8 ∧ (∀ k, 0 ≤ k → k < 8 → X 1023 k = X 505 k ∧ 0 ≤ X 505 k ∧ X 505 k < 10000) ∧ (∀ k, X 101 0 ≤ k → k < 8 → X 505 k = 0)
def fD : List Int := [421, 100, 422, 101, 103, 1023, 505]
theorem iD_c {t t' : Int} (h : iD t X) (g : ∀ f ∈ fD, X' f = X f) (ht : t ≤ t') : iD t' X' := by
  obtain ⟨h1, h2, h3, h4⟩ := h
  unfold iD
  rw [g 421 (by decide), g 100 (by decide), g 422 (by decide), g 101 (by decide), g 103 (by decide), g 1023 (by decide), g 505 (by decide)]
  exact ⟨h1, h2, ⟨h3.1, h3.2.1, by omega⟩, h4⟩
def iR (Q : zQs) (X : zX) : Prop := X 425 0 = Q 0 3 ∧ (∀ r, 0 ≤ r → r < 12 → (0 ≤ X 1026 r ∧ X 1026 r < 6) ∧ (0 ≤ X 1027 r ∧ X 1027 r ≤ 99) ∧ (0 ≤ X 1028 r ∧ X 1028 r ≤ 5000) ∧ -1 ≤ X 1029 r ∧ X 1029 r < 10000) ∧ (∀ r, 0 ≤ r → r < Q 0 3 → X 180 r = X 1026 r ∧ X 181 r = X 1028 r ∧ X 182 r = X 1027 r ∧ (0 ≤ X 183 r ∧ X 183 r ≤ 1) ∧ (0 ≤ X 184 r ∧ X 184 r < 10000) ∧ X 1029 r = if X 183 r = 0 then -1 else X 184 r)
def fR : List Int := [425, 1026, 1027, 1028, 1029, 180, 181, 182, 183, 184]
theorem iR_c (h : iR Q X) (g : ∀ f ∈ fR, X' f = X f) (q : Q' 0 3 = Q 0 3) : iR Q' X' := by
  unfold iR
  rw [q, g 425 (by decide), g 1026 (by decide), g 1027 (by decide), g 1028 (by decide), g 1029 (by decide), g 180 (by decide), g 181 (by decide), g 182 (by decide), g 183 (by decide), g 184 (by decide)]
  exact h
def iM (X : zX) : Prop := X 424 0 = X 267 0 ∧ 0 ≤ X 267 0 ∧ X 267 0 ≤ 9999
theorem iM_c (h : iM X) (g : ∀ f ∈ [(424 : Int), 267], X' f = X f) : iM X' := by
  unfold iM
  rw [g 424 (by decide), g 267 (by decide)]
  exact h
def iV (X : zX) : Prop := (0 ≤ X 266 0 ∧ X 266 0 < 256) ∧ ∀ k, 0 ≤ k → k < 8 → (0 ≤ X 1033 k ∧ X 1033 k ≤ 1) ∧ (zbt (X 266 0) k = true ↔ X 1033 k = 1)
theorem iV_c (h : iV X) (g : ∀ f ∈ [(266 : Int), 1033], X' f = X f) : iV X' := by
  unfold iV
  rw [g 266 (by decide), g 1033 (by decide)]
  exact h
def iH (X : zX) : Prop := (∀ z, 0 ≤ z → z < 4 → X 1030 z = X 506 z ∧ 0 ≤ X 506 z ∧ X 506 z ≤ 400) ∧ (∀ p, 0 ≤ p → p < 6 → (X 1031 p = X 507 p ∧ 0 ≤ X 507 p ∧ X 507 p ≤ 400) ∧ X 1032 p = X 508 p ∧ 0 ≤ X 508 p ∧ X 508 p ≤ 400)
def fH : List Int := [1030, 506, 1031, 507, 1032, 508]
theorem iH_c (h : iH X) (g : ∀ f ∈ fH, X' f = X f) : iH X' := by
  unfold iH
  rw [g 1030 (by decide), g 506 (by decide), g 1031 (by decide), g 507 (by decide), g 1032 (by decide), g 508 (by decide)]
  exact h
/-- a slot's facts -/
def iS1 (Q : zQs) (X : zX) (b k : Int) : Prop := (X 221 k = X 1038 k ∧ X 222 k = X 1039 k ∧ X 223 k = X 1041 k ∧ X 224 k = X 1042 k ∧ X 225 k = X 1043 k) ∧ X 1038 k < Q 0 3 ∧ (X 220 k = if X 1038 k = -1 then -1 else X 1026 (X 1038 k)) ∧ (0 ≤ X 226 k ∧ X 226 k ≤ 400 ∧ 0 ≤ X 227 k ∧ X 227 k ≤ 400) ∧ (X 1040 k = if X 1035 b = 0 ∨ X 1038 k = -1 then -1 else zjf (X 226 k) (X 227 k) (zpeak X b)) ∧ (X 1038 k = -1 → X 1041 k = 0) ∧ (X 1035 b = 0 → X 1041 k = 0)
def iS (Q : zQs) (X : zX) : Prop := X 434 0 = Q 0 4 ∧ (∀ b, 0 ≤ b → b < 12 → (0 ≤ X 1035 b ∧ X 1035 b ≤ 1) ∧ (0 ≤ X 1036 b ∧ X 1036 b ≤ 1) ∧ (0 ≤ X 1037 b ∧ X 1037 b ≤ 1)) ∧ (∀ b, Q 0 4 ≤ b → b < 12 → X 1035 b = 0 ∧ X 1036 b = 0 ∧ X 1037 b = 0) ∧ (∀ k, 0 ≤ k → k < 96 → (-1 ≤ X 1038 k ∧ X 1038 k < 12) ∧ (0 ≤ X 1041 k ∧ X 1041 k < 4) ∧ (0 ≤ X 1042 k ∧ X 1042 k ≤ 1) ∧ (0 ≤ X 1043 k ∧ X 1043 k ≤ 1) ∧ (X 1042 k ≠ 0 → X 1041 k ≠ 0 ∧ 0 ≤ X 1038 k)) ∧ (∀ k, 8 * Q 0 4 ≤ k → k < 96 → X 1038 k = -1 ∧ X 1039 k = -1 ∧ X 1040 k = -1 ∧ X 1041 k = 0 ∧ X 1042 k = 0 ∧ X 1043 k = 0) ∧ (∀ b, 0 ≤ b → b < Q 0 4 → (X 40 b = X 1035 b ∧ X 41 b = X 1036 b ∧ X 42 b = X 1037 b) ∧ (∀ z, 0 ≤ z → z < 4 → 0 ≤ X (509 + b) z ∧ X (509 + b) z ≤ 400) ∧ ∀ k, 8 * b ≤ k → k < 8 * b + 8 → iS1 Q X b k)
def fS : List Int := [434, 1035, 1036, 1037, 1038, 1039, 1040, 1041, 1042, 1043, 40, 41, 42, 220, 221, 222, 223, 224, 225, 226, 227, 1026, 509, 510, 511, 512, 513, 514, 515, 516, 517, 518, 519, 520]
theorem z509 (g : ∀ f ∈ fS, X' f = X f) {b : Int} (h : 0 ≤ b) (h' : b < 12) : X' (509 + b) = X (509 + b) := by
  have : 509 + b = 509 ∨ 509 + b = 510 ∨ 509 + b = 511 ∨ 509 + b = 512 ∨ 509 + b = 513 ∨ 509 + b = 514 ∨ 509 + b = 515 ∨ 509 + b = 516 ∨ 509 + b = 517 ∨ 509 + b = 518 ∨ 509 + b = 519 ∨ 509 + b = 520 := by omega
  rcases this with e | e | e | e | e | e | e | e | e | e | e | e <;> rw [e] <;> exact g _ (by decide)
theorem iS_c (h : iS Q X) (g : ∀ f ∈ fS, X' f = X f) (q : Q' 0 4 = Q 0 4) (q3 : Q' 0 3 = Q 0 3) (hn : Q 0 4 ≤ 12) : iS Q' X' := by
  obtain ⟨h1, h2, h3, h4, h5, h6⟩ := h
  unfold iS
  rw [q, g 434 (by decide), g 1035 (by decide), g 1036 (by decide), g 1037 (by decide), g 1038 (by decide), g 1039 (by decide), g 1040 (by decide), g 1041 (by decide), g 1042 (by decide), g 1043 (by decide), g 40 (by decide), g 41 (by decide), g 42 (by decide)]
  refine ⟨h1, h2, h3, h4, h5, fun b b1 b2 => ?_⟩
  obtain ⟨e1, e2, e3⟩ := h6 b b1 b2
  have e5 := z509 g b1 (by omega)
  rw [e5]
  refine ⟨e1, e2, fun k k1 k2 => ?_⟩
  have e4 := e3 k k1 k2
  unfold iS1 zpeak zmass at e4 ⊢
  rw [q3, g 1035 (by decide), g 1038 (by decide), g 1039 (by decide), g 1040 (by decide), g 1041 (by decide), g 1042 (by decide), g 1043 (by decide), g 220 (by decide), g 221 (by decide), g 222 (by decide), g 223 (by decide), g 224 (by decide), g 225 (by decide), g 226 (by decide), g 227 (by decide), g 1026 (by decide), e5]
  exact e4
/-- all of it -/
def iAll (t : Int) (Q : zQs) (X : zX) : Prop := iB Q X ∧ iC Q X ∧ iT Q X ∧ iW Q X ∧ iF X ∧ iO X ∧ iD t X ∧ iR Q X ∧ iM X ∧ iV X ∧ iH X ∧ iS Q X
theorem iAll_q {t : Int} (h : iAll t Q X) (q : ∀ a i, (a = 0 ∧ (i = 0 ∨ i = 1 ∨ i = 2)) ∨ (a = 0 ∧ 5 ≤ i ∧ i < 29) ∨ 2 ≤ a → Q' a i = Q a i) (q3 : Q' 0 3 = Q 0 3) (q4 : Q' 0 4 = Q 0 4) (hn : Q 0 2 ≤ 24) (hn4 : Q 0 4 ≤ 12) : iAll t Q' X := by
  obtain ⟨h1, h2, h3, h4, h5, h6, h7, h8, h9, h10, h11, h12⟩ := h
  have r : ∀ F : List Int, ∀ f ∈ F, X f = X f := fun _ _ _ => rfl
  exact ⟨iB_c h1 (r _) (q 0 0 (.inl ⟨rfl, .inl rfl⟩)), iC_c h2 (r _) (q 0 1 (.inl ⟨rfl, .inr (.inl rfl)⟩)), iT_c h3 (r _) (q 0 1 (.inl ⟨rfl, .inr (.inl rfl)⟩)), iW_c h4 (r _) q hn, h5, h6, h7, iR_c h8 (r _) q3, h9, h10, h11, iS_c h12 (r _) q4 q3 hn4⟩
/-- a call that throws: only the reference's thrown changes -/
theorem iAll_e {t e : Int} (h : iAll t Q X) (hn : Q 0 2 ≤ 24) (hn4 : Q 0 4 ≤ 12) : iAll (t + 1) Q (wu X 444 0 e) := by
  obtain ⟨h1, h2, h3, h4, h5, h6, h7, h8, h9, h10, h11, h12⟩ := h
  have s : zsame [444] X (wu X 444 0 e) := same_u (by decide) same_r
  exact ⟨iB_c h1 (same_g s (by decide)) rfl, iC_c h2 (same_g s (by decide)) rfl, iT_c h3 (same_g s (by decide)) rfl, iW_c h4 (same_g s (by decide)) (fun _ _ _ => rfl) hn, iF_c h5 (same_g s (by decide)), iO_c h6 (same_g s (by decide)), iD_c h7 (same_g s (by decide)) (by omega), iR_c h8 (same_g s (by decide)) rfl, iM_c h9 (same_g s (by decide)), iV_c h10 (same_g s (by decide)), iH_c h11 (same_g s (by decide)), iS_c h12 (same_g s (by decide)) rfl rfl hn4⟩
end ZI
