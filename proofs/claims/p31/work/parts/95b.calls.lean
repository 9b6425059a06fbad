/-! THE TWO SIDES, 71: a call on both sides: pass, weight, order, crimps -/
/-- what a call tells: a code for each refusal, in order; else what it gives and does -/
def zd1 (code : Int) (A : Prop) (c1 : Int) (S E : Prop) : Prop := (¬A → code = c1) ∧ (A → code = 0 ∧ S) ∧ (code ≠ 0 → E)
def zd2 (code : Int) (A B : Prop) (c1 c2 : Int) (S E : Prop) : Prop := (¬A → code = c1) ∧ (A → ¬B → code = c2) ∧ (A → B → code = 0 ∧ S) ∧ (code ≠ 0 → E)
def zd3 (code : Int) (A B C : Prop) (c1 c2 c3 : Int) (S E : Prop) : Prop := (¬A → code = c1) ∧ (A → ¬B → code = c2) ∧ (A → B → ¬C → code = c3) ∧ (A → B → C → code = 0 ∧ S) ∧ (code ≠ 0 → E)
theorem zd1_0 {A S E : Prop} {c1 : Int} (a : A) (s : S) : zd1 0 A c1 S E := ⟨fun g => absurd a g, fun _ => ⟨rfl, s⟩, fun g => absurd rfl g⟩
theorem zd1_1 {A S E : Prop} {c1 : Int} (a : ¬A) (e : E) : zd1 c1 A c1 S E := ⟨fun _ => rfl, fun g => absurd g a, fun _ => e⟩
theorem zd2_0 {A B S E : Prop} {c1 c2 : Int} (a : A) (b : B) (s : S) : zd2 0 A B c1 c2 S E := ⟨fun g => absurd a g, fun _ g => absurd b g, fun _ _ => ⟨rfl, s⟩, fun g => absurd rfl g⟩
theorem zd2_1 {A B S E : Prop} {c1 c2 : Int} (a : ¬A) (e : E) : zd2 c1 A B c1 c2 S E := ⟨fun _ => rfl, fun g => absurd g a, fun g => absurd g a, fun _ => e⟩
theorem zd2_2 {A B S E : Prop} {c1 c2 : Int} (a : A) (b : ¬B) (e : E) : zd2 c2 A B c1 c2 S E := ⟨fun g => absurd a g, fun _ _ => rfl, fun _ g => absurd g b, fun _ => e⟩
theorem zd3_0 {A B C S E : Prop} {c1 c2 c3 : Int} (a : A) (b : B) (c : C) (s : S) : zd3 0 A B C c1 c2 c3 S E := ⟨fun g => absurd a g, fun _ g => absurd b g, fun _ _ g => absurd c g, fun _ _ _ => ⟨rfl, s⟩, fun g => absurd rfl g⟩
theorem zd3_1 {A B C S E : Prop} {c1 c2 c3 : Int} (a : ¬A) (e : E) : zd3 c1 A B C c1 c2 c3 S E := ⟨fun _ => rfl, fun g => absurd g a, fun g => absurd g a, fun g => absurd g a, fun _ => e⟩
theorem zd3_2 {A B C S E : Prop} {c1 c2 c3 : Int} (a : A) (b : ¬B) (e : E) : zd3 c2 A B C c1 c2 c3 S E := ⟨fun g => absurd a g, fun _ _ => rfl, fun _ g => absurd g b, fun _ g => absurd g b, fun _ => e⟩
theorem zd3_3 {A B C S E : Prop} {c1 c2 c3 : Int} (a : A) (b : B) (c : ¬C) (e : E) : zd3 c3 A B C c1 c2 c3 S E := ⟨fun g => absurd a g, fun _ g => absurd b g, fun _ _ _ => rfl, fun _ _ g => absurd g c, fun _ => e⟩
def dPass (X : zX) (p code ans : Int) (X2 : zX) : Prop := zd2 code (1 ≤ p ∧ p ≤ 999) (X 424 0 + p ≤ 9999) 1 2 (ans = X 424 0 + p ∧ X2 424 0 = X 424 0 + p ∧ zsame [267, 444, 424] X X2) (zsame [444] X X2)
def dCrimp (X : zX) (p code ans : Int) (X2 : zX) : Prop := zd1 code (1 ≤ p ∧ p ≤ 9999) 1 ((zjd X p → ans = 1 ∧ X2 421 0 = X 421 0 + 1 ∧ X2 422 0 = X 422 0 + 1 ∧ (∀ k, X2 1023 k = if k = X 422 0 % 8 then p else X 1023 k) ∧ zsame [100, 101, 505, 103, 444, 421, 1023, 422] X X2) ∧ (¬zjd X p → ans = 0 ∧ X2 421 0 = X 421 0 + 1 ∧ zsame [100, 444, 421] X X2)) (zsame [444] X X2)
def dOpen (X : zX) (p q code ans : Int) (X2 : zX) : Prop := zd2 code (0 ≤ p ∧ p < X 425 0) (X 1029 p = -1 ∨ q ≠ 0) 1 2 (ans = zclk 1 (X 1028 p) (X 424 0) (X 424 0) ∧ (∀ k, X2 1029 k = if k = p then X 424 0 else X 1029 k) ∧ zsame [183, 184, 444, 1029] X X2) (zsame [444] X X2)
def dBundle (X : zX) (p q r u code ans : Int) (X2 : zX) : Prop := zd3 code ((0 ≤ p ∧ p < 8) ∧ (0 ≤ q ∧ q < 8)) (p ≠ q ∧ (1 ≤ r ∧ r ≤ 999) ∧ (1 ≤ u ∧ u ≤ 24)) (X 400 0 < 16) 1 2 3 (ans = X 400 0 ∧ X2 400 0 = X 400 0 + 1 ∧ (∀ i, X2 1001 i = if i = X 400 0 then p else X 1001 i) ∧ (∀ i, X2 1002 i = if i = X 400 0 then q else X 1002 i) ∧ (∀ i, X2 1003 i = if i = X 400 0 then r else X 1003 i) ∧ (∀ i, X2 1004 i = if i = X 400 0 then u else X 1004 i) ∧ zsame [60, 61, 62, 63, 64, 20, 444, 1001, 1002, 1003, 1004, 400] X X2) (zsame [444] X X2)
def dConnector (X : zX) (p q r code ans : Int) (X2 : zX) : Prop := zd3 code (0 ≤ p ∧ p < 8) ((1 ≤ q ∧ q ≤ 8) ∧ (0 ≤ r ∧ r ≤ 9)) (X 405 0 < 8) 1 2 3 (ans = X 405 0 ∧ X2 405 0 = X 405 0 + 1 ∧ (∀ i, X2 1006 i = if i = X 405 0 then p else X 1006 i) ∧ (∀ i, X2 1007 i = if i = X 405 0 then q else X 1007 i) ∧ (∀ i, X2 1008 i = if i = X 405 0 then r else X 1008 i) ∧ zsame [80, 81, 82, 83, 84, 20, 444, 1006, 1007, 1008, 405] X X2) (zsame [444] X X2)
def dReel (X : zX) (p q r code ans : Int) (X2 : zX) : Prop := zd3 code (0 ≤ p ∧ p < 6) ((1 ≤ q ∧ q ≤ 99) ∧ (1 ≤ r ∧ r ≤ 5000)) (X 425 0 < 12) 1 2 3 (ans = X 425 0 ∧ X2 425 0 = X 425 0 + 1 ∧ (∀ i, X2 1026 i = if i = X 425 0 then p else X 1026 i) ∧ (∀ i, X2 1027 i = if i = X 425 0 then q else X 1027 i) ∧ (∀ i, X2 1028 i = if i = X 425 0 then r else X 1028 i) ∧ (∀ i, X2 1029 i = if i = X 425 0 then -1 else X 1029 i) ∧ zsame [180, 181, 182, 183, 184, 20, 444, 1026, 1027, 1028, 1029, 425] X X2) (zsame [444] X X2)
def dBoard (X : zX) (code ans : Int) (X2 : zX) : Prop := zd1 code (X 434 0 < 12) 1 (ans = X 434 0 ∧ X2 434 0 = X 434 0 + 1 ∧ zsame [20, 220, 221, 222, 223, 224, 225, 226, 227, 40, 41, 42, 509, 510, 511, 512, 513, 514, 515, 516, 517, 518, 519, 520, 444, 434] X X2) (zsame [444] X X2)
def dShip (X : zX) (p code ans : Int) (X2 : zX) : Prop := zd2 code (0 ≤ p ∧ p < X 434 0) (X 1037 p = 0 ∧ X 1036 p ≠ 0 ∧ zfm X p 1 ≤ 0) 1 2 (ans = zfm X p 0 ∧ (∀ k, X2 1037 k = if k = p then 1 else X 1037 k) ∧ zsame [42, 444, 1037] X X2) (zsame [444] X X2)
def dFlaw (X : zX) (p q code _ans : Int) (X2 : zX) : Prop := zd2 code ((0 ≤ p ∧ p < X 434 0) ∧ (0 ≤ q ∧ q < 8)) (X 1035 p ≠ 0 ∧ X 1037 p = 0 ∧ X 1038 (8 * p + q) ≠ -1) 1 2 ((∀ k, X2 1041 k = if k = 8 * p + q then 3 else X 1041 k) ∧ (∀ k, X2 1042 k = if k = 8 * p + q then 0 else X 1042 k) ∧ zsame [223, 224, 444, 1041, 1042] X X2) (zsame [444] X X2)
def dPlace (X : zX) (p q r code ans : Int) (X2 : zX) : Prop := zd2 code ((0 ≤ p ∧ p < X 434 0) ∧ (0 ≤ q ∧ q < 8) ∧ (0 ≤ r ∧ r < X 425 0)) (X 1035 p = 0 ∧ X 1038 (8 * p + q) = -1 ∧ (0 < X 1027 r ∧ zclk (X 1029 r + 1) (X 1028 r) (X 1029 r) (X 424 0) ≠ -1)) 1 2 (ans = X 1027 r - 1 ∧ (∀ k, X2 1038 k = if k = 8 * p + q then r else X 1038 k) ∧ (∀ k, X2 1039 k = if k = 8 * p + q then X 424 0 else X 1039 k) ∧ (∀ k, X2 1027 k = if k = r then X 1027 r - 1 else X 1027 k) ∧ zsame [182, 220, 221, 222, 444, 1038, 1039, 1027] X X2) (zsame [444] X X2)
def dTest (X : zX) (p code ans : Int) (X2 : zX) : Prop := zd2 code (0 ≤ p ∧ p < X 434 0) (X 1035 p ≠ 0 ∧ X 1037 p = 0) 1 2 (ans = zfm X2 p 1 ∧ (∀ k, X2 1036 k = if k = p then 1 else X 1036 k) ∧ (∀ j, 8 * p ≤ j → j < 8 * p + 8 → X2 1042 j = if X 1042 j ≠ 0 ∨ (X 1033 (j - 8 * p) ≠ 0 ∧ X 1041 j ≠ 0) then 1 else 0) ∧ (∀ j, ¬(8 * p ≤ j ∧ j < 8 * p + 8) → X2 1042 j = X 1042 j) ∧ zsame [224, 41, 1042, 1036, 444] X X2) (zsame [444] X X2)
def dRepair (X : zX) (p q r code ans : Int) (X2 : zX) : Prop := zd2 code ((0 ≤ p ∧ p < X 434 0) ∧ (0 ≤ q ∧ q < 8) ∧ (0 ≤ r ∧ r < X 425 0)) (X 1042 (8 * p + q) ≠ 0 ∧ X 1043 (8 * p + q) = 0 ∧ X 1026 r = X 1026 (X 1038 (8 * p + q)) ∧ (0 < X 1027 r ∧ zclk (X 1029 r + 1) (X 1028 r) (X 1029 r) (X 424 0) ≠ -1)) 1 2 (ans = zfm X2 p 1 ∧ (∀ k, X2 1038 k = if k = 8 * p + q then r else X 1038 k) ∧ (∀ k, X2 1039 k = if k = 8 * p + q then X 424 0 else X 1039 k) ∧ (∀ k, X2 1027 k = if k = r then X 1027 r - 1 else X 1027 k) ∧ (∀ k, X2 1041 k = if k = 8 * p + q then 0 else X 1041 k) ∧ (∀ k, X2 1042 k = if k = 8 * p + q then 0 else X 1042 k) ∧ (∀ k, X2 1043 k = if k = 8 * p + q then 1 else X 1043 k) ∧ (∀ k, X2 1036 k = if k = p then 0 else X 1036 k) ∧ zsame [182, 220, 221, 222, 223, 224, 225, 41, 444, 1038, 1039, 1027, 1041, 1042, 1043, 1036] X X2) (zsame [444] X X2)
def dCover (X : zX) (p z code ans : Int) (X2 : zX) : Prop := zd1 code (0 ≤ p ∧ p < 8) 1 (ans = 0 + zsm (fun k => X2 1033 k) 0 8 ∧ X2 266 0 = (if z = 0 then zbC (X 266 0) p else zbO (X 266 0) p) ∧ (∀ k, X2 1033 k = if k = p then z else X 1033 k) ∧ zsame [266, 444, 1033] X X2) (zsame [444] X X2)
def dLimits (X : zX) (z p q r code _ans : Int) (X2 : zX) : Prop := (z = 0 → zd2 code (0 ≤ p ∧ p < 6) ((0 ≤ q ∧ q ≤ 400) ∧ (q ≤ r ∧ r ≤ 400)) 1 2 ((∀ k, X2 1031 k = if k = p then q else X 1031 k) ∧ (∀ k, X2 1032 k = if k = p then r else X 1032 k) ∧ zsame [507, 508, 444, 1031, 1032] X X2) (zsame [444] X X2)) ∧ (z = 1 → zd2 code (0 ≤ p ∧ p < 4) (0 ≤ q ∧ q ≤ 400) 1 2 ((∀ k, X2 1030 k = if k = p then q else X 1030 k) ∧ zsame [506, 444, 1030] X X2) (zsame [444] X X2))
def dSolder (X : zX) (p code ans : Int) (X2 : zX) : Prop := zd2 code (0 ≤ p ∧ p < X 434 0) (X 1035 p = 0) 1 2 (zpk (X 1030) (zmk X p) 12 0 25 (-1) = ans ∧ (∀ j, X2 1035 j = if j = p then 1 else X 1035 j) ∧ (∀ j, (X2 1040 j = if (8 * p ≤ j ∧ j < 8 * p + 8) ∧ X 1038 j ≠ -1 then zjf (X 1031 (X 1026 (X 1038 j))) (X 1032 (X 1026 (X 1038 j))) ans else X 1040 j) ∧ (X2 1041 j = if (8 * p ≤ j ∧ j < 8 * p + 8) ∧ X 1038 j ≠ -1 then zjf (X 1031 (X 1026 (X 1038 j))) (X 1032 (X 1026 (X 1038 j))) ans else X 1041 j)) ∧ ∀ f, f ∉ ([226, 227, 223, 40, 1040, 1041, 1035, 444] : List Int) → f ≠ 509 + p → X2 f = X f) (zsame [444] X X2)
/-- the pairs that fit and aren't mates -/
def zmt (X X2 : zX) (c : Int) : Int := zsm (fun a => zsm (fun h => zB ((X 1007 a = X 1007 h ∧ X 1008 a = X 1008 h) ∧ X2 1009 a ≠ h)) (a + 1) (c - (a + 1)).toNat) 0 c.toNat
theorem zmt_e {X X1 X2 : zX} {c : Int} (h : ∀ a, 0 ≤ a → a < c → X1 81 a = X 1007 a ∧ X1 82 a = X 1008 a ∧ X1 83 a = X2 1009 a) : zsm (zprs X1 c) 0 c.toNat = zmt X X2 c := by
  unfold zmt zprs
  refine zsm_congr _ _ (fun a a0 a1 => ?_)
  refine zsm_congr _ _ (fun b b0 b1 => ?_)
  have ha := h a a0 (by omega)
  have hb := h b (by omega) (by omega)
  show zpr1 X1 a b = zB ((X 1007 a = X 1007 b ∧ X 1008 a = X 1008 b) ∧ X2 1009 a ≠ b)
  unfold zpr1 zB
  rw [ha.1, ha.2.1, ha.2.2, hb.1, hb.2.1]
def dMates (X : zX) (p q code ans : Int) (X2 : zX) : Prop := zd3 code ((0 ≤ p ∧ p < X 405 0) ∧ (0 ≤ q ∧ q < X 405 0)) (p ≠ q) ((X 1007 p = X 1007 q ∧ X 1008 p = X 1008 q) ∧ X 1009 p = -1 ∧ X 1009 q = -1) 1 2 3 (ans = zmt X X2 (X 405 0) ∧ (∀ k, X2 1009 k = if k = q then p else if k = p then q else X 1009 k) ∧ zsame [83, 444, 1009] X X2) (zsame [444] X X2)
def dPull (X : zX) (p code ans : Int) (X2 : zX) : Prop := zd2 code (0 ≤ p ∧ p < X 410 0) (X 1011 p = 0) 1 2 (ans = X 245 p ∧ (∀ k, X2 1011 k = if k = p then 1 else X 1011 k) ∧ (∀ b, 0 ≤ b → b < X 400 0 → X2 1004 b = X 1004 b + zsm (fun m => zB (X 1015 m = b)) (16 * p) (X 1014 p).toNat) ∧ zsame [64, 84, 246, 444, 1004, 1011] X X2) (zsame [444] X X2)
def dWire (X : zX) (p q r u z code ans : Int) (X2 : zX) : Prop := zd3 code (zcv X p q ∧ zcv X r u) (p ≠ r ∧ (0 ≤ z ∧ z ≤ 7)) (¬(zty X (8 * p + q) ∨ zty X (8 * r + u) ∨ 1000000000 ≤ zcsm X (X 400 0) (X 1006 r) (X 1006 p) ∨ X 410 0 = 24)) 1 2 3 (ans = X 410 0 ∧ ∃ (v b : Nat → Int) (L : Nat), v 0 = X 1006 p ∧ (zcsm X (X 400 0) (X 1006 r) (X 1006 p) % 100).toNat = L ∧ zch X (zcsm X (X 400 0) (X 1006 r)) (X 400 0).toNat v b L ∧ (∀ j : Nat, j < L → 0 ≤ b j ∧ b j < X 400 0) ∧ X2 410 0 = X 410 0 + 1 ∧ (∀ k, X2 1012 k = if k = 2 * X 410 0 + 1 then 8 * r + u else if k = 2 * X 410 0 then 8 * p + q else X 1012 k) ∧ (∀ k, X2 1013 k = if k = X 410 0 then z else X 1013 k) ∧ (∀ k, X2 1014 k = if k = X 410 0 then (L : Int) else X 1014 k) ∧ (∀ j : Nat, j < L → X2 1015 (16 * X 410 0 + j) = b j) ∧ (∀ k, ¬(16 * X 410 0 ≤ k ∧ k < 16 * X 410 0 + L) → X2 1015 k = X 1015 k) ∧ (∀ i, X2 1004 i = X 1004 i - zsm (fun m => zB (b m.toNat = i)) 0 L) ∧ (∀ k, X2 245 k = if k = X 410 0 then zsm (fun m => X 63 (b m.toNat)) 0 L else X 245 k) ∧ zsame [20, 64, 84, 241, 243, 244, 245, 246, 500, 1016, 444, 410, 1004, 1012, 1013, 1014, 1015] X X2) (zsame [500, 1016, 444] X X2)
/-- what the law's numbers and those that stand nowhere have no part in -/
def zgh (X X' : zX) : Prop := ∀ f, f < 400 ∨ (500 ≤ f ∧ f ≤ 1000) ∨ 1100 ≤ f → X' f = X f
/-- a call: what the class does, and what it tells -/
def zcal (ec : List (Nat × Int)) (t : Int) (Y : zLy) (n s : Nat) (X : zX) (cls : zW → zR) (D : Int → Int → zX → Prop) : Prop := ∃ (Y' : zLy) (n' s' : Nat) (X1 X2 : zX) (code ans : Int), ((code = 0 ∧ cls (wd Y n s X) = some (.inl (some (.int (zJ ans))), wd Y' n' s' X1)) ∨ (∃ E, (E, code) ∈ ec ∧ code ≠ 0 ∧ cls (wd Y n s X) = some (.inr E, wd Y' n' s' X1))) ∧ D code ans X2 ∧ X2 444 0 = code ∧ (0 ≤ code ∧ code < 100) ∧ wY Y' n' ∧ wle Y n Y' n' ∧ n' ≤ n + 30 ∧ s ≤ s' ∧ s' ≤ s + 500 ∧ iAll (t + 1) Y'.2.2.2.2 X2 ∧ zgh X1 X2 ∧ ∀ f, 1100 ≤ f → X2 f = X f
def zcaN (ec : List (Nat × Int)) (t : Int) (Y : zLy) (n s : Nat) (X : zX) (cls : zW → zR) (D : Int → Int → zX → Prop) : Prop := ∃ (Y' : zLy) (n' s' : Nat) (X1 X2 : zX) (code : Int), ((code = 0 ∧ cls (wd Y n s X) = some (.inl none, wd Y' n' s' X1)) ∨ (∃ E, (E, code) ∈ ec ∧ code ≠ 0 ∧ cls (wd Y n s X) = some (.inr E, wd Y' n' s' X1))) ∧ D code 0 X2 ∧ X2 444 0 = code ∧ (0 ≤ code ∧ code < 100) ∧ wY Y' n' ∧ wle Y n Y' n' ∧ n' ≤ n + 30 ∧ s ≤ s' ∧ s' ≤ s + 500 ∧ iAll (t + 1) Y'.2.2.2.2 X2 ∧ zgh X1 X2 ∧ ∀ f, 1100 ≤ f → X2 f = X f
section ZK
variable {Y : zLy} {n s : Nat} {X : zX} {G : Nat × Nat} {t : Int}
theorem zcal_e {ec : List (Nat × Int)} {cls : zW → zR} {D : Int → Int → zX → Prop} (E : Nat) (code : Int) (hI : iAll t Y.2.2.2.2 X) (hY : wY Y n) (hec : (E, code) ∈ ec) (h0 : 0 < code ∧ code < 100) (hc : cls (wd Y n s X) = some (.inr E, wd Y (n + 1) (s + 6) X)) (hD : D code 0 (wu X 444 0 code)) : zcal ec t Y n s X cls D := by
  exact ⟨Y, n + 1, s + 6, X, wu X 444 0 code, code, 0, .inr ⟨E, hec, by omega, hc⟩, hD, wu_eq, by omega, ⟨wK_n hY.1 (Nat.le_succ _), hY.2⟩, ⟨Nat.le_succ _, rfl, fun _ _ _ _ h => ⟨h, rfl⟩, fun _ _ h => ⟨rfl, h⟩⟩, by omega, by omega, by omega, iAll_e hI hY.2.2.2.1.2 hY.2.2.2.2.2.1.2, fun f hf => funext fun j => wu_ne (by omega), fun f hf => funext fun j => wu_ne (by omega)⟩
theorem zcal_e2 {ec : List (Nat × Int)} {cls : zW → zR} {D : Int → Int → zX → Prop} {X1 X2 : zX} (E : Nat) (code : Int) (hY : wY Y n) (hec : (E, code) ∈ ec) (h0 : 0 < code ∧ code < 100) (hc : cls (wd Y n s X) = some (.inr E, wd Y (n + 1) (s + 6) X1)) (hD : D code 0 X2) (h4 : X2 444 0 = code) (hI : iAll (t + 1) Y.2.2.2.2 X2) (hg : zgh X1 X2) (hl : ∀ f, 1100 ≤ f → X2 f = X f) : zcal ec t Y n s X cls D := by
  exact ⟨Y, n + 1, s + 6, X1, X2, code, 0, .inr ⟨E, hec, by omega, hc⟩, hD, h4, by omega, ⟨wK_n hY.1 (Nat.le_succ _), hY.2⟩, ⟨Nat.le_succ _, rfl, fun _ _ _ _ h => ⟨h, rfl⟩, fun _ _ h => ⟨rfl, h⟩⟩, by omega, by omega, by omega, hI, hg, hl⟩
theorem zcal_0 {ec : List (Nat × Int)} {cls : zW → zR} {D : Int → Int → zX → Prop} {X1 X2 : zX} (ans : Int) (hY : wY Y n) (hc : cls (wd Y n s X) = some (.inl (some (.int (zJ ans))), wd Y n s X1)) (hD : D 0 ans X2) (h0 : X2 444 0 = 0) (hI : iAll (t + 1) Y.2.2.2.2 X2) (hg : zgh X1 X2) (hl : ∀ f, 1100 ≤ f → X2 f = X f) : zcal ec t Y n s X cls D := by
  exact ⟨Y, n, s, X1, X2, 0, ans, .inl ⟨rfl, hc⟩, hD, h0, by omega, hY, wle_r, by omega, by omega, by omega, hI, hg, hl⟩
theorem zcaN_e {ec : List (Nat × Int)} {cls : zW → zR} {D : Int → Int → zX → Prop} (E : Nat) (code : Int) (hI : iAll t Y.2.2.2.2 X) (hY : wY Y n) (hec : (E, code) ∈ ec) (h0 : 0 < code ∧ code < 100) (hc : cls (wd Y n s X) = some (.inr E, wd Y (n + 1) (s + 6) X)) (hD : D code 0 (wu X 444 0 code)) : zcaN ec t Y n s X cls D := by
  exact ⟨Y, n + 1, s + 6, X, wu X 444 0 code, code, .inr ⟨E, hec, by omega, hc⟩, hD, wu_eq, by omega, ⟨wK_n hY.1 (Nat.le_succ _), hY.2⟩, ⟨Nat.le_succ _, rfl, fun _ _ _ _ h => ⟨h, rfl⟩, fun _ _ h => ⟨rfl, h⟩⟩, by omega, by omega, by omega, iAll_e hI hY.2.2.2.1.2 hY.2.2.2.2.2.1.2, fun f hf => funext fun j => wu_ne (by omega), fun f hf => funext fun j => wu_ne (by omega)⟩
theorem zcaN_0 {ec : List (Nat × Int)} {cls : zW → zR} {D : Int → Int → zX → Prop} {X1 X2 : zX} (hY : wY Y n) (hc : cls (wd Y n s X) = some (.inl none, wd Y n s X1)) (hD : D 0 0 X2) (h0 : X2 444 0 = 0) (hI : iAll (t + 1) Y.2.2.2.2 X2) (hg : zgh X1 X2) (hl : ∀ f, 1100 ≤ f → X2 f = X f) : zcaN ec t Y n s X cls D := by
  exact ⟨Y, n, s, X1, X2, 0, .inl ⟨rfl, hc⟩, hD, h0, by omega, hY, wle_r, by omega, by omega, by omega, hI, hg, hl⟩
end ZK
theorem zB_T {i : Decidable True} : @zB True i = 1 := if_pos trivial
theorem zB_F {i : Decidable False} : @zB False i = 0 := if_neg id
section ZK
variable {Y : zLy} {n s : Nat} {X : zX} {G : Nat × Nat} {t p q r : Int}
theorem wY_n (hY : wY Y n) : Y.2.2.2.2 0 2 ≤ 24 ∧ Y.2.2.2.2 0 4 ≤ 12 := ⟨hY.2.2.2.1.2, hY.2.2.2.2.2.1.2⟩
theorem k_pass (hY : wY Y n) (hI : iAll t Y.2.2.2.2 X) (hp : -2147483648 ≤ p ∧ p < 2147483648) : zcal [(1, 1), (2, 2)] t Y n s X (fun W => ev_ G 192 0 [.ref (wA Y 13 0), .int (zJ p)] [] W) (dPass X p) := by
  have hF := wY_F hY
  have h13 := hF.2.1
  have hIw := hF.1
  obtain ⟨hn, hn4⟩ := wY_n hY
  obtain ⟨h1, h2, h3, h4, h5, h6, h7, h8, h9, h10, h11, h12⟩ := id hI
  have z9 := h9
  unfold iM at z9
  by_cases g1 : 1 ≤ p ∧ p ≤ 999
  · by_cases g2 : X 267 0 + p ≤ 9999
    · have g3 : ¬9999 < X 267 0 + p := by omega
      have e1 : wu X 267 0 (X 267 0 + p) 424 0 = X 424 0 := wu_ne (by decide)
      refine zcal_0 (X1 := wu X 267 0 (X 267 0 + p)) (X2 := wu (wu (wu X 267 0 (X 267 0 + p)) 444 0 0) 424 0 (X 267 0 + p)) (X 267 0 + p) hY ?_ (zd2_0 g1 (by omega) ⟨by omega, by rw [wu_eq]; omega, same_u (by decide) (same_u (by decide) (same_u (by decide) same_r))⟩) (by rw [wu_ne (by decide), wu_eq]) ?_ (fun f hf => funext fun j => by (try rw [← hX2]); (try rw [← hX0]); simp (disch := omega) only [wu_ne]) (fun f hf => by first | exact s0 f (by simp only [List.mem_cons, List.not_mem_nil, or_false, not_or]; omega) | (funext j; (try rw [← hX2]); (try rw [← hX0]); (try rw [← hX1]); (try rw [← hXB]); (try rw [← hXA]); simp (disch := omega) only [wu_ne]))
      · simp (disch := first | assumption | omega) only [q_X11_pass_0, q_X11_pass_28, c_isWithin, ↓reduceIte, zB_T, zB_F, zB_if, ite_not, z_10, z_00, i_10, i_00, if_true, if_false, c_cIx0, c_cIx1, c_cAr0, c_cAr1, c_cSt0, c_cSt1, l_0, l_1, l_2, l_3, l_4, l_5, l_6, l_7, l_8, l_9, l_10, l_12, l_16, l_24, l_31, l_32, l_48, l_96, l_99, l_100, l_150, l_180, l_200, l_240, l_255, l_260, l_384, l_400, l_999, l_5000, l_9999, l_1000000, l_1000000000, t_I, t_Ie, t_R, t_Re, t_N, t_Nn, t_V, t_Ve, t_b, t_x, t_w, e_0, e_1, e_2, e_3, zJ_lt, zJ_le, zJ_eq, zJ_add, zJ_sub, zJ_mul, zJ_neg, g1, and_self, g13_7, p13_7, g3, wu_eq]
      · have s0 : zsame [267, 444, 424] X (wu (wu (wu X 267 0 (X 267 0 + p)) 444 0 0) 424 0 (X 267 0 + p)) := same_u (by decide) (same_u (by decide) (same_u (by decide) same_r))
        refine ⟨iB_c h1 (same_g s0 (by decide)) rfl, iC_c h2 (same_g s0 (by decide)) rfl, iT_c h3 (same_g s0 (by decide)) rfl, iW_c h4 (same_g s0 (by decide)) (fun _ _ _ => rfl) hn, iF_c h5 (same_g s0 (by decide)), iO_c h6 (same_g s0 (by decide)), iD_c h7 (same_g s0 (by decide)) (by omega), iR_c h8 (same_g s0 (by decide)) rfl, ?_, iV_c h10 (same_g s0 (by decide)), iH_c h11 (same_g s0 (by decide)), iS_c h12 (same_g s0 (by decide)) rfl rfl hn4⟩
        unfold iM
        rw [wu_eq, wu_ne (by decide), wu_ne (by decide), wu_eq]
        omega
    · have g3 : 9999 < X 267 0 + p := by omega
      refine zcal_e 2 2 hI hY (by decide) (by decide) ?_ (by first | exact zd1_1 (by first | assumption | omega) (same_u (by decide) same_r) | exact zd2_1 (by first | assumption | omega) (same_u (by decide) same_r) | exact zd2_2 (by first | assumption | omega) (by first | assumption | omega) (same_u (by decide) same_r) | exact zd3_1 (by first | assumption | omega) (same_u (by decide) same_r) | exact zd3_2 (by first | assumption | omega) (by first | assumption | omega) (same_u (by decide) same_r) | exact zd3_3 (by first | assumption | omega) (by first | assumption | omega) (by first | assumption | omega) (same_u (by decide) same_r))
      · simp (disch := first | assumption | omega) only [q_X11_pass_0, q_X11_pass_28, c_isWithin, ↓reduceIte, zB_T, zB_F, zB_if, ite_not, z_10, z_00, i_10, i_00, if_true, if_false, c_cIx0, c_cIx1, c_cAr0, c_cAr1, c_cSt0, c_cSt1, l_0, l_1, l_2, l_3, l_4, l_5, l_6, l_7, l_8, l_9, l_10, l_12, l_16, l_24, l_31, l_32, l_48, l_96, l_99, l_100, l_150, l_180, l_200, l_240, l_255, l_260, l_384, l_400, l_999, l_5000, l_9999, l_1000000, l_1000000000, t_I, t_Ie, t_R, t_Re, t_N, t_Nn, t_V, t_Ve, t_b, t_x, t_w, e_0, e_1, e_2, e_3, zJ_lt, zJ_le, zJ_eq, zJ_add, zJ_sub, zJ_mul, zJ_neg, g1, and_self, g13_7, p13_7, g3]
  · refine zcal_e 1 1 hI hY (by decide) (by decide) ?_ (by first | exact zd1_1 (by first | assumption | omega) (same_u (by decide) same_r) | exact zd2_1 (by first | assumption | omega) (same_u (by decide) same_r) | exact zd2_2 (by first | assumption | omega) (by first | assumption | omega) (same_u (by decide) same_r) | exact zd3_1 (by first | assumption | omega) (same_u (by decide) same_r) | exact zd3_2 (by first | assumption | omega) (by first | assumption | omega) (same_u (by decide) same_r) | exact zd3_3 (by first | assumption | omega) (by first | assumption | omega) (by first | assumption | omega) (same_u (by decide) same_r))
    · simp (disch := first | assumption | omega) only [q_X11_pass_0, c_isWithin, ↓reduceIte, zB_T, zB_F, zB_if, ite_not, z_10, z_00, i_10, i_00, if_true, if_false, c_cIx0, c_cIx1, c_cAr0, c_cAr1, c_cSt0, c_cSt1, l_0, l_1, l_2, l_3, l_4, l_5, l_6, l_7, l_8, l_9, l_10, l_12, l_16, l_24, l_31, l_32, l_48, l_96, l_99, l_100, l_150, l_180, l_200, l_240, l_255, l_260, l_384, l_400, l_999, l_5000, l_9999, l_1000000, l_1000000000, t_I, t_Ie, t_R, t_Re, t_N, t_Nn, t_V, t_Ve, t_b, t_x, t_w, e_0, e_1, e_2, e_3, g1]
theorem zb_k : ∀ o : Fin 256, ∀ v : Fin 8, zb2 (o.val : Int) (v.val : Int) = zbt (o.val : Int) (v.val : Int) := by decide +kernel
theorem zb_e {o v : Int} (h : 0 ≤ o ∧ o ≤ 255) (h' : 0 ≤ v ∧ v < 8) : zb2 o v = zbt o v := by
  obtain ⟨a, rfl⟩ := zJ_fin h.1 256 (by omega)
  obtain ⟨b, rfl⟩ := zJ_fin h'.1 8 (by omega)
  exact zb_k a b
/-- a wire's length on both sides -/
theorem zln_e {Q : zQs} {w : Int} (hB : iB Q X) (hw : iW1 Q X w) : zln1 X w = if X 246 w = 0 then X 245 w else 0 := by
  obtain ⟨a1, a2, a3, a4, a5, a6⟩ := hw
  unfold zln1
  rw [← a1.1, a6, a4.1]
  split
  · refine zsm_congr _ _ (fun j h1 h2 => ?_)
    have e := a5 (j - 16 * w) (by omega) (by omega)
    rw [show 16 * w + (j - 16 * w) = j by omega] at e
    rw [e.1]
    exact (hB.2 _ e.2.1 e.2.2).1.2.2.2.1
  · rfl
theorem zwt_e {Q : zQs} {o w : Int} (ho : 0 ≤ o ∧ o ≤ 255) (hB : iB Q X) (hw : iW1 Q X w) : zwg X o w = zwt X o w := by
  unfold zwg zwt
  rw [zln_e hB hw, ← hw.1.2.1, zb_e ho hw.1.2.2]
  by_cases h1 : zbt o (X 244 w) = true
  · rw [if_pos h1]
    by_cases h2 : X 246 w = 0
    · rw [if_pos h2, if_pos ⟨h2, h1⟩]
    · rw [if_neg h2, if_neg (fun g => h2 g.1)]
  · rw [if_neg h1, if_neg (fun g => h1 g.2)]
theorem zwts_e {Q : zQs} {o : Int} (ho : 0 ≤ o ∧ o ≤ 255) (hB : iB Q X) (hW : iW Q X) : zsm (zwg X o) 0 (X 410 0).toNat = zsm (zwt X o) 0 (Q 0 2).toNat := by
  rw [hW.1]
  exact zsm_congr _ _ (fun j h1 h2 => zwt_e ho hB (hW.2.2.2 j h1 (by omega)))
theorem iW_m {Q : zQs} (hW : iW Q X) (h : 0 ≤ Q 0 2 ∧ Q 0 2 ≤ 24) (hb : Q 0 0 ≤ 16) : wWm X := by
  unfold wWm
  rw [hW.1]
  refine ⟨h, fun w w1 w2 => ?_⟩
  obtain ⟨a1, a2, a3, a4, a5, a6⟩ := hW.2.2.2 w w1 w2
  refine ⟨by omega, hW.2.1 w w1 (by omega), fun k k1 k2 => ?_⟩
  have e := a5 (k - 16 * w) (by omega) (by omega)
  rw [show 16 * w + (k - 16 * w) = k by omega] at e
  omega
theorem same_444 {X' : zX} (h : wu X 444 0 0 = X') : zsame [444] X X' := by
  rw [← h]
  exact same_u (by decide) same_r
end ZK
