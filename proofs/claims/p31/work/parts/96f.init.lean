/-! THE TWO SIDES, 99: the reference's first values -/
def zL1 (i : Int) (X : zX) : zX := fun f j => if f = 1009 ∧ i ≤ j ∧ j < 8 then -1 else X f j
def zL2 (i : Int) (X : zX) : zX := fun f j => if (f = 1038 ∨ f = 1039 ∨ f = 1040) ∧ i ≤ j ∧ j < 96 then -1 else X f j
def zL3 (i : Int) (X : zX) : zX := fun f j => if f = 1033 ∧ i ≤ j ∧ j < 8 then 1 else X f j
def zL4 (i : Int) (X : zX) : zX := fun f j => if f = 1031 ∧ i ≤ j ∧ j < 6 then 180 else if f = 1032 ∧ i ≤ j ∧ j < 6 then 260 else X f j
def zL5 (X : zX) : zX := wu (wu (wu (wu X 1030 0 150) 1030 1 200) 1030 2 240) 1030 3 100
section ZM
variable {Y : zLy} {n s : Nat} {X : zX} {G : Nat × Nat} {i : Int}
theorem i_5 (hM : wM Y) : ∀ (k : Nat) (i : Int) (X : zX), 0 ≤ i → i + k = 6 → ev_ G 11 360 [.ref (wA Y 14 0), .int (zJ i)] [] (wd Y n s X) = some (.inl none, wd Y n s (zL5 (zL4 i X))) := False.elim hM
theorem i_4 (hM : wM Y) : ∀ (k : Nat) (i : Int) (X : zX), 0 ≤ i → i + k = 8 → ev_ G 11 339 [.ref (wA Y 14 0), .int (zJ i)] [] (wd Y n s X) = some (.inl none, wd Y n s (zL5 (zL4 0 (zL3 i X)))) := False.elim hM
theorem i_3 (hM : wM Y) : ∀ (k : Nat) (i : Int) (X : zX), 0 ≤ i → i + k = 96 → ev_ G 11 304 [.ref (wA Y 14 0), .int (zJ i)] [] (wd Y n s X) = some (.inl none, wd Y n s (zL5 (zL4 0 (zL3 0 (zL2 i X))))) := False.elim hM
theorem i_2 (hM : wM Y) : ∀ (k : Nat) (i : Int) (X : zX), 0 ≤ i → i + k = 8 → ev_ G 11 283 [.ref (wA Y 14 0), .int (zJ i)] [] (wd Y n s X) = some (.inl none, wd Y n s (zL5 (zL4 0 (zL3 0 (zL2 0 (zL1 i X)))))) := False.elim hM
/-- all numbers at last -/
def zXi : zX := zL5 (zL4 0 (zL3 0 (zL2 0 (zL1 0 (zov zXz)))))
theorem zXi_o {f j : Int} (h : f ≠ 266 ∧ f ≠ 506 ∧ f ≠ 507 ∧ f ≠ 508 ∧ f ≠ 1009 ∧ f ≠ 1030 ∧ f ≠ 1031 ∧ f ≠ 1032 ∧ f ≠ 1033 ∧ f ≠ 1038 ∧ f ≠ 1039 ∧ f ≠ 1040) : zXi f j = 0 := by
  unfold zXi zL5
  rw [wu_ne (by omega), wu_ne (by omega), wu_ne (by omega), wu_ne (by omega)]
  unfold zL4
  rw [if_neg (by omega), if_neg (by omega)]
  unfold zL3
  rw [if_neg (by omega)]
  unfold zL2
  rw [if_neg (by omega)]
  unfold zL1
  rw [if_neg (by omega)]
  unfold zov
  rw [if_neg (by omega), if_neg (by omega), wu_ne (by omega), wu_ne (by omega), wu_ne (by omega), wu_ne (by omega)]
  exact zXz_0 (by omega)
theorem zXi_w {f j : Int} (h : f < 1009) : zXi f j = zov zXz f j := by
  unfold zXi zL5
  rw [wu_ne (by omega), wu_ne (by omega), wu_ne (by omega), wu_ne (by omega)]
  unfold zL4
  rw [if_neg (by omega), if_neg (by omega)]
  unfold zL3
  rw [if_neg (by omega)]
  unfold zL2
  rw [if_neg (by omega)]
  unfold zL1
  rw [if_neg (by omega)]
end ZM
