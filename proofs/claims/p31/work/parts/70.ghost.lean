/-! THE TWO SIDES, 21: the reference's small methods -/
section ZM
variable {Y : zLy} {n s : Nat} {X : zX} {G : Nat × Nat} {i j : Int}
theorem a_B (p : Prop) [Decidable p] : zJ (zB p) &&& zJ 1 = zJ (zB p) := a_b (zB_r p).1 (zB_r p).2
theorem m_isConnector {a : Int} (hM : wM Y) (hn : 0 ≤ X 405 0 ∧ X 405 0 < 1000) (ha : -2147483648 ≤ a) (ha' : a < 2147483648) : ev_ G 50 0 [.ref (wA Y 14 0), .int (zJ a)] [] (wd Y n s X) = some (.inl (some (.int (zJ (zB (0 ≤ a ∧ a < X 405 0))))), wd Y n s X) := False.elim hM
theorem m_isWire {a : Int} (hM : wM Y) (hn : 0 ≤ X 410 0 ∧ X 410 0 < 1000) (ha : -2147483648 ≤ a) (ha' : a < 2147483648) : ev_ G 81 0 [.ref (wA Y 14 0), .int (zJ a)] [] (wd Y n s X) = some (.inl (some (.int (zJ (zB (0 ≤ a ∧ a < X 410 0))))), wd Y n s X) := False.elim hM
theorem m_isReel {a : Int} (hM : wM Y) (hn : 0 ≤ X 425 0 ∧ X 425 0 < 1000) (ha : -2147483648 ≤ a) (ha' : a < 2147483648) : ev_ G 135 0 [.ref (wA Y 14 0), .int (zJ a)] [] (wd Y n s X) = some (.inl (some (.int (zJ (zB (0 ≤ a ∧ a < X 425 0))))), wd Y n s X) := False.elim hM
theorem m_isBoard {a : Int} (hM : wM Y) (hn : 0 ≤ X 434 0 ∧ X 434 0 < 1000) (ha : -2147483648 ≤ a) (ha' : a < 2147483648) : ev_ G 153 0 [.ref (wA Y 14 0), .int (zJ a)] [] (wd Y n s X) = some (.inl (some (.int (zJ (zB (0 ≤ a ∧ a < X 434 0))))), wd Y n s X) := False.elim hM
theorem m_fails {a : Int} (hM : wM Y) (ha : 0 ≤ a) (ha' : a < 100) : ev_ G 33 0 [.ref (wA Y 14 0), .int (zJ a)] [] (wd Y n s X) = some (.inl (some (.int (zJ (zB (0 < a))))), wd Y n s (wu X 444 0 a)) := False.elim hM
theorem m_thrown (hM : wM Y) : ev_ G 35 0 [.ref (wA Y 14 0)] [] (wd Y n s X) = some (.inl (some (.int (zJ (X 444 0)))), wd Y n s X) := False.elim hM
theorem m_costOf (hM : wM Y) (hi : 0 ≤ i) (hi' : i < 16) : ev_ G 70 0 [.ref (wA Y 14 0), .int (zJ i)] [] (wd Y n s X) = some (.inl (some (.int (zJ (100 * X 1003 i + 1)))), wd Y n s X) := False.elim hM
theorem m_across {v : Int} (hM : wM Y) (hi : 0 ≤ i) (hi' : i < 16) (r1 : 0 ≤ X 1001 i ∧ X 1001 i < 8) (r2 : 0 ≤ X 1002 i ∧ X 1002 i < 8) (r3 : -1 ≤ v ∧ v < 8) : ev_ G 73 0 [.ref (wA Y 14 0), .int (zJ i), .int (zJ v)] [] (wd Y n s X) = some (.inl (some (.int (zJ (zac (X 1001 i) (X 1002 i) v)))), wd Y n s X) := False.elim hM
theorem m_fit (hM : wM Y) (hi : 0 ≤ i) (hi' : i < 8) (hj : 0 ≤ j) (hj' : j < 8) (hr : ∀ a : Int, a = X 1007 i ∨ a = X 1007 j ∨ a = X 1008 i ∨ a = X 1008 j → 0 ≤ a ∧ a < 100) : ev_ G 51 0 [.ref (wA Y 14 0), .int (zJ i), .int (zJ j)] [] (wd Y n s X) = some (.inl (some (.int (zJ (zB (X 1007 i = X 1007 j ∧ X 1008 i = X 1008 j))))), wd Y n s X) := False.elim hM
theorem m_runs (hM : wM Y) (hi : 0 ≤ i) (hi' : i < 12) (r1 : -1 ≤ X 1029 i ∧ X 1029 i < 10000) (r2 : 0 ≤ X 1028 i ∧ X 1028 i < 10000) (r3 : 0 ≤ X 424 0 ∧ X 424 0 < 10000) : ev_ G 136 0 [.ref (wA Y 14 0), .int (zJ i), zU] [] (wd Y n s X) = some (.inl (some (.int (zJ (zclk (X 1029 i + 1) (X 1028 i) (X 1029 i) (X 424 0))))), wd Y n s X) := False.elim hM
theorem m_gives (hM : wM Y) (hi : 0 ≤ i) (hi' : i < 12) (r1 : -1 ≤ X 1029 i ∧ X 1029 i < 10000) (r2 : 0 ≤ X 1028 i ∧ X 1028 i < 10000) (r3 : 0 ≤ X 424 0 ∧ X 424 0 < 10000) (r4 : 0 ≤ X 1027 i ∧ X 1027 i < 1000) : ev_ G 155 0 [.ref (wA Y 14 0), .int (zJ i)] [] (wd Y n s X) = some (.inl (some (.int (zJ (zB (0 < X 1027 i ∧ zclk (X 1029 i + 1) (X 1028 i) (X 1029 i) (X 424 0) ≠ -1))))), wd Y n s X) := False.elim hM
end ZM
/-! THE TWO SIDES, 22: the reference's loops -/
section ZM
variable {Y : zLy} {n s : Nat} {X : zX} {G : Nat × Nat} {i j : Int}
theorem m_faultsR {b f : Int} (hM : wM Y) (hb : 0 ≤ b ∧ b < 12) (hr : ∀ k, 0 ≤ k → k < 96 → 0 ≤ X 1041 k ∧ X 1041 k < 6 ∧ 0 ≤ X 1042 k ∧ X 1042 k ≤ 1) (hf : 0 ≤ f ∧ f ≤ 1) : ∀ (k : Nat) (i t : Int), 8 * b ≤ i → i + k = 8 * b + 8 → ev_ G 183 8 [.ref (wA Y 14 0), .int (zJ b), .int (zJ f), .int (zJ t), .int (zJ i)] [] (wd Y n s X) = some (.inl (some (.int (zJ (t + zsm (fun m => zB (X 1041 m ≠ 0 ∧ X 1042 m = f)) i k)))), wd Y n s X) := False.elim hM
theorem m_faults {b f : Int} (hM : wM Y) (hb : 0 ≤ b ∧ b < 12) (hr : ∀ k, 0 ≤ k → k < 96 → 0 ≤ X 1041 k ∧ X 1041 k < 6 ∧ 0 ≤ X 1042 k ∧ X 1042 k ≤ 1) (hf : 0 ≤ f ∧ f ≤ 1) : ev_ G 183 0 [.ref (wA Y 14 0), .int (zJ b), .int (zJ f), zU, zU] [] (wd Y n s X) = some (.inl (some (.int (zJ (zsm (fun m => zB (X 1041 m ≠ 0 ∧ X 1042 m = f)) (8 * b) 8)))), wd Y n s X) := False.elim hM
theorem m_peak2 {b m : Int} (hM : wM Y) (hm : 1 ≤ m ∧ m ≤ 100) (hh : ∀ z, 0 ≤ z → z < 4 → 0 ≤ X 1030 z ∧ X 1030 z ≤ 1000) : ∀ (c : Nat) (k x p : Int), 0 ≤ k → c + k = 12 → 0 ≤ x → x ≤ 1000 → -1 ≤ p → p ≤ 1000 → ev_ G 170 51 [.ref (wA Y 14 0), .int (zJ b), .int (zJ m), .int (zJ x), .int (zJ p), .int (zJ k)] [] (wd Y n s X) = some (.inl (some (.int (zJ (zpk (X 1030) m c k x p)))), wd Y n s X) := False.elim hM
theorem m_peak1 {b : Int} (hM : wM Y) (hb : 0 ≤ b ∧ b < 12) (hr : ∀ k, 0 ≤ k → k < 96 → -1 ≤ X 1038 k ∧ X 1038 k < 100) : ∀ (k : Nat) (i t : Int), 8 * b ≤ i → i + k = 8 * b + 8 → ev_ G 170 7 [.ref (wA Y 14 0), .int (zJ b), .int (zJ t), .int (zJ i), zU, zU] [] (wd Y n s X) = ev_ G 170 51 [.ref (wA Y 14 0), .int (zJ b), .int (zJ (t + zsm (fun m => zB (X 1038 m ≠ -1)) i k)), .int (zJ 25), .int (zJ (-1)), .int (zJ 0)] [] (wd Y n s X) := False.elim hM
def zmk (X : zX) (b : Int) : Int := 2 + zsm (fun m => zB (X 1038 m ≠ -1)) (8 * b) 8
theorem zmk_r (X : zX) (b : Int) : 2 ≤ zmk X b ∧ zmk X b ≤ 10 := by
  have := zsm_B (f := fun m => zB (X 1038 m ≠ -1)) (fun i => zB_r _) 8 (8 * b)
  unfold zmk
  omega
theorem m_peakOf {b : Int} (hM : wM Y) (hb : 0 ≤ b ∧ b < 12) (hr : ∀ k, 0 ≤ k → k < 96 → -1 ≤ X 1038 k ∧ X 1038 k < 100) (hh : ∀ z, 0 ≤ z → z < 4 → 0 ≤ X 1030 z ∧ X 1030 z ≤ 1000) : ev_ G 170 0 [.ref (wA Y 14 0), .int (zJ b), zU, zU, zU, zU] [] (wd Y n s X) = some (.inl (some (.int (zJ (zpk (X 1030) (zmk X b) 12 0 25 (-1))))), wd Y n s X) := False.elim hM
-- lengths and weights
def zln1 (X : zX) (w : Int) : Int := if X 1011 w = 0 then zsm (fun k => X 1003 (X 1015 k)) (16 * w) (X 1014 w).toNat else 0
theorem m_lenR {w : Int} (hM : wM Y) (hw : 0 ≤ w ∧ w < 24) (hm : 0 ≤ X 1014 w ∧ X 1014 w ≤ 16) (ho : X 1011 w = 0) (hb : ∀ k, 16 * w ≤ k → k < 16 * w + X 1014 w → 0 ≤ X 1015 k ∧ X 1015 k < 16) : ∀ (k : Nat) (i t : Int), 16 * w ≤ i → i + k = 16 * w + X 1014 w → ev_ G 82 7 [.ref (wA Y 14 0), .int (zJ w), .int (zJ t), .int (zJ i)] [] (wd Y n s X) = some (.inl (some (.int (zJ (t + zsm (fun k => X 1003 (X 1015 k)) i k)))), wd Y n s X) := False.elim hM
theorem m_len {w : Int} (hM : wM Y) (hw : 0 ≤ w ∧ w < 24) (hm : 0 ≤ X 1014 w ∧ X 1014 w ≤ 16) (ho : 0 ≤ X 1011 w ∧ X 1011 w ≤ 1) (hb : ∀ k, 16 * w ≤ k → k < 16 * w + X 1014 w → 0 ≤ X 1015 k ∧ X 1015 k < 16) : ev_ G 82 0 [.ref (wA Y 14 0), .int (zJ w), zU, zU] [] (wd Y n s X) = some (.inl (some (.int (zJ (zln1 X w)))), wd Y n s X) := False.elim hM
end ZM
/-! THE TWO SIDES, 23: the reference's loops, on -/
def zb2 (o v : Int) : Bool := decide ((zJ o >>> (zJ v &&& zJ 31)) &&& zJ 1 = zJ 1)
theorem zb2_e {o v : Int} : ((zJ o >>> (zJ v &&& zJ 31)) &&& zJ 1 = zJ 1) = (zb2 o v = true) := by
  unfold zb2
  rw [decide_eq_true_eq]
def zwg (X : zX) (o : Int) (w : Int) : Int := if zb2 o (X 1013 w) = true then zln1 X w else 0
section ZM
variable {Y : zLy} {n s : Nat} {X : zX} {G : Nat × Nat} {i j : Int}
theorem m_weighsR {o : Int} (hM : wM Y) (hn : 0 ≤ X 410 0 ∧ X 410 0 ≤ 24) (hr : ∀ w, 0 ≤ w → w < X 410 0 → (0 ≤ X 1014 w ∧ X 1014 w ≤ 16) ∧ (0 ≤ X 1011 w ∧ X 1011 w ≤ 1) ∧ (∀ k, 16 * w ≤ k → k < 16 * w + X 1014 w → 0 ≤ X 1015 k ∧ X 1015 k < 16)) : ∀ (k : Nat) (i t : Int), 0 ≤ i → i + k = X 410 0 → ev_ G 92 4 [.ref (wA Y 14 0), .int (zJ o), .int (zJ t), .int (zJ i)] [] (wd Y n s X) = some (.inl (some (.int (zJ (t + zsm (zwg X o) i k)))), wd Y n s X) := False.elim hM
theorem m_weighs {o : Int} (hM : wM Y) (hn : 0 ≤ X 410 0 ∧ X 410 0 ≤ 24) (hr : ∀ w, 0 ≤ w → w < X 410 0 → (0 ≤ X 1014 w ∧ X 1014 w ≤ 16) ∧ (0 ≤ X 1011 w ∧ X 1011 w ≤ 1) ∧ (∀ k, 16 * w ≤ k → k < 16 * w + X 1014 w → 0 ≤ X 1015 k ∧ X 1015 k < 16)) : ev_ G 92 0 [.ref (wA Y 14 0), .int (zJ o), zU, zU] [] (wd Y n s X) = some (.inl (some (.int (zJ (zsm (zwg X o) 0 (X 410 0).toNat)))), wd Y n s X) := False.elim hM
theorem m_winR {m : Int} (hM : wM Y) (hm : 1 ≤ m ∧ m ≤ 8) (hf : ∀ k, 0 ≤ k → k < 8 → 0 ≤ X 1023 k ∧ X 1023 k < 10000) : ∀ (k : Nat) (i t : Int), 0 ≤ i → i + k = m → 0 ≤ t → t ≤ 10000 * i → ev_ G 121 33 [.ref (wA Y 14 0), .int (zJ m), .int (zJ t), .int (zJ i)] [] (wd Y n s X) = some (.inl (some (.int (zJ ((t + zsm (X 1023) i k) / m)))), wd Y n s X) := False.elim hM
def zwin2 (X : zX) : Int := if X 422 0 < 3 then 0 else zsm (X 1023) 0 (min (X 422 0) 8).toNat / min (X 422 0) 8
theorem m_window (hM : wM Y) (hg : 0 ≤ X 422 0 ∧ X 422 0 < 100000) (hf : ∀ k, 0 ≤ k → k < 8 → 0 ≤ X 1023 k ∧ X 1023 k < 10000) : ev_ G 121 0 [.ref (wA Y 14 0), zU, zU, zU] [] (wd Y n s X) = some (.inl (some (.int (zJ (zwin2 X)))), wd Y n s X) := False.elim hM
/-- whether a wire that is in ends at a cavity -/
def ztk1 (X : zX) (c w : Int) : Prop := X 1011 w = 0 ∧ (X 1012 (2 * w) = c ∨ X 1012 (2 * w + 1) = c)
theorem m_takenR {c : Int} (hM : wM Y) (hn : 0 ≤ X 410 0 ∧ X 410 0 ≤ 24) (hc : 0 ≤ c ∧ c < 100) (hr : ∀ w, 0 ≤ w → w < X 410 0 → (0 ≤ X 1011 w ∧ X 1011 w ≤ 1) ∧ (0 ≤ X 1012 (2 * w) ∧ X 1012 (2 * w) < 100) ∧ (0 ≤ X 1012 (2 * w + 1) ∧ X 1012 (2 * w + 1) < 100)) : ∀ (k : Nat) (i t : Int), 0 ≤ i → i + k = X 410 0 → 0 ≤ t → t ≤ 1 → ((t = 1 ∨ ∃ w, i ≤ w ∧ w < X 410 0 ∧ ztk1 X c w) → ev_ G 72 4 [.ref (wA Y 14 0), .int (zJ c), .int (zJ t), .int (zJ i)] [] (wd Y n s X) = some (.inl (some (.int (zJ 1))), wd Y n s X)) ∧ (¬(t = 1 ∨ ∃ w, i ≤ w ∧ w < X 410 0 ∧ ztk1 X c w) → ev_ G 72 4 [.ref (wA Y 14 0), .int (zJ c), .int (zJ t), .int (zJ i)] [] (wd Y n s X) = some (.inl (some (.int (zJ 0))), wd Y n s X)) := False.elim hM
/-- rooms along a way of the reference -/
def zrm2 (d : Int) : Int → Nat → zX → zX
  | _, 0, X => X
  | i, k + 1, X => zrm2 d (i + 1) k (wu X 1004 (X 1015 i) (X 1004 (X 1015 i) + d))
theorem m_pullR {w t : Int} (hM : wM Y) (hw : 0 ≤ w ∧ w < 24) : ∀ (k : Nat) (i : Int) (X : zX), (0 ≤ X 1014 w ∧ X 1014 w ≤ 16) → (∀ k, 16 * w ≤ k → k < 16 * w + X 1014 w → 0 ≤ X 1015 k ∧ X 1015 k < 16) → 16 * w ≤ i → i + k = 16 * w + X 1014 w → ev_ G 83 53 [.ref (wA Y 14 0), .int (zJ w), .int (zJ t), .int (zJ i)] [] (wd Y n s X) = some (.inl (some (.int (zJ t))), wd Y n s (zrm2 1 i k X)) := False.elim hM
end ZM
/-! THE TWO SIDES, 24: the reference's pairs, ways and covers -/
section ZM
variable {Y : zLy} {n s : Nat} {X : zX} {G : Nat × Nat} {i j : Int}
def zpr2 (X : zX) (a h : Int) : Int := zB ((X 1007 a = X 1007 h ∧ X 1008 a = X 1008 h) ∧ X 1009 a ≠ h)
theorem m_pairs2 {a c d e : Int} (hM : wM Y) (ha : 0 ≤ a ∧ a < 8) (hr : ∀ c, 0 ≤ c → c < 8 → 0 ≤ X 1007 c ∧ X 1007 c < 100 ∧ 0 ≤ X 1008 c ∧ X 1008 c < 100 ∧ -1 ≤ X 1009 c ∧ X 1009 c < 100) : ∀ (k : Nat) (i t : Int), 0 ≤ i → i + k = a → ev_ G 52 114 [.ref (wA Y 14 0), .int (zJ c), .int (zJ d), .int (zJ e), .int (zJ t), .int (zJ a), .int (zJ i)] [] (wd Y n s X) = ev_ G 52 102 [.ref (wA Y 14 0), .int (zJ c), .int (zJ d), .int (zJ e), .int (zJ (t + zsm (zpr2 X a) i k)), .int (zJ (a + 1)), .int (zJ a)] [] (wd Y n s X) := False.elim hM
def zprm (X : zX) (a : Int) : Int := zsm (zpr2 X a) 0 a.toNat
theorem m_pairs1 {c d e : Int} (hM : wM Y) (hn : 0 ≤ X 405 0 ∧ X 405 0 ≤ 8) (hr : ∀ c, 0 ≤ c → c < 8 → 0 ≤ X 1007 c ∧ X 1007 c < 100 ∧ 0 ≤ X 1008 c ∧ X 1008 c < 100 ∧ -1 ≤ X 1009 c ∧ X 1009 c < 100) : ∀ (k : Nat) (i t : Int) (u : Value), 0 ≤ i → i + k = X 405 0 → ev_ G 52 102 [.ref (wA Y 14 0), .int (zJ c), .int (zJ d), .int (zJ e), .int (zJ t), .int (zJ i), u] [] (wd Y n s X) = some (.inl (some (.int (zJ (t + zsm (zprm X) i k)))), wd Y n s X) := False.elim hM
end ZM
/-! THE TWO SIDES, 25: the reference's costs -/
def zrf (X : zX) (c : Int → Int) : zX := fun f j => if f = 1016 then c j else X f j
theorem zrf_f {X : zX} {c : Int → Int} {f j : Int} (h : f ≠ 1016) : zrf X c f j = X f j := if_neg h
theorem zrf_c {X : zX} {c : Int → Int} {j : Int} : zrf X c 1016 j = c j := if_pos rfl
theorem zrf_u {X : zX} {c : Int → Int} {v x : Int} : wu (zrf X c) 1016 v x = zrf X (fun j => if j = v then x else c j) := by
  funext f j
  unfold wu zrf
  by_cases h : f = 1016
  · by_cases h' : j = v
    · rw [if_pos ⟨h, h'⟩, if_pos h]
      exact (if_pos h').symm
    · rw [if_neg (fun q => h' q.2), if_pos h, if_pos h]
      exact (if_neg h').symm
  · rw [if_neg (fun q => h q.1), if_neg h, if_neg h]
def zst2 (e o k : Int) (c : Int → Int) : Int → Int := fun j => if j = e then min (c e) (k + c o) else if j = o then min (c o) (k + c e) else c j
def zstm (X : zX) (i : Int) (c : Int → Int) : Int → Int := if zJ (X 1004 i) ≤ zJ 0 then c else zst2 (X 1001 i) (X 1002 i) (100 * X 1003 i + 1) c
def zrdm (X : zX) : Nat → Int → (Int → Int) → Int → Int
  | 0, _, c => c
  | k + 1, i, c => zrdm X k (i + 1) (zstm X i c)
def zrdsm (X : zX) (nb : Nat) : Nat → (Int → Int) → Int → Int
  | 0, c => c
  | k + 1, c => zrdsm X nb k (zrdm X nb 0 c)
def zcbm (c : Int → Int) : Prop := ∀ j, 0 ≤ c j ∧ c j ≤ 1000000000
theorem zst2_b {e o k : Int} {c : Int → Int} (hk : 0 ≤ k) (h : zcbm c) : zcbm (zst2 e o k c) := by
  intro j
  have h1 := h j
  have h2 := h e
  have h3 := h o
  unfold zst2
  split
  · omega
  · split <;> omega
def wBm (X : zX) (nb : Int) : Prop := nb ≤ 16 ∧ ∀ i, 0 ≤ i → i < nb → 0 ≤ X 1001 i ∧ X 1001 i < 8 ∧ 0 ≤ X 1002 i ∧ X 1002 i < 8 ∧ X 1001 i ≠ X 1002 i ∧ 1 ≤ X 1003 i ∧ X 1003 i ≤ 999
theorem zstm_b {X : zX} {i : Int} {c : Int → Int} (hk : 0 ≤ X 1003 i) (h : zcbm c) : zcbm (zstm X i c) := by
  unfold zstm
  split
  · exact h
  · exact zst2_b (by omega) h
theorem zrdm_b {X : zX} : ∀ (k : Nat) (i : Int) (c : Int → Int), (∀ j, i ≤ j → j < i + k → 0 ≤ X 1003 j) → zcbm c → zcbm (zrdm X k i c) := by
  intro k
  induction k with
  | zero => intro i c _ h; exact h
  | succ k ih => intro i c hk h; exact ih (i + 1) _ (fun j h1 h2 => hk j (by omega) (by omega)) (zstm_b (hk i (by omega) (by omega)) h)
section ZM
variable {Y : zLy} {n s : Nat} {X : zX} {G : Nat × Nat} {i j : Int}
theorem m_138 {goal rd x4 x5 v : Int} {c : Int → Int} (hM : wM Y) (hb : wBm X (X 400 0)) (hi : 0 ≤ i) (hi' : i < X 400 0) (hc : zcbm c) (hx : 0 ≤ x5 ∧ x5 ≤ 2000000000) : ev_ G 71 138 [.ref (wA Y 14 0), .int (zJ goal), .int (zJ rd), .int (zJ i), .int (zJ x4), .int (zJ x5)] [.int (zJ v), .int (zJ (X 1002 i)), .ref (wA Y 15 516)] (wd Y n s (zrf X c)) = ev_ G 71 41 [.ref (wA Y 14 0), .int (zJ goal), .int (zJ rd), .int (zJ (i + 1)), .int (zJ x4), .int (zJ x5)] [] (wd Y n s (zrf X (fun j => if j = X 1001 i then min (c (X 1001 i)) x5 else if j = X 1002 i then v else c j))) := False.elim hM
theorem m_roundR {goal rd : Int} (hM : wM Y) (hb : wBm X (X 400 0)) (hn : 0 ≤ X 400 0) : ∀ (k : Nat) (i : Int) (c : Int → Int) (u v : Value), 0 ≤ i → i + k = X 400 0 → zcbm c → ∃ u' v', ev_ G 71 41 [.ref (wA Y 14 0), .int (zJ goal), .int (zJ rd), .int (zJ i), u, v] [] (wd Y n s (zrf X c)) = ev_ G 71 33 [.ref (wA Y 14 0), .int (zJ goal), .int (zJ (rd + 1)), .int (zJ (i + k)), u', v'] [] (wd Y n s (zrf X (zrdm X k i c))) := False.elim hM
theorem m_roundsR {goal : Int} (hM : wM Y) (hb : wBm X (X 400 0)) (hn : 0 ≤ X 400 0) : ∀ (k : Nat) (rd : Int) (c : Int → Int) (u v w : Value), 0 ≤ rd → rd + k = 8 → zcbm c → ev_ G 71 33 [.ref (wA Y 14 0), .int (zJ goal), .int (zJ rd), u, v, w] [] (wd Y n s (zrf X c)) = some (.inl none, wd Y n s (zrf X (zrdsm X (X 400 0).toNat k c))) := False.elim hM
end ZM
/-! THE TWO SIDES, 26: the reference's costs from a goal, the families' weight -/
def zc0m (X : zX) (goal : Int) : Int → Int := fun j => if 0 ≤ j ∧ j < 8 then (if j = goal then 0 else 1000000000) else X 1016 j
def zcsm (X : zX) (nb goal : Int) : Int → Int := zrdsm X nb.toNat 8 (zc0m X goal)
theorem zrf_id {X : zX} : zrf X (X 1016) = X := by
  funext f j
  unfold zrf
  by_cases h : f = 1016
  · rw [if_pos h, h]
  · rw [if_neg h]
section ZM
variable {Y : zLy} {n s : Nat} {X : zX} {G : Nat × Nat} {i j : Int}
theorem m_find0 {goal : Int} (hM : wM Y) (hg : 0 ≤ goal ∧ goal < 8) : ∀ (k : Nat) (i : Int) (c : Int → Int), 0 ≤ i → i + k = 8 → ev_ G 71 2 [.ref (wA Y 14 0), .int (zJ goal), .int (zJ i), zU, zU, zU] [] (wd Y n s (zrf X c)) = ev_ G 71 33 [.ref (wA Y 14 0), .int (zJ goal), .int (zJ 0), zU, zU, zU] [] (wd Y n s (zrf X (fun j => if i ≤ j ∧ j < 8 then (if j = goal then 0 else 1000000000) else c j))) := False.elim hM
theorem m_finds {goal : Int} (hM : wM Y) (hb : wBm X (X 400 0)) (hn : 0 ≤ X 400 0) (hg : 0 ≤ goal ∧ goal < 8) (hc : zcbm (X 1016)) : ev_ G 71 0 [.ref (wA Y 14 0), .int (zJ goal), zU, zU, zU, zU] [] (wd Y n s X) = some (.inl none, wd Y n s (zrf X (zcsm X (X 400 0) goal))) := False.elim hM
def ztgm (X : zX) (f : Int) : Int → Nat → Int → Int
  | _, 0, t => t
  | i, k + 1, t => ztgm X f (i + 1) k (zor t (if X 1020 i = f then X 1018 i else 0))
def zfw (X : zX) (f : Int) : Int := zsm (fun i => if X 1020 i = f then X 1019 i else 0) 0 (X 417 0).toNat * zsm (zwg X (ztgm X f 0 (X 417 0).toNat 0)) 0 (X 410 0).toNat
/-- what the wires of the reference are -/
def wWm (X : zX) : Prop := (0 ≤ X 410 0 ∧ X 410 0 ≤ 24) ∧ (∀ w, 0 ≤ w → w < X 410 0 → (0 ≤ X 1014 w ∧ X 1014 w ≤ 16) ∧ (0 ≤ X 1011 w ∧ X 1011 w ≤ 1) ∧ (∀ k, 16 * w ≤ k → k < 16 * w + X 1014 w → 0 ≤ X 1015 k ∧ X 1015 k < 16))
theorem m_famK {fs f t : Int} (hM : wM Y) (hw : wWm X) (ho : 0 ≤ X 417 0 ∧ X 417 0 ≤ 5) (hf : 0 ≤ f ∧ f < 100) (hr : ∀ k, 0 ≤ k → k < 5 → 0 ≤ X 1020 k ∧ X 1020 k < 100) : ∀ (k : Nat) (i a h : Int), 0 ≤ i → i + k = X 417 0 → ∃ u v w, ev_ G 105 18 [.ref (wA Y 14 0), .int (zJ fs), .int (zJ t), .int (zJ f), .int (zJ a), .int (zJ h), .int (zJ i)] [] (wd Y n s X) = ev_ G 105 4 [.ref (wA Y 14 0), .int (zJ fs), .int (zJ (t + (h + zsm (fun i => if X 1020 i = f then X 1019 i else 0) i k) * zsm (zwg X (ztgm X f i k a)) 0 (X 410 0).toNat)), .int (zJ (f + 1)), u, v, w] [] (wd Y n s X) := False.elim hM
end ZM
/-! THE TWO SIDES, 27: the reference's least weight -/
def zdg (fs : Int) : Nat → Int → Int → zX → zX
  | 0, _, _, X => X
  | m + 1, k, rest, X => zdg fs m (k + 1) (rest / fs) (wu X 1020 k (rest % fs))
theorem zdg_f {fs : Int} : ∀ (m : Nat) (k rest : Int) (X : zX) (f j : Int), f ≠ 1020 → zdg fs m k rest X f j = X f j := by
  intro m
  induction m with
  | zero => intro k rest X f j h; rfl
  | succ m ih =>
    intro k rest X f j h
    show zdg fs m _ _ _ f j = _
    rw [ih _ _ _ _ _ h]
    exact if_neg (fun q => h q.1)
theorem zdg_r {fs : Int} (hf : 0 < fs ∧ fs ≤ 5) : ∀ (m : Nat) (k rest : Int) (X : zX), (∀ j, 0 ≤ j → j < 5 → 0 ≤ X 1020 j ∧ X 1020 j < 100) → ∀ j, 0 ≤ j → j < 5 → 0 ≤ zdg fs m k rest X 1020 j ∧ zdg fs m k rest X 1020 j < 100 := by
  intro m
  induction m with
  | zero => intro k rest X h; exact h
  | succ m ih =>
    intro k rest X h
    refine ih _ _ _ (fun j h1 h2 => ?_)
    have a1 := Int.emod_nonneg rest (show fs ≠ 0 by omega)
    have a2 := Int.emod_lt_of_pos rest hf.1
    unfold wu
    split
    · omega
    · exact h j h1 h2
def zlo (fs : Int) (no : Nat) : Nat → Int → Int → zX → Int × zX
  | 0, _, b, X => (b, X)
  | k + 1, c, b, X => zlo fs no k (c + 1) (min b (zsm (zfw (zdg fs no 0 c X)) 0 fs.toNat)) (zdg fs no 0 c X)
section ZM
variable {Y : zLy} {n s : Nat} {X : zX} {G : Nat × Nat} {i j : Int}
theorem wWm_c {X X' : zX} (h : ∀ f j, f ≠ 1020 → X' f j = X f j) (hw : wWm X) : wWm X' := by
  unfold wWm at *
  simp only [h 410 _ (by decide), h 1014 _ (by decide), h 1011 _ (by decide), h 1015 _ (by decide)]
  exact hw
theorem m_famF {fs : Int} (hM : wM Y) (hw : wWm X) (ho : 0 ≤ X 417 0 ∧ X 417 0 ≤ 5) (hf : 0 ≤ fs ∧ fs < 100) (hr : ∀ k, 0 ≤ k → k < 5 → 0 ≤ X 1020 k ∧ X 1020 k < 100) : ∀ (k : Nat) (f t : Int) (u v w : Value), 0 ≤ f → f + k = fs → ev_ G 105 4 [.ref (wA Y 14 0), .int (zJ fs), .int (zJ t), .int (zJ f), u, v, w] [] (wd Y n s X) = some (.inl (some (.int (zJ (t + zsm (zfw X) f k)))), wd Y n s X) := False.elim hM
theorem m_fam {fs : Int} (hM : wM Y) (hw : wWm X) (ho : 0 ≤ X 417 0 ∧ X 417 0 ≤ 5) (hf : 0 ≤ fs ∧ fs < 100) (hr : ∀ k, 0 ≤ k → k < 5 → 0 ≤ X 1020 k ∧ X 1020 k < 100) : ev_ G 105 0 [.ref (wA Y 14 0), .int (zJ fs), zU, zU, zU, zU, zU] [] (wd Y n s X) = some (.inl (some (.int (zJ (zsm (zfw X) 0 fs.toNat)))), wd Y n s X) := False.elim hM
theorem m_dig {fs all best code : Int} (hM : wM Y) (hf : 0 < fs ∧ fs ≤ 5) : ∀ (m : Nat) (k rest : Int) (X : zX), 0 ≤ X 417 0 ∧ X 417 0 ≤ 5 → 0 ≤ k → k + m = X 417 0 → 0 ≤ rest → rest < 1000000 → ∃ r, ev_ G 106 41 [.ref (wA Y 14 0), .int (zJ fs), .int (zJ all), .int (zJ best), .int (zJ code), .int (zJ rest), .int (zJ k)] [] (wd Y n s X) = ev_ G 106 41 [.ref (wA Y 14 0), .int (zJ fs), .int (zJ all), .int (zJ best), .int (zJ code), .int (zJ r), .int (zJ (X 417 0))] [] (wd Y n s (zdg fs m k rest X)) := False.elim hM
theorem m_leastR {fs all : Int} (hM : wM Y) (hf : 0 < fs ∧ fs ≤ 5) (ha : all ≤ 100000) : ∀ (k : Nat) (code best : Int) (u v : Value) (X : zX), wWm X → 0 ≤ X 417 0 ∧ X 417 0 ≤ 5 → (∀ k, 0 ≤ k → k < 5 → 0 ≤ X 1020 k ∧ X 1020 k < 100) → (∀ X', (∀ f j, f ≠ 1020 → X' f j = X f j) → (∀ k, 0 ≤ k → k < 5 → 0 ≤ X' 1020 k ∧ X' 1020 k < 100) → 0 ≤ zsm (zfw X') 0 fs.toNat ∧ zsm (zfw X') 0 fs.toNat ≤ 2000000000) → 0 ≤ code → code + k = all → 0 ≤ best → best ≤ 1000000000 → ev_ G 106 28 [.ref (wA Y 14 0), .int (zJ fs), .int (zJ all), .int (zJ best), .int (zJ code), u, v] [] (wd Y n s X) = some (.inl (some (.int (zJ (zlo fs (X 417 0).toNat k code best X).1))), wd Y n s (zlo fs (X 417 0).toNat k code best X).2) := False.elim hM
end ZM
/-! THE TWO SIDES, 28: the reference's soldering, recall, test -/
section ZM
variable {Y : zLy} {n s : Nat} {X : zX} {G : Nat × Nat} {i j : Int}
/-- the joint of a place with a part -/
def zjm (X : zX) (p k : Int) : zX := wu (wu X 1040 k (zjf (X 1031 (X 1026 (X 1038 k))) (X 1032 (X 1026 (X 1038 k))) p)) 1041 k (zjf (X 1031 (X 1026 (X 1038 k))) (X 1032 (X 1026 (X 1038 k))) p)
def zsom (p : Int) : Nat → Int → zX → zX
  | 0, _, X => X
  | m + 1, k, X => zsom p m (k + 1) (if X 1038 k = -1 then X else zjm X p k)
theorem zjm_f {X : zX} {p k f j : Int} (h : f ≠ 1040) (h' : f ≠ 1041) : zjm X p k f j = X f j := by
  unfold zjm wu
  rw [if_neg (fun q => h' q.1), if_neg (fun q => h q.1)]
theorem m_solR {b p : Int} (hM : wM Y) (hb : 0 ≤ b ∧ b < 12) (hp : 0 ≤ p ∧ p ≤ 1000) : ∀ (m : Nat) (k : Int) (u : Value) (X : zX), (∀ k, 0 ≤ k → k < 96 → -1 ≤ X 1038 k ∧ X 1038 k < 12) → (∀ r, 0 ≤ r → r < 12 → 0 ≤ X 1026 r ∧ X 1026 r < 6) → (∀ q, 0 ≤ q → q < 6 → 0 ≤ X 1031 q ∧ X 1031 q ≤ 1000 ∧ 0 ≤ X 1032 q ∧ X 1032 q ≤ 1000) → 8 * b ≤ k → k + m = 8 * b + 8 → ev_ G 171 53 [.ref (wA Y 14 0), .int (zJ b), .int (zJ p), .int (zJ k), u] [] (wd Y n s X) = some (.inl (some (.int (zJ p))), wd Y n s (zsom p m k X)) := False.elim hM
end ZM
/-! THE TWO SIDES, 29: the reference's recall and test -/
section ZM
variable {Y : zLy} {n s : Nat} {X : zX} {G : Nat × Nat} {i j : Int}
theorem m_recK {b r t : Int} (hM : wM Y) (hb : 0 ≤ b ∧ b < 12) (hr : ∀ k, 0 ≤ k → k < 96 → -1 ≤ X 1038 k ∧ X 1038 k < 100) (hf : 0 ≤ r ∧ r < 100) (hs : 0 ≤ X 1037 b ∧ X 1037 b ≤ 1) : ∀ (m : Nat) (k h : Int), 8 * b ≤ k → k + m = 8 * b + 8 → 0 ≤ h → h ≤ 1 → ∃ u v, ev_ G 204 43 [.ref (wA Y 14 0), .int (zJ r), .int (zJ t), .int (zJ b), .int (zJ h), .int (zJ k)] [] (wd Y n s X) = ev_ G 204 26 [.ref (wA Y 14 0), .int (zJ r), .int (zJ (t + zB (X 1037 b ≠ 0 ∧ 0 < h + zsm (fun m => zB (X 1038 m = r)) k m))), .int (zJ (b + 1)), u, v] [] (wd Y n s X) := False.elim hM
theorem m_recB {r : Int} (hM : wM Y) (hr : ∀ k, 0 ≤ k → k < 96 → -1 ≤ X 1038 k ∧ X 1038 k < 100) (hf : 0 ≤ r ∧ r < 100) (hs : ∀ b, 0 ≤ b → b < 12 → 0 ≤ X 1037 b ∧ X 1037 b ≤ 1) (hn : 0 ≤ X 434 0 ∧ X 434 0 ≤ 12) : ∀ (k : Nat) (b t : Int) (u v : Value), 0 ≤ b → b + k = X 434 0 → ev_ G 204 26 [.ref (wA Y 14 0), .int (zJ r), .int (zJ t), .int (zJ b), u, v] [] (wd Y n s X) = some (.inl (some (.int (zJ (t + zsm (fun b => zB (X 1037 b ≠ 0 ∧ 0 < zsm (fun m => zB (X 1038 m = r)) (8 * b) 8)) b k)))), wd Y n s X) := False.elim hM
def ztsm (b : Int) : Nat → Int → zX → zX
  | 0, _, X => X
  | m + 1, sl, X => ztsm b m (sl + 1) (wu X 1042 (8 * b + sl) (if X 1042 (8 * b + sl) ≠ 0 ∨ (X 1033 sl ≠ 0 ∧ X 1041 (8 * b + sl) ≠ 0) then 1 else 0))
theorem m_testR {b : Int} (hM : wM Y) (hb : 0 ≤ b ∧ b < 12) : ∀ (m : Nat) (sl : Int) (u : Value) (X : zX), (∀ k, 0 ≤ k → k < 96 → 0 ≤ X 1041 k ∧ X 1041 k < 6 ∧ 0 ≤ X 1042 k ∧ X 1042 k ≤ 1) → (∀ k, 0 ≤ k → k < 8 → 0 ≤ X 1033 k ∧ X 1033 k ≤ 1) → 0 ≤ sl → sl + m = 8 → ev_ G 184 53 [.ref (wA Y 14 0), .int (zJ b), .int (zJ sl), u] [] (wd Y n s X) = some (.inl (some (.int (zJ (zsm (fun k => zB (ztsm b m sl X 1041 k ≠ 0 ∧ ztsm b m sl X 1042 k = 1)) (8 * b) 8)))), wd Y n s (ztsm b m sl X)) := False.elim hM
end ZM
/-! THE TWO SIDES, 30: the reference's least weight, from its start -/
theorem zpw_k : ∀ f : Fin 6, ∀ k : Fin 6, 0 ≤ ((f.val : Nat) : Int) ^ k.val ∧ ((f.val : Nat) : Int) ^ k.val ≤ 3125 := by decide
theorem zpw {fs : Int} {k : Nat} (h : 0 ≤ fs) (h' : fs ≤ 5) (hk : k ≤ 5) : 0 ≤ fs ^ k ∧ fs ^ k ≤ 3125 := by
  obtain ⟨x, rfl⟩ := zJ_fin h 6 (by omega)
  exact zpw_k x ⟨k, by omega⟩
section ZM
variable {Y : zLy} {n s : Nat} {X : zX} {G : Nat × Nat} {i j : Int}
theorem m_all {fs : Int} (hM : wM Y) (ho : 0 ≤ X 417 0 ∧ X 417 0 ≤ 5) : ∀ (m : Nat) (k a : Int), 0 ≤ k → k + m = X 417 0 → ev_ G 106 4 [.ref (wA Y 14 0), .int (zJ fs), .int (zJ a), .int (zJ k), zU, zU, zU] [] (wd Y n s X) = ev_ G 106 28 [.ref (wA Y 14 0), .int (zJ fs), .int (zJ (a * fs ^ m)), .int (zJ 1000000000), .int (zJ 0), zU, zU] [] (wd Y n s X) := False.elim hM
theorem m_leastOf {fs : Int} (hM : wM Y) (hf : 0 < fs ∧ fs ≤ 5) (hw : wWm X) (ho : 0 ≤ X 417 0 ∧ X 417 0 ≤ 5) (hr : ∀ k, 0 ≤ k → k < 5 → 0 ≤ X 1020 k ∧ X 1020 k < 100) (hb : ∀ X', (∀ f j, f ≠ 1020 → X' f j = X f j) → (∀ k, 0 ≤ k → k < 5 → 0 ≤ X' 1020 k ∧ X' 1020 k < 100) → 0 ≤ zsm (zfw X') 0 fs.toNat ∧ zsm (zfw X') 0 fs.toNat ≤ 2000000000) : ev_ G 106 0 [.ref (wA Y 14 0), .int (zJ fs), zU, zU, zU, zU, zU] [] (wd Y n s X) = some (.inl (some (.int (zJ (zlo fs (X 417 0).toNat (fs ^ (X 417 0).toNat).toNat 0 1000000000 X).1))), wd Y n s (zlo fs (X 417 0).toNat (fs ^ (X 417 0).toNat).toNat 0 1000000000 X).2) := False.elim hM
end ZM
/-! THE TWO SIDES, 31: the reference lays a way -/
/-- whether a bundle goes on from a node, by the reference's costs -/
abbrev zonm (X : zX) (c : Int → Int) (v i : Int) : Prop := zac (X 1001 i) (X 1002 i) v ≠ -1 ∧ ¬zJ (X 1004 i) ≤ zJ 0 ∧ c (zac (X 1001 i) (X 1002 i) v) + (100 * X 1003 i + 1) = c v
def zlwm (X : zX) (c : Int → Int) (v : Int) : Nat → Int → Int
  | 0, f => f
  | m + 1, f => zlwm X c v m (if zonm X c v m then (m : Int) else f)
section ZM
variable {Y : zLy} {n s : Nat} {X : zX} {G : Nat × Nat} {i j : Int}
theorem m_layF {w fr v : Int} {c : Int → Int} (hM : wM Y) (hb : wBm X (X 400 0)) (hv : 0 ≤ v ∧ v < 8) (hc : zcbm c) (hx : X 1016 = c) : ∀ (m : Nat) (f : Int) (u : Value), (m : Int) ≤ X 400 0 → ∃ u', ev_ G 74 29 [.ref (wA Y 14 0), .int (zJ w), .int (zJ fr), .int (zJ v), .int (zJ f), .int (zJ ((m : Int) - 1)), u] [] (wd Y n s X) = ev_ G 74 29 [.ref (wA Y 14 0), .int (zJ w), .int (zJ fr), .int (zJ v), .int (zJ (zlwm X c v m f)), .int (zJ (-1)), u'] [] (wd Y n s X) := False.elim hM
end ZM
/-! THE TWO SIDES, 32: the reference lays a way: rooms; the chain of its nodes -/
section ZM
variable {Y : zLy} {n s : Nat} {X : zX} {G : Nat × Nat} {i j : Int}
theorem m_layR {w fr v : Int} (hM : wM Y) (hw : 0 ≤ w ∧ w < 24) : ∀ (k : Nat) (i : Int) (u u2 : Value) (X : zX), (0 ≤ X 1014 w ∧ X 1014 w ≤ 16) → (∀ k, 16 * w ≤ k → k < 16 * w + X 1014 w → 0 ≤ X 1015 k ∧ X 1015 k < 16) → 16 * w ≤ i → i + k = 16 * w + X 1014 w → ev_ G 74 142 [.ref (wA Y 14 0), .int (zJ w), .int (zJ fr), .int (zJ v), .int (zJ i), u, u2] [] (wd Y n s X) = some (.inl none, wd Y n s (zrm2 (-1) i k X)) := False.elim hM
/-- the chain of nodes: v t is left by the bundle b t -/
def zch (X : zX) (c : Int → Int) (nb : Nat) (v b : Nat → Int) (L : Nat) : Prop := c (v L) ≤ 0 ∧ (0 ≤ v L ∧ v L < 8) ∧ ∀ t, t < L → 0 < c (v t) ∧ (0 ≤ v t ∧ v t < 8) ∧ b t = zlwm X c (v t) nb (-1) ∧ (0 ≤ b t ∧ b t < nb) ∧ v (t + 1) = zac (X 1001 (b t)) (X 1002 (b t)) (v t)
/-- the way's rows behind k steps -/
def zwy (w : Int) (b : Nat → Int) : Nat → Nat → zX → zX
  | _, 0, X => X
  | t, k + 1, X => zwy w b (t + 1) k (wu (wu X 1015 (16 * w + X 1014 w) (b t)) 1014 w (X 1014 w + 1))
theorem zlwm_c {X X' : zX} {c : Int → Int} {v : Int} (h1 : X' 1001 = X 1001) (h2 : X' 1002 = X 1002) (h3 : X' 1003 = X 1003) (h4 : X' 1004 = X 1004) : ∀ (m : Nat) (f : Int), zlwm X' c v m f = zlwm X c v m f := by
  intro m
  induction m with
  | zero => intro f; rfl
  | succ m ih =>
    intro f
    show zlwm X' c v m (if zonm X' c v m then _ else _) = zlwm X c v m (if zonm X c v m then _ else _)
    rw [ih]
    unfold zonm
    rw [h1, h2, h3, h4]
end ZM
/-! THE TWO SIDES, 33: the reference lays a way: the chain -/
section ZM
variable {Y : zLy} {n s : Nat} {X : zX} {G : Nat × Nat} {i j : Int}
theorem m_layC {w fr : Int} {c : Int → Int} {v b : Nat → Int} {L : Nat} (hM : wM Y) (hw : 0 ≤ w ∧ w < 24) (hc : zcbm c) (hL : L ≤ 16) : ∀ (k t : Nat) (u u2 u3 : Value) (X : zX), wBm X (X 400 0) → 0 ≤ X 400 0 → X 1016 = c → zch X c (X 400 0).toNat v b L → t + k = L → X 1014 w = t → ∃ u' u2', ev_ G 74 9 [.ref (wA Y 14 0), .int (zJ w), .int (zJ fr), .int (zJ (v t)), u, u2, u3] [] (wd Y n s X) = ev_ G 74 142 [.ref (wA Y 14 0), .int (zJ w), .int (zJ fr), .int (zJ (v L)), .int (zJ (16 * w)), u', u2'] [] (wd Y n s (zwy w b t k X)) := False.elim hM
end ZM
/-! THE TWO SIDES, 34: the reference lays a way -/
theorem zwy_f {w : Int} {b : Nat → Int} : ∀ (k t : Nat) (X : zX) (f j : Int), ¬(f = 1015 ∧ 16 * w + X 1014 w ≤ j ∧ j < 16 * w + X 1014 w + k) → ¬(f = 1014 ∧ j = w) → zwy w b t k X f j = X f j := by
  intro k
  induction k with
  | zero => intro t X f j h h'; rfl
  | succ k ih =>
    intro t X f j h h'
    have e : wu (wu X 1015 (16 * w + X 1014 w) (b t)) 1014 w (X 1014 w + 1) 1014 w = X 1014 w + 1 := if_pos ⟨rfl, rfl⟩
    show zwy w b (t + 1) k (wu (wu X 1015 (16 * w + X 1014 w) (b t)) 1014 w (X 1014 w + 1)) f j = X f j
    rw [ih _ _ _ _ (by rw [e]; omega) h']
    unfold wu
    rw [if_neg h', if_neg (by omega)]
theorem zwy_m {w : Int} {b : Nat → Int} : ∀ (k t : Nat) (X : zX), zwy w b t k X 1014 w = X 1014 w + k := by
  intro k
  induction k with
  | zero => intro t X; simp [zwy]
  | succ k ih =>
    intro t X
    have e : wu (wu X 1015 (16 * w + X 1014 w) (b t)) 1014 w (X 1014 w + 1) 1014 w = X 1014 w + 1 := if_pos ⟨rfl, rfl⟩
    show zwy w b (t + 1) k (wu (wu X 1015 (16 * w + X 1014 w) (b t)) 1014 w (X 1014 w + 1)) 1014 w = _
    rw [ih, e]
    omega
theorem zwy_b {w : Int} {b : Nat → Int} : ∀ (k t : Nat) (X : zX) (q : Nat), X 1014 w = t → t ≤ q → q < t + k → zwy w b t k X 1015 (16 * w + q) = b q := by
  intro k
  induction k with
  | zero => intro t X q hm h h'; omega
  | succ k ih =>
    intro t X q hm h h'
    have e : wu (wu X 1015 (16 * w + X 1014 w) (b t)) 1014 w (X 1014 w + 1) 1014 w = X 1014 w + 1 := if_pos ⟨rfl, rfl⟩
    show zwy w b (t + 1) k (wu (wu X 1015 (16 * w + X 1014 w) (b t)) 1014 w (X 1014 w + 1)) 1015 (16 * w + q) = _
    by_cases hq : q = t
    · subst hq
      rw [zwy_f _ _ _ _ _ (by rw [e]; omega) (by omega)]
      unfold wu
      rw [if_neg (by omega), if_pos ⟨rfl, by omega⟩]
    · exact ih (t + 1) _ q (by rw [e, hm]; omega) (by omega) (by omega)
section ZM
variable {Y : zLy} {n s : Nat} {X : zX} {G : Nat × Nat} {i j : Int}
theorem m_lays {w fr : Int} {c : Int → Int} {v b : Nat → Int} {L : Nat} (hM : wM Y) (hw : 0 ≤ w ∧ w < 24) (hc : zcbm c) (hL : L ≤ 16) (hb : wBm X (X 400 0)) (hn : 0 ≤ X 400 0) (hx : X 1016 = c) (hch : zch X c (X 400 0).toNat v b L) (hv : v 0 = fr) : ev_ G 74 0 [.ref (wA Y 14 0), .int (zJ w), .int (zJ fr), zU, zU, zU, zU] [] (wd Y n s X) = some (.inl none, wd Y n s (zrm2 (-1) (16 * w) L (zwy w b 0 L (wu X 1014 w 0)))) := False.elim hM
end ZM
/-! THE TWO SIDES, 35: the reference's calls, the short ones -/
theorem z_00 : (zJ 0 = zJ 0) = True := eq_self _
theorem z_10 : (zJ 1 = zJ 0) = False := eq_false (by decide)
section ZM
variable {Y : zLy} {n s : Nat} {X : zX} {G : Nat × Nat} {i j : Int}
theorem m_pass33 {p e : Int} (hM : wM Y) (he : 0 < e ∧ e < 100) : ev_ G 194 33 [.ref (wA Y 14 0), .int (zJ p)] [.int (zJ e), .ref (wA Y 14 0)] (wd Y n s X) = some (.inl (some (.int (zJ 0))), wd Y n s (wu X 444 0 e)) := False.elim hM
theorem m_pass {p : Int} (hM : wM Y) (hp : -2147483648 ≤ p ∧ p < 2147483648) (hm : 0 ≤ X 424 0 ∧ X 424 0 < 10000) : (¬(1 ≤ p ∧ p ≤ 999) → ev_ G 194 0 [.ref (wA Y 14 0), .int (zJ p)] [] (wd Y n s X) = some (.inl (some (.int (zJ 0))), wd Y n s (wu X 444 0 1))) ∧ ((1 ≤ p ∧ p ≤ 999) → ¬X 424 0 + p ≤ 9999 → ev_ G 194 0 [.ref (wA Y 14 0), .int (zJ p)] [] (wd Y n s X) = some (.inl (some (.int (zJ 0))), wd Y n s (wu X 444 0 2))) ∧ ((1 ≤ p ∧ p ≤ 999) → X 424 0 + p ≤ 9999 → ev_ G 194 0 [.ref (wA Y 14 0), .int (zJ p)] [] (wd Y n s X) = some (.inl (some (.int (zJ (X 424 0 + p)))), wd Y n s (wu (wu X 444 0 0) 424 0 (X 424 0 + p)))) := False.elim hM
end ZM
/-! THE TWO SIDES, 36: the reference's calls, on -/
section ZM
variable {Y : zLy} {n s : Nat} {X : zX} {G : Nat × Nat} {i j : Int}
theorem m_board (hM : wM Y) (hn : 0 ≤ X 434 0 ∧ X 434 0 ≤ 12) : (X 434 0 = 12 → ev_ G 145 0 [.ref (wA Y 14 0)] [] (wd Y n s X) = some (.inl (some (.int (zJ 0))), wd Y n s (wu X 444 0 1))) ∧ (¬X 434 0 = 12 → ev_ G 145 0 [.ref (wA Y 14 0)] [] (wd Y n s X) = some (.inl (some (.int (zJ (X 434 0)))), wd Y n s (wu (wu X 444 0 0) 434 0 (X 434 0 + 1)))) := False.elim hM
theorem m_jointAnew {b sl : Int} (hM : wM Y) (hn : 0 ≤ X 434 0 ∧ X 434 0 ≤ 12) (hb : -2147483648 ≤ b ∧ b < 2147483648) (hs : -2147483648 ≤ sl ∧ sl < 2147483648) : (¬((0 ≤ b ∧ b < X 434 0) ∧ (0 ≤ sl ∧ sl < 8)) → ev_ G 200 0 [.ref (wA Y 14 0), .int (zJ b), .int (zJ sl)] [] (wd Y n s X) = some (.inl (some (.int (zJ 0))), wd Y n s (wu X 444 0 1))) ∧ (((0 ≤ b ∧ b < X 434 0) ∧ (0 ≤ sl ∧ sl < 8)) → ev_ G 200 0 [.ref (wA Y 14 0), .int (zJ b), .int (zJ sl)] [] (wd Y n s X) = some (.inl (some (.int (zJ (X 1040 (8 * b + sl))))), wd Y n s (wu X 444 0 0))) := False.elim hM
end ZM
/-! THE TWO SIDES, 37: the reference's calls: weight, order, reel, crimps -/
section ZM
variable {Y : zLy} {n s : Nat} {X : zX} {G : Nat × Nat} {i j p q r e : Int}
theorem m_weight0 (hM : wM Y) (hp : -2147483648 ≤ p ∧ p < 2147483648) : ev_ G 93 0 [.ref (wA Y 14 0), .int (zJ p)] [] (wd Y n s X) = ev_ G 93 13 [.ref (wA Y 14 0), .int (zJ p)] [.int (zJ (if 0 ≤ p ∧ p ≤ 255 then 0 else 1)), .ref (wA Y 14 0)] (wd Y n s X) := False.elim hM
theorem m_weightE (hM : wM Y) (he : 0 < e ∧ e < 100) : ev_ G 93 13 [.ref (wA Y 14 0), .int (zJ p)] [.int (zJ e), .ref (wA Y 14 0)] (wd Y n s X) = some (.inl (some (.int (zJ 0))), wd Y n s (wu X 444 0 e)) := False.elim hM
theorem m_weightG (hM : wM Y) (hw : wWm X) : ev_ G 93 13 [.ref (wA Y 14 0), .int (zJ p)] [.int (zJ 0), .ref (wA Y 14 0)] (wd Y n s X) = some (.inl (some (.int (zJ (zsm (zwg (wu X 444 0 0) p) 0 (X 410 0).toNat)))), wd Y n s (wu X 444 0 0)) := False.elim hM
theorem m_order0 (hM : wM Y) (hp : -2147483648 ≤ p ∧ p < 2147483648) (hq : -2147483648 ≤ q ∧ q < 2147483648) (ho : 0 ≤ X 417 0 ∧ X 417 0 ≤ 5) : ∃ u, ev_ G 97 0 [.ref (wA Y 14 0), .int (zJ p), .int (zJ q), zU] [] (wd Y n s X) = ev_ G 97 45 [.ref (wA Y 14 0), .int (zJ p), .int (zJ q), .int u] [.int (zJ (if (0 ≤ p ∧ p ≤ 255) ∧ (1 ≤ q ∧ q ≤ 99) then (if X 417 0 = 5 then 2 else 0) else 1)), .ref (wA Y 14 0)] (wd Y n s X) := False.elim hM
theorem m_orderE {u : Int32} (hM : wM Y) (he : 0 < e ∧ e < 100) : ev_ G 97 45 [.ref (wA Y 14 0), .int (zJ p), .int (zJ q), .int u] [.int (zJ e), .ref (wA Y 14 0)] (wd Y n s X) = some (.inl (some (.int (zJ 0))), wd Y n s (wu X 444 0 e)) := False.elim hM
end ZM
/-! THE TWO SIDES, 38: the reference's calls: order, crimps, open, ofReel -/
section ZM
variable {Y : zLy} {n s : Nat} {X : zX} {G : Nat × Nat} {i j p q r e : Int}
theorem m_orderG {u : Int32} (hM : wM Y) (ho : 0 ≤ X 417 0 ∧ X 417 0 < 5) : ev_ G 97 45 [.ref (wA Y 14 0), .int (zJ p), .int (zJ q), .int u] [.int (zJ 0), .ref (wA Y 14 0)] (wd Y n s X) = some (.inl (some (.int (zJ (X 417 0)))), wd Y n s (wu (wu (wu (wu X 444 0 0) 1018 (X 417 0) p) 1019 (X 417 0) q) 417 0 (X 417 0 + 1))) := False.elim hM
theorem m_crimps0 (hM : wM Y) (hp : -2147483648 ≤ p ∧ p < 2147483648) : ev_ G 125 0 [.ref (wA Y 14 0), .int (zJ p)] [] (wd Y n s X) = ev_ G 125 15 [.ref (wA Y 14 0), .int (zJ p)] [.int (zJ (if 0 ≤ p ∧ p ≤ 2 then 0 else 1)), .ref (wA Y 14 0)] (wd Y n s X) := False.elim hM
theorem m_crimpsE (hM : wM Y) (he : 0 < e ∧ e < 100) : ev_ G 125 15 [.ref (wA Y 14 0), .int (zJ p)] [.int (zJ e), .ref (wA Y 14 0)] (wd Y n s X) = some (.inl (some (.int (zJ 0))), wd Y n s (wu X 444 0 e)) := False.elim hM
end ZM
/-! THE TWO SIDES, 39: the reference's calls: crimps, ofReel, open -/
section ZM
variable {Y : zLy} {n s : Nat} {X : zX} {G : Nat × Nat} {i j p q r e : Int}
theorem m_crimpsG (hM : wM Y) (hp : 0 ≤ p ∧ p ≤ 2) (hg : 0 ≤ X 422 0 ∧ X 422 0 < 100000) (hf : ∀ k, 0 ≤ k → k < 8 → 0 ≤ X 1023 k ∧ X 1023 k < 10000) : ev_ G 125 15 [.ref (wA Y 14 0), .int (zJ p)] [.int (zJ 0), .ref (wA Y 14 0)] (wd Y n s X) = some (.inl (some (.int (zJ (if p = 0 then X 421 0 else if p = 1 then X 422 0 else zwin2 (wu X 444 0 0))))), wd Y n s (wu X 444 0 0)) := False.elim hM
theorem m_ofReel0 (hM : wM Y) (hn : 0 ≤ X 425 0 ∧ X 425 0 ≤ 12) (hp : -2147483648 ≤ p ∧ p < 2147483648) (hq : -2147483648 ≤ q ∧ q < 2147483648) : ev_ G 140 0 [.ref (wA Y 14 0), .int (zJ p), .int (zJ q)] [] (wd Y n s X) = ev_ G 140 23 [.ref (wA Y 14 0), .int (zJ p), .int (zJ q)] [.int (zJ (if (0 ≤ p ∧ p < X 425 0) ∧ (0 ≤ q ∧ q ≤ 2) then 0 else 1)), .ref (wA Y 14 0)] (wd Y n s X) := False.elim hM
theorem m_ofReelE (hM : wM Y) (he : 0 < e ∧ e < 100) : ev_ G 140 23 [.ref (wA Y 14 0), .int (zJ p), .int (zJ q)] [.int (zJ e), .ref (wA Y 14 0)] (wd Y n s X) = some (.inl (some (.int (zJ 0))), wd Y n s (wu X 444 0 e)) := False.elim hM
end ZM
/-! THE TWO SIDES, 40: the reference's calls: ofReel, open -/
section ZM
variable {Y : zLy} {n s : Nat} {X : zX} {G : Nat × Nat} {i j p q r e : Int}
theorem wu_ne {X : zX} {f i v g k : Int} (h : g ≠ f) : wu X f i v g k = X g k := if_neg (fun q => h q.1)
theorem wu_eq {X : zX} {f i v : Int} : wu X f i v f i = v := if_pos ⟨rfl, rfl⟩
theorem m_ofReelG (hM : wM Y) (hp : 0 ≤ p ∧ p < 12) (hq : 0 ≤ q ∧ q ≤ 2) (r1 : -1 ≤ X 1029 p ∧ X 1029 p < 10000) (r2 : 0 ≤ X 1028 p ∧ X 1028 p < 10000) (r3 : 0 ≤ X 424 0 ∧ X 424 0 < 10000) : ev_ G 140 23 [.ref (wA Y 14 0), .int (zJ p), .int (zJ q)] [.int (zJ 0), .ref (wA Y 14 0)] (wd Y n s X) = some (.inl (some (.int (zJ (if q = 0 then X 1026 p else if q = 1 then X 1027 p else zclk (X 1029 p + 1) (X 1028 p) (X 1029 p) (X 424 0))))), wd Y n s (wu X 444 0 0)) := False.elim hM
theorem m_open0 (hM : wM Y) (hn : 0 ≤ X 425 0 ∧ X 425 0 ≤ 12) (hp : -2147483648 ≤ p ∧ p < 2147483648) (hq : q = 0 ∨ q = 1) (hr : ∀ k, 0 ≤ k → k < 12 → -1 ≤ X 1029 k ∧ X 1029 k < 10000) : ev_ G 137 0 [.ref (wA Y 14 0), .int (zJ p), .int (zJ q)] [] (wd Y n s X) = ev_ G 137 32 [.ref (wA Y 14 0), .int (zJ p), .int (zJ q)] [.int (zJ (if 0 ≤ p ∧ p < X 425 0 then (if X 1029 p ≠ -1 ∧ q = 0 then 2 else 0) else 1)), .ref (wA Y 14 0)] (wd Y n s X) := False.elim hM
theorem m_openE (hM : wM Y) (he : 0 < e ∧ e < 100) : ev_ G 137 32 [.ref (wA Y 14 0), .int (zJ p), .int (zJ q)] [.int (zJ e), .ref (wA Y 14 0)] (wd Y n s X) = some (.inl (some (.int (zJ 0))), wd Y n s (wu X 444 0 e)) := False.elim hM
end ZM
/-! THE TWO SIDES, 41: the reference's calls: open, bundle -/
section ZM
variable {Y : zLy} {n s : Nat} {X : zX} {G : Nat × Nat} {i j p q r t e : Int}
theorem m_openG (hM : wM Y) (hp : 0 ≤ p ∧ p < 12) (r2 : 0 ≤ X 1028 p ∧ X 1028 p < 10000) (r3 : 0 ≤ X 424 0 ∧ X 424 0 < 10000) : ev_ G 137 32 [.ref (wA Y 14 0), .int (zJ p), .int (zJ q)] [.int (zJ 0), .ref (wA Y 14 0)] (wd Y n s X) = some (.inl (some (.int (zJ (zclk (X 424 0 + 1) (X 1028 p) (X 424 0) (X 424 0))))), wd Y n s (wu (wu X 444 0 0) 1029 p (X 424 0))) := False.elim hM
theorem m_bundle0 (hM : wM Y) (hn : 0 ≤ X 400 0 ∧ X 400 0 ≤ 16) (hp : -2147483648 ≤ p ∧ p < 2147483648) (hq : -2147483648 ≤ q ∧ q < 2147483648) (hr : -2147483648 ≤ r ∧ r < 2147483648) (ht : -2147483648 ≤ t ∧ t < 2147483648) : ∃ u v, ev_ G 34 0 [.ref (wA Y 14 0), .int (zJ p), .int (zJ q), .int (zJ r), .int (zJ t), zU, zU] [] (wd Y n s X) = ev_ G 34 88 [.ref (wA Y 14 0), .int (zJ p), .int (zJ q), .int (zJ r), .int (zJ t), .int u, .int v] [.int (zJ (if (0 ≤ p ∧ p < 8) ∧ (0 ≤ q ∧ q < 8) then (if p ≠ q ∧ (1 ≤ r ∧ r ≤ 999) ∧ (1 ≤ t ∧ t ≤ 24) then (if X 400 0 = 16 then 3 else 0) else 2) else 1)), .ref (wA Y 14 0)] (wd Y n s X) := False.elim hM
end ZM
/-! THE TWO SIDES, 42: the reference's calls: bundle -/
section ZM
variable {Y : zLy} {n s : Nat} {X : zX} {G : Nat × Nat} {i j p q r t e : Int}
theorem m_bundleE {u v : Int32} (hM : wM Y) (he : 0 < e ∧ e < 100) : ev_ G 34 88 [.ref (wA Y 14 0), .int (zJ p), .int (zJ q), .int (zJ r), .int (zJ t), .int u, .int v] [.int (zJ e), .ref (wA Y 14 0)] (wd Y n s X) = some (.inl (some (.int (zJ 0))), wd Y n s (wu X 444 0 e)) := False.elim hM
theorem m_bundleG {u v : Int32} (hM : wM Y) (ho : 0 ≤ X 400 0 ∧ X 400 0 < 16) : ev_ G 34 88 [.ref (wA Y 14 0), .int (zJ p), .int (zJ q), .int (zJ r), .int (zJ t), .int u, .int v] [.int (zJ 0), .ref (wA Y 14 0)] (wd Y n s X) = some (.inl (some (.int (zJ (X 400 0)))), wd Y n s (wu (wu (wu (wu (wu (wu X 444 0 0) 1001 (X 400 0) p) 1002 (X 400 0) q) 1003 (X 400 0) r) 1004 (X 400 0) t) 400 0 (X 400 0 + 1))) := False.elim hM
end ZM
/-! THE TWO SIDES, 43: the reference's calls: connector -/
section ZM
variable {Y : zLy} {n s : Nat} {X : zX} {G : Nat × Nat} {i j p q r t e : Int}
theorem m_connector0 (hM : wM Y) (hn : 0 ≤ X 405 0 ∧ X 405 0 ≤ 8) (hp : -2147483648 ≤ p ∧ p < 2147483648) (hq : -2147483648 ≤ q ∧ q < 2147483648) (hr : -2147483648 ≤ r ∧ r < 2147483648) : ∃ u, ev_ G 40 0 [.ref (wA Y 14 0), .int (zJ p), .int (zJ q), .int (zJ r), zU] [] (wd Y n s X) = ev_ G 40 62 [.ref (wA Y 14 0), .int (zJ p), .int (zJ q), .int (zJ r), .int u] [.int (zJ (if 0 ≤ p ∧ p < 8 then (if (1 ≤ q ∧ q ≤ 8) ∧ (0 ≤ r ∧ r ≤ 9) then (if X 405 0 = 8 then 3 else 0) else 2) else 1)), .ref (wA Y 14 0)] (wd Y n s X) := False.elim hM
theorem m_connectorE {u : Int32} (hM : wM Y) (he : 0 < e ∧ e < 100) : ev_ G 40 62 [.ref (wA Y 14 0), .int (zJ p), .int (zJ q), .int (zJ r), .int u] [.int (zJ e), .ref (wA Y 14 0)] (wd Y n s X) = some (.inl (some (.int (zJ 0))), wd Y n s (wu X 444 0 e)) := False.elim hM
end ZM
/-! THE TWO SIDES, 44: the reference's calls: connector, on -/
section ZM
variable {Y : zLy} {n s : Nat} {X : zX} {G : Nat × Nat} {i j p q r t e : Int}
theorem m_connectorG {u : Int32} (hM : wM Y) (ho : 0 ≤ X 405 0 ∧ X 405 0 < 8) : ev_ G 40 62 [.ref (wA Y 14 0), .int (zJ p), .int (zJ q), .int (zJ r), .int u] [.int (zJ 0), .ref (wA Y 14 0)] (wd Y n s X) = some (.inl (some (.int (zJ (X 405 0)))), wd Y n s (wu (wu (wu (wu (wu X 444 0 0) 1006 (X 405 0) p) 1007 (X 405 0) q) 1008 (X 405 0) r) 405 0 (X 405 0 + 1))) := False.elim hM
end ZM
/-! THE TWO SIDES, 45: the reference's calls: ship -/
def zfm (X : zX) (b f : Int) : Int := zsm (fun m => zB (X 1041 m ≠ 0 ∧ X 1042 m = f)) (8 * b) 8
theorem zfm_r (X : zX) (b f : Int) : 0 ≤ zfm X b f ∧ zfm X b f ≤ 8 := zsm_B (fun i => zB_r _) 8 (8 * b)
section ZM
variable {Y : zLy} {n s : Nat} {X : zX} {G : Nat × Nat} {i j p q r t e : Int}
theorem m_ship0 (hM : wM Y) (hn : 0 ≤ X 434 0 ∧ X 434 0 ≤ 12) (hp : -2147483648 ≤ p ∧ p < 2147483648) (hr : ∀ k, 0 ≤ k → k < 96 → 0 ≤ X 1041 k ∧ X 1041 k < 6 ∧ 0 ≤ X 1042 k ∧ X 1042 k ≤ 1) (hb : ∀ b, 0 ≤ b → b < 12 → (0 ≤ X 1036 b ∧ X 1036 b ≤ 1) ∧ (0 ≤ X 1037 b ∧ X 1037 b ≤ 1)) : ev_ G 191 0 [.ref (wA Y 14 0), .int (zJ p)] [] (wd Y n s X) = ev_ G 191 45 [.ref (wA Y 14 0), .int (zJ p)] [.int (zJ (if 0 ≤ p ∧ p < X 434 0 then (if X 1037 p = 0 ∧ X 1036 p ≠ 0 ∧ zfm X p 1 ≤ 0 then 0 else 2) else 1)), .ref (wA Y 14 0)] (wd Y n s X) := False.elim hM
theorem m_shipE (hM : wM Y) (he : 0 < e ∧ e < 100) : ev_ G 191 45 [.ref (wA Y 14 0), .int (zJ p)] [.int (zJ e), .ref (wA Y 14 0)] (wd Y n s X) = some (.inl (some (.int (zJ 0))), wd Y n s (wu X 444 0 e)) := False.elim hM
end ZM
/-! THE TWO SIDES, 46: the reference's calls: ship, on -/
section ZM
variable {Y : zLy} {n s : Nat} {X : zX} {G : Nat × Nat} {i j p q r t e : Int}
theorem m_shipG (hM : wM Y) (hp : 0 ≤ p ∧ p < 12) (hr : ∀ k, 0 ≤ k → k < 96 → 0 ≤ X 1041 k ∧ X 1041 k < 6 ∧ 0 ≤ X 1042 k ∧ X 1042 k ≤ 1) : ev_ G 191 45 [.ref (wA Y 14 0), .int (zJ p)] [.int (zJ 0), .ref (wA Y 14 0)] (wd Y n s X) = some (.inl (some (.int (zJ (zfm X p 0)))), wd Y n s (wu (wu X 444 0 0) 1037 p 1)) := False.elim hM
end ZM
/-! THE TWO SIDES, 47: the reference's calls: pull, ofWire -/
section ZM
variable {Y : zLy} {n s : Nat} {X : zX} {G : Nat × Nat} {i j p q r t e : Int}
theorem m_pull0 (hM : wM Y) (hw : wWm X) (hp : -2147483648 ≤ p ∧ p < 2147483648) : ev_ G 83 0 [.ref (wA Y 14 0), .int (zJ p), zU, zU] [] (wd Y n s X) = ev_ G 83 27 [.ref (wA Y 14 0), .int (zJ p), zU, zU] [.int (zJ (if 0 ≤ p ∧ p < X 410 0 then (if X 1011 p = 0 then 0 else 2) else 1)), .ref (wA Y 14 0)] (wd Y n s X) := False.elim hM
theorem m_pullE (hM : wM Y) (he : 0 < e ∧ e < 100) : ev_ G 83 27 [.ref (wA Y 14 0), .int (zJ p), zU, zU] [.int (zJ e), .ref (wA Y 14 0)] (wd Y n s X) = some (.inl (some (.int (zJ 0))), wd Y n s (wu X 444 0 e)) := False.elim hM
theorem m_ofWireE (hM : wM Y) (he : 0 < e ∧ e < 100) : ev_ G 87 19 [.ref (wA Y 14 0), .int (zJ p), .int (zJ q)] [.int (zJ e), .ref (wA Y 14 0)] (wd Y n s X) = some (.inl (some (.int (zJ 0))), wd Y n s (wu X 444 0 e)) := False.elim hM
end ZM
/-! THE TWO SIDES, 48: the reference's calls that throw: place, limits, flaw -/
section ZM
variable {Y : zLy} {n s : Nat} {X : zX} {G : Nat × Nat} {i j p q r t e : Int}
theorem m_placeE {u v : Int32} (hM : wM Y) (he : 0 < e ∧ e < 100) : ev_ G 156 94 [.ref (wA Y 14 0), .int (zJ p), .int (zJ q), .int (zJ r), .int u, .int v] [.int (zJ e), .ref (wA Y 14 0)] (wd Y n s X) = some (.inl (some (.int (zJ 0))), wd Y n s (wu X 444 0 e)) := False.elim hM
theorem m_limitsE {u v : Int32} (hM : wM Y) (he : 0 < e ∧ e < 100) : ev_ G 159 70 [.ref (wA Y 14 0), .int (zJ p), .int (zJ q), .int (zJ r), .int (zJ t), .int u, .int v] [.int (zJ e), .ref (wA Y 14 0)] (wd Y n s X) = some (.inl none, wd Y n s (wu X 444 0 e)) := False.elim hM
theorem m_flawE {u : Int32} (hM : wM Y) (he : 0 < e ∧ e < 100) : ev_ G 174 68 [.ref (wA Y 14 0), .int (zJ p), .int (zJ q), .int u] [.int (zJ e), .ref (wA Y 14 0)] (wd Y n s X) = some (.inl none, wd Y n s (wu X 444 0 e)) := False.elim hM
end ZM
/-! THE TWO SIDES, 49: the reference's calls: ofWire, place -/
section ZM
variable {Y : zLy} {n s : Nat} {X : zX} {G : Nat × Nat} {i j p q r t e : Int}
theorem m_ofWire0 (hM : wM Y) (hn : 0 ≤ X 410 0 ∧ X 410 0 ≤ 24) (hp : -2147483648 ≤ p ∧ p < 2147483648) (hq : -2147483648 ≤ q ∧ q < 2147483648) : ev_ G 87 0 [.ref (wA Y 14 0), .int (zJ p), .int (zJ q)] [] (wd Y n s X) = ev_ G 87 19 [.ref (wA Y 14 0), .int (zJ p), .int (zJ q)] [.int (zJ (if (0 ≤ p ∧ p < X 410 0) ∧ -1 ≤ q then 0 else 1)), .ref (wA Y 14 0)] (wd Y n s X) := False.elim hM
theorem m_placeG {u v : Int32} (hM : wM Y) (hp : 0 ≤ p ∧ p < 12) (hq : 0 ≤ q ∧ q < 8) (hr : 0 ≤ r ∧ r < 12) : ev_ G 156 94 [.ref (wA Y 14 0), .int (zJ p), .int (zJ q), .int (zJ r), .int u, .int v] [.int (zJ 0), .ref (wA Y 14 0)] (wd Y n s X) = some (.inl (some (.int (zJ (X 1027 r - 1)))), wd Y n s (wu (wu (wu (wu X 444 0 0) 1038 (8 * p + q) r) 1039 (8 * p + q) (X 424 0)) 1027 r (X 1027 r - 1))) := False.elim hM
end ZM
/-! THE TWO SIDES, 50: the reference's calls: place's code -/
section ZM
variable {Y : zLy} {n s : Nat} {X : zX} {G : Nat × Nat} {i j p q r t e : Int}
theorem m_place0 (hM : wM Y) (hn : 0 ≤ X 434 0 ∧ X 434 0 ≤ 12) (hn2 : 0 ≤ X 425 0 ∧ X 425 0 ≤ 12) (hp : -2147483648 ≤ p ∧ p < 2147483648) (hq : -2147483648 ≤ q ∧ q < 2147483648) (hr : -2147483648 ≤ r ∧ r < 2147483648) (hs : ∀ b, 0 ≤ b → b < 12 → 0 ≤ X 1035 b ∧ X 1035 b ≤ 1) (hk : ∀ k, 0 ≤ k → k < 96 → -1 ≤ X 1038 k ∧ X 1038 k < 12) (hre : ∀ k, 0 ≤ k → k < 12 → (-1 ≤ X 1029 k ∧ X 1029 k < 10000) ∧ (0 ≤ X 1028 k ∧ X 1028 k < 10000) ∧ (0 ≤ X 1027 k ∧ X 1027 k < 1000)) (hm : 0 ≤ X 424 0 ∧ X 424 0 < 10000) : ∃ u v, ev_ G 156 0 [.ref (wA Y 14 0), .int (zJ p), .int (zJ q), .int (zJ r), zU, zU] [] (wd Y n s X) = ev_ G 156 94 [.ref (wA Y 14 0), .int (zJ p), .int (zJ q), .int (zJ r), .int u, .int v] [.int (zJ (if (0 ≤ p ∧ p < X 434 0) ∧ (0 ≤ q ∧ q < 8) ∧ (0 ≤ r ∧ r < X 425 0) then (if X 1035 p = 0 ∧ X 1038 (8 * p + q) = -1 ∧ (0 < X 1027 r ∧ zclk (X 1029 r + 1) (X 1028 r) (X 1029 r) (X 424 0) ≠ -1) then 0 else 2) else 1)), .ref (wA Y 14 0)] (wd Y n s X) := False.elim hM
end ZM
/-! THE TWO SIDES, 51: the reference's calls by cases: ofWire, pull, least, reel -/
theorem zB_if {p : Prop} [Decidable p] : (zJ (zB p) = zJ 0) = ¬p := by
  by_cases h : p
  · rw [zB_1 h]; exact propext ⟨fun g => absurd g (by decide), fun g => absurd h g⟩
  · rw [zB_0 h]; exact propext ⟨fun _ => h, fun _ => rfl⟩
theorem i_10 : ((1 : Int) = 0) = False := eq_false (by decide)
theorem i_00 : ((0 : Int) = 0) = True := eq_self _
def zfl (Y : zLy) (n s : Nat) (X : zX) (k : Int) : zR := some (.inl (some (.int (zJ 0))), wd Y n s (wu X 444 0 k))
section ZM
variable {Y : zLy} {n s : Nat} {X : zX} {G : Nat × Nat} {i j p q r t e : Int} {X0 : zX}
theorem m_fz (hM : wM Y) : ev_ G 33 0 [.ref (wA Y 14 0), .int (zJ 0)] [] (wd Y n s X) = some (.inl (some (.int (zJ 0))), wd Y n s (wu X 444 0 0)) := False.elim hM
theorem m_fe (hM : wM Y) (he : 0 < e) (he' : e < 100) : ev_ G 33 0 [.ref (wA Y 14 0), .int (zJ e)] [] (wd Y n s X) = some (.inl (some (.int (zJ 1))), wd Y n s (wu X 444 0 e)) := False.elim hM
theorem m_ofWireG (hM : wM Y) (h0 : wu X 444 0 0 = X0) (hw : wWm X0) (hp : 0 ≤ p ∧ p < X0 410 0) (hq : -1 ≤ q ∧ q < 2147483648) : ev_ G 87 19 [.ref (wA Y 14 0), .int (zJ p), .int (zJ q)] [.int (zJ 0), .ref (wA Y 14 0)] (wd Y n s X) = some (.inl (some (.int (zJ (if q = -1 then zln1 X0 p else if X0 1011 p = 0 ∧ q < X0 1014 p then X0 1015 (16 * p + q) else -1)))), wd Y n s X0) := False.elim hM
theorem m_pullG (hM : wM Y) (h0 : wu X 444 0 0 = X0) (hw : wWm X0) (hp : 0 ≤ p ∧ p < X0 410 0) : ev_ G 83 27 [.ref (wA Y 14 0), .int (zJ p), zU, zU] [.int (zJ 0), .ref (wA Y 14 0)] (wd Y n s X) = some (.inl (some (.int (zJ (zln1 X0 p)))), wd Y n s (zrm2 1 (16 * p) (X0 1014 p).toNat (wu X0 1011 p 1))) := False.elim hM
theorem m_least (hM : wM Y) (h0 : wu X 444 0 0 = X0) (hp : -2147483648 ≤ p ∧ p < 2147483648) (hw : wWm X0) (ho : 0 ≤ X0 417 0 ∧ X0 417 0 ≤ 5) (hr : ∀ k, 0 ≤ k → k < 5 → 0 ≤ X0 1020 k ∧ X0 1020 k < 100) (hb : ∀ X', (∀ f j, f ≠ 1020 → X' f j = X0 f j) → (∀ k, 0 ≤ k → k < 5 → 0 ≤ X' 1020 k ∧ X' 1020 k < 100) → 1 ≤ p → p ≤ 5 → 0 ≤ zsm (zfw X') 0 p.toNat ∧ zsm (zfw X') 0 p.toNat ≤ 2000000000) : (¬(1 ≤ p ∧ p ≤ 5) → ev_ G 107 0 [.ref (wA Y 14 0), .int (zJ p)] [] (wd Y n s X) = zfl Y n s X 1) ∧ ((1 ≤ p ∧ p ≤ 5) → ev_ G 107 0 [.ref (wA Y 14 0), .int (zJ p)] [] (wd Y n s X) = some (.inl (some (.int (zJ (zlo p (X0 417 0).toNat (p ^ (X0 417 0).toNat).toNat 0 1000000000 X0).1))), wd Y n s (zlo p (X0 417 0).toNat (p ^ (X0 417 0).toNat).toNat 0 1000000000 X0).2)) := False.elim hM
theorem m_leastAnew {R : Int} {X' : zX} (hM : wM Y) (h : ev_ G 107 0 [.ref (wA Y 14 0), .int (zJ p)] [] (wd Y n s X) = some (.inl (some (.int (zJ R))), wd Y n s X')) : ev_ G 113 0 [.ref (wA Y 14 0), .int (zJ p)] [] (wd Y n s X) = some (.inl (some (.int (zJ R))), wd Y n s X') := False.elim hM
theorem m_reel (hM : wM Y) (h0 : wu X 444 0 0 = X0) (hp : -2147483648 ≤ p ∧ p < 2147483648) (hq : -2147483648 ≤ q ∧ q < 2147483648) (hr : -2147483648 ≤ r ∧ r < 2147483648) (ho : 0 ≤ X 425 0 ∧ X 425 0 ≤ 12) : (¬(0 ≤ p ∧ p < 6) → ev_ G 129 0 [.ref (wA Y 14 0), .int (zJ p), .int (zJ q), .int (zJ r), zU] [] (wd Y n s X) = zfl Y n s X 1) ∧ ((0 ≤ p ∧ p < 6) → ¬((1 ≤ q ∧ q ≤ 99) ∧ (1 ≤ r ∧ r ≤ 5000)) → ev_ G 129 0 [.ref (wA Y 14 0), .int (zJ p), .int (zJ q), .int (zJ r), zU] [] (wd Y n s X) = zfl Y n s X 2) ∧ ((0 ≤ p ∧ p < 6) → ((1 ≤ q ∧ q ≤ 99) ∧ (1 ≤ r ∧ r ≤ 5000)) → ¬X 425 0 < 12 → ev_ G 129 0 [.ref (wA Y 14 0), .int (zJ p), .int (zJ q), .int (zJ r), zU] [] (wd Y n s X) = zfl Y n s X 3) ∧ ((0 ≤ p ∧ p < 6) → ((1 ≤ q ∧ q ≤ 99) ∧ (1 ≤ r ∧ r ≤ 5000)) → X 425 0 < 12 → ev_ G 129 0 [.ref (wA Y 14 0), .int (zJ p), .int (zJ q), .int (zJ r), zU] [] (wd Y n s X) = some (.inl (some (.int (zJ (X0 425 0)))), wd Y n s (wu (wu (wu (wu (wu X0 1026 (X0 425 0) p) 1027 (X0 425 0) q) 1028 (X0 425 0) r) 1029 (X0 425 0) (-1)) 425 0 (X0 425 0 + 1)))) := False.elim hM
end ZM
/-! THE TWO SIDES, 52: the reference's calls by cases: mates, crimp, limits, solder -/
section ZM
variable {Y : zLy} {n s : Nat} {X : zX} {G : Nat × Nat} {i j p q r t e : Int} {X0 : zX}
theorem m_mates (hM : wM Y) (h0 : wu X 444 0 0 = X0) (hn : 0 ≤ X0 405 0 ∧ X0 405 0 ≤ 8) (hr : ∀ c, 0 ≤ c → c < 8 → 0 ≤ X0 1007 c ∧ X0 1007 c < 100 ∧ 0 ≤ X0 1008 c ∧ X0 1008 c < 100 ∧ -1 ≤ X0 1009 c ∧ X0 1009 c < 100) (hp : -2147483648 ≤ p ∧ p < 2147483648) (hq : -2147483648 ≤ q ∧ q < 2147483648) : (¬((0 ≤ p ∧ p < X0 405 0) ∧ (0 ≤ q ∧ q < X0 405 0)) → ev_ G 52 0 [.ref (wA Y 14 0), .int (zJ p), .int (zJ q), zU, zU, zU, zU] [] (wd Y n s X) = zfl Y n s X 1) ∧ (((0 ≤ p ∧ p < X0 405 0) ∧ (0 ≤ q ∧ q < X0 405 0)) → p = q → ev_ G 52 0 [.ref (wA Y 14 0), .int (zJ p), .int (zJ q), zU, zU, zU, zU] [] (wd Y n s X) = zfl Y n s X 2) ∧ (((0 ≤ p ∧ p < X0 405 0) ∧ (0 ≤ q ∧ q < X0 405 0)) → p ≠ q → ¬((X0 1007 p = X0 1007 q ∧ X0 1008 p = X0 1008 q) ∧ X0 1009 p = -1 ∧ X0 1009 q = -1) → ev_ G 52 0 [.ref (wA Y 14 0), .int (zJ p), .int (zJ q), zU, zU, zU, zU] [] (wd Y n s X) = zfl Y n s X 3) ∧ (((0 ≤ p ∧ p < X0 405 0) ∧ (0 ≤ q ∧ q < X0 405 0)) → p ≠ q → ((X0 1007 p = X0 1007 q ∧ X0 1008 p = X0 1008 q) ∧ X0 1009 p = -1 ∧ X0 1009 q = -1) → ev_ G 52 0 [.ref (wA Y 14 0), .int (zJ p), .int (zJ q), zU, zU, zU, zU] [] (wd Y n s X) = some (.inl (some (.int (zJ (0 + zsm (zprm (wu (wu X0 1009 p q) 1009 q p)) 0 (X0 405 0).toNat)))), wd Y n s (wu (wu X0 1009 p q) 1009 q p))) := False.elim hM
theorem m_crimp (hM : wM Y) (h0 : wu X 444 0 0 = X0) (hp : -2147483648 ≤ p ∧ p < 2147483648) (hg : 0 ≤ X0 422 0 ∧ X0 422 0 < 100000) (hc : 0 ≤ X0 421 0 ∧ X0 421 0 < 100000) (hf : ∀ k, 0 ≤ k → k < 8 → 0 ≤ X0 1023 k ∧ X0 1023 k < 10000) (hw : 0 ≤ zwin2 X0 ∧ zwin2 X0 < 10000) : (¬(1 ≤ p ∧ p ≤ 9999) → ev_ G 122 0 [.ref (wA Y 14 0), .int (zJ p), zU, zU] [] (wd Y n s X) = zfl Y n s X 1) ∧ ((1 ≤ p ∧ p ≤ 9999) → ¬(X0 422 0 < 3 ∨ 10 * (if zwin2 X0 < p then p - zwin2 X0 else zwin2 X0 - p) ≤ zwin2 X0) → ev_ G 122 0 [.ref (wA Y 14 0), .int (zJ p), zU, zU] [] (wd Y n s X) = some (.inl (some (.int (zJ 0))), wd Y n s (wu X0 421 0 (X0 421 0 + 1)))) ∧ ((1 ≤ p ∧ p ≤ 9999) → (X0 422 0 < 3 ∨ 10 * (if zwin2 X0 < p then p - zwin2 X0 else zwin2 X0 - p) ≤ zwin2 X0) → ev_ G 122 0 [.ref (wA Y 14 0), .int (zJ p), zU, zU] [] (wd Y n s X) = some (.inl (some (.int (zJ 1))), wd Y n s (wu (wu (wu X0 421 0 (X0 421 0 + 1)) 1023 (X0 422 0 % 8) p) 422 0 (X0 422 0 + 1)))) := False.elim hM
end ZM
/-! THE TWO SIDES, 53: the reference's calls by cases: limits, solder, flaw, cover -/
section ZM
variable {Y : zLy} {n s : Nat} {X : zX} {G : Nat × Nat} {i j p q r t e z : Int} {X0 : zX}
def zfn (Y : zLy) (n s : Nat) (X : zX) (k : Int) : zR := some (.inl none, wd Y n s (wu X 444 0 k))
theorem m_limZ (hM : wM Y) (h0 : wu X 444 0 0 = X0) (hp : -2147483648 ≤ p ∧ p < 2147483648) (hq : -2147483648 ≤ q ∧ q < 2147483648) (hr : -2147483648 ≤ r ∧ r < 2147483648) : (¬(0 ≤ p ∧ p < 4) → ev_ G 159 0 [.ref (wA Y 14 0), .int (zJ 1), .int (zJ p), .int (zJ q), .int (zJ r), zU, zU] [] (wd Y n s X) = zfn Y n s X 1) ∧ ((0 ≤ p ∧ p < 4) → ¬(0 ≤ q ∧ q ≤ 400) → ev_ G 159 0 [.ref (wA Y 14 0), .int (zJ 1), .int (zJ p), .int (zJ q), .int (zJ r), zU, zU] [] (wd Y n s X) = zfn Y n s X 2) ∧ ((0 ≤ p ∧ p < 4) → (0 ≤ q ∧ q ≤ 400) → ev_ G 159 0 [.ref (wA Y 14 0), .int (zJ 1), .int (zJ p), .int (zJ q), .int (zJ r), zU, zU] [] (wd Y n s X) = some (.inl none, wd Y n s (wu X0 1030 p q))) := False.elim hM
theorem m_limP (hM : wM Y) (h0 : wu X 444 0 0 = X0) (hp : -2147483648 ≤ p ∧ p < 2147483648) (hq : -2147483648 ≤ q ∧ q < 2147483648) (hr : -2147483648 ≤ r ∧ r < 2147483648) : (¬(0 ≤ p ∧ p < 6) → ev_ G 159 0 [.ref (wA Y 14 0), .int (zJ 0), .int (zJ p), .int (zJ q), .int (zJ r), zU, zU] [] (wd Y n s X) = zfn Y n s X 1) ∧ ((0 ≤ p ∧ p < 6) → ¬((0 ≤ q ∧ q ≤ 400) ∧ (q ≤ r ∧ r ≤ 400)) → ev_ G 159 0 [.ref (wA Y 14 0), .int (zJ 0), .int (zJ p), .int (zJ q), .int (zJ r), zU, zU] [] (wd Y n s X) = zfn Y n s X 2) ∧ ((0 ≤ p ∧ p < 6) → ((0 ≤ q ∧ q ≤ 400) ∧ (q ≤ r ∧ r ≤ 400)) → ev_ G 159 0 [.ref (wA Y 14 0), .int (zJ 0), .int (zJ p), .int (zJ q), .int (zJ r), zU, zU] [] (wd Y n s X) = some (.inl none, wd Y n s (wu (wu X0 1031 p q) 1032 p r))) := False.elim hM
theorem m_solder (hM : wM Y) (h0 : wu X 444 0 0 = X0) (hp : -2147483648 ≤ p ∧ p < 2147483648) (hn : 0 ≤ X0 434 0 ∧ X0 434 0 ≤ 12) (hs : ∀ b, 0 ≤ b → b < 12 → 0 ≤ X0 1035 b ∧ X0 1035 b ≤ 1) (h1 : ∀ k, 0 ≤ k → k < 96 → -1 ≤ X0 1038 k ∧ X0 1038 k < 12) (h2 : ∀ r, 0 ≤ r → r < 12 → 0 ≤ X0 1026 r ∧ X0 1026 r < 6) (h3 : ∀ q, 0 ≤ q → q < 6 → 0 ≤ X0 1031 q ∧ X0 1031 q ≤ 1000 ∧ 0 ≤ X0 1032 q ∧ X0 1032 q ≤ 1000) (hh : ∀ z, 0 ≤ z → z < 4 → 0 ≤ X0 1030 z ∧ X0 1030 z ≤ 1000) (hz : 0 ≤ z ∧ z ≤ 1000) (hzp : zpk (X0 1030) (zmk X0 p) 12 0 25 (-1) = z) : (¬(0 ≤ p ∧ p < X0 434 0) → ev_ G 171 0 [.ref (wA Y 14 0), .int (zJ p), zU, zU, zU] [] (wd Y n s X) = zfl Y n s X 1) ∧ ((0 ≤ p ∧ p < X0 434 0) → X0 1035 p ≠ 0 → ev_ G 171 0 [.ref (wA Y 14 0), .int (zJ p), zU, zU, zU] [] (wd Y n s X) = zfl Y n s X 2) ∧ ((0 ≤ p ∧ p < X0 434 0) → X0 1035 p = 0 → ev_ G 171 0 [.ref (wA Y 14 0), .int (zJ p), zU, zU, zU] [] (wd Y n s X) = some (.inl (some (.int (zJ z))), wd Y n s (zsom z 8 (8 * p) (wu X0 1035 p 1)))) := False.elim hM
theorem m_flaw (hM : wM Y) (h0 : wu X 444 0 0 = X0) (hp : -2147483648 ≤ p ∧ p < 2147483648) (hq : -2147483648 ≤ q ∧ q < 2147483648) (hn : 0 ≤ X0 434 0 ∧ X0 434 0 ≤ 12) (hs : ∀ b, 0 ≤ b → b < 12 → (0 ≤ X0 1035 b ∧ X0 1035 b ≤ 1) ∧ (0 ≤ X0 1037 b ∧ X0 1037 b ≤ 1)) (h1 : ∀ k, 0 ≤ k → k < 96 → -1 ≤ X0 1038 k ∧ X0 1038 k < 12) : (¬((0 ≤ p ∧ p < X0 434 0) ∧ (0 ≤ q ∧ q < 8)) → ev_ G 174 0 [.ref (wA Y 14 0), .int (zJ p), .int (zJ q), zU] [] (wd Y n s X) = zfn Y n s X 1) ∧ (((0 ≤ p ∧ p < X0 434 0) ∧ (0 ≤ q ∧ q < 8)) → ¬(X0 1035 p ≠ 0 ∧ X0 1037 p = 0 ∧ X0 1038 (8 * p + q) ≠ -1) → ev_ G 174 0 [.ref (wA Y 14 0), .int (zJ p), .int (zJ q), zU] [] (wd Y n s X) = zfn Y n s X 2) ∧ (((0 ≤ p ∧ p < X0 434 0) ∧ (0 ≤ q ∧ q < 8)) → (X0 1035 p ≠ 0 ∧ X0 1037 p = 0 ∧ X0 1038 (8 * p + q) ≠ -1) → ev_ G 174 0 [.ref (wA Y 14 0), .int (zJ p), .int (zJ q), zU] [] (wd Y n s X) = some (.inl none, wd Y n s (wu (wu X0 1041 (8 * p + q) 3) 1042 (8 * p + q) 0))) := False.elim hM
theorem m_cover (hM : wM Y) (h0 : wu X 444 0 0 = X0) (hp : -2147483648 ≤ p ∧ p < 2147483648) (hz : 0 ≤ z ∧ z ≤ 1) (hr : ∀ k, 0 ≤ k → k < 8 → 0 ≤ X0 1033 k ∧ X0 1033 k ≤ 1) : (¬(0 ≤ p ∧ p < 8) → ev_ G 178 0 [.ref (wA Y 14 0), .int (zJ p), .int (zJ z), zU, zU] [] (wd Y n s X) = zfl Y n s X 1) ∧ ((0 ≤ p ∧ p < 8) → ev_ G 178 0 [.ref (wA Y 14 0), .int (zJ p), .int (zJ z), zU, zU] [] (wd Y n s X) = some (.inl (some (.int (zJ (0 + zsm (fun k => wu X0 1033 p z 1033 k) 0 8)))), wd Y n s (wu X0 1033 p z))) := False.elim hM
end ZM
/-! THE TWO SIDES, 54: the reference's calls by cases: test, repair, ofSlot, recall -/
section ZM
variable {Y : zLy} {n s : Nat} {X : zX} {G : Nat × Nat} {i j p q r t e z : Int} {X0 : zX}
theorem m_test (hM : wM Y) (h0 : wu X 444 0 0 = X0) (hp : -2147483648 ≤ p ∧ p < 2147483648) (hn : 0 ≤ X0 434 0 ∧ X0 434 0 ≤ 12) (hs : ∀ b, 0 ≤ b → b < 12 → (0 ≤ X0 1035 b ∧ X0 1035 b ≤ 1) ∧ (0 ≤ X0 1037 b ∧ X0 1037 b ≤ 1)) (h1 : ∀ k, 0 ≤ k → k < 96 → 0 ≤ X0 1041 k ∧ X0 1041 k < 6 ∧ 0 ≤ X0 1042 k ∧ X0 1042 k ≤ 1) (h2 : ∀ k, 0 ≤ k → k < 8 → 0 ≤ X0 1033 k ∧ X0 1033 k ≤ 1) : (¬(0 ≤ p ∧ p < X0 434 0) → ev_ G 184 0 [.ref (wA Y 14 0), .int (zJ p), zU, zU] [] (wd Y n s X) = zfl Y n s X 1) ∧ ((0 ≤ p ∧ p < X0 434 0) → ¬(X0 1035 p ≠ 0 ∧ X0 1037 p = 0) → ev_ G 184 0 [.ref (wA Y 14 0), .int (zJ p), zU, zU] [] (wd Y n s X) = zfl Y n s X 2) ∧ ((0 ≤ p ∧ p < X0 434 0) → (X0 1035 p ≠ 0 ∧ X0 1037 p = 0) → ∀ X', X' = ztsm p 8 0 (wu X0 1036 p 1) → ev_ G 184 0 [.ref (wA Y 14 0), .int (zJ p), zU, zU] [] (wd Y n s X) = some (.inl (some (.int (zJ (zsm (fun k => zB (X' 1041 k ≠ 0 ∧ X' 1042 k = 1)) (8 * p) 8)))), wd Y n s X')) := False.elim hM
theorem wu_ni {f i v g k : Int} (h : k ≠ i) : wu X f i v g k = X g k := if_neg (fun q => h q.2)
theorem m_repairE {u v w : Int32} (hM : wM Y) (he : 0 < e ∧ e < 100) : ev_ G 188 128 [.ref (wA Y 14 0), .int (zJ p), .int (zJ q), .int (zJ r), .int u, .int v, .int w] [.int (zJ e), .ref (wA Y 14 0)] (wd Y n s X) = zfl Y n s X e := False.elim hM
theorem m_repair (hM : wM Y) (h0 : wu X 444 0 0 = X0) (hp : -2147483648 ≤ p ∧ p < 2147483648) (hq : -2147483648 ≤ q ∧ q < 2147483648) (hr : -2147483648 ≤ r ∧ r < 2147483648) (hn : 0 ≤ X0 434 0 ∧ X0 434 0 ≤ 12) (hn2 : 0 ≤ X0 425 0 ∧ X0 425 0 ≤ 12) (hm : 0 ≤ X0 424 0 ∧ X0 424 0 < 10000) (h1 : ∀ k, 0 ≤ k → k < 96 → -1 ≤ X0 1038 k ∧ X0 1038 k < 12) (h2 : ∀ k, 0 ≤ k → k < 96 → 0 ≤ X0 1041 k ∧ X0 1041 k < 6 ∧ 0 ≤ X0 1042 k ∧ X0 1042 k ≤ 1) (h3 : ∀ k, 0 ≤ k → k < 96 → 0 ≤ X0 1043 k ∧ X0 1043 k ≤ 1) (h4 : ∀ k, 0 ≤ k → k < 96 → X0 1042 k ≠ 0 → 0 ≤ X0 1038 k) (h5 : ∀ r, 0 ≤ r → r < 12 → (0 ≤ X0 1026 r ∧ X0 1026 r < 6) ∧ (-1 ≤ X0 1029 r ∧ X0 1029 r < 10000) ∧ (0 ≤ X0 1028 r ∧ X0 1028 r < 10000) ∧ (0 ≤ X0 1027 r ∧ X0 1027 r < 1000)) : (¬((0 ≤ p ∧ p < X0 434 0) ∧ (0 ≤ q ∧ q < 8) ∧ (0 ≤ r ∧ r < X0 425 0)) → ev_ G 188 0 [.ref (wA Y 14 0), .int (zJ p), .int (zJ q), .int (zJ r), zU, zU, zU] [] (wd Y n s X) = zfl Y n s X 1) ∧ (((0 ≤ p ∧ p < X0 434 0) ∧ (0 ≤ q ∧ q < 8) ∧ (0 ≤ r ∧ r < X0 425 0)) → ¬(X0 1042 (8 * p + q) ≠ 0 ∧ X0 1043 (8 * p + q) = 0 ∧ X0 1026 r = X0 1026 (X0 1038 (8 * p + q)) ∧ (0 < X0 1027 r ∧ zclk (X0 1029 r + 1) (X0 1028 r) (X0 1029 r) (X0 424 0) ≠ -1)) → ev_ G 188 0 [.ref (wA Y 14 0), .int (zJ p), .int (zJ q), .int (zJ r), zU, zU, zU] [] (wd Y n s X) = zfl Y n s X 2) ∧ (((0 ≤ p ∧ p < X0 434 0) ∧ (0 ≤ q ∧ q < 8) ∧ (0 ≤ r ∧ r < X0 425 0)) → (X0 1042 (8 * p + q) ≠ 0 ∧ X0 1043 (8 * p + q) = 0 ∧ X0 1026 r = X0 1026 (X0 1038 (8 * p + q)) ∧ (0 < X0 1027 r ∧ zclk (X0 1029 r + 1) (X0 1028 r) (X0 1029 r) (X0 424 0) ≠ -1)) → ∀ X', X' = wu (wu (wu (wu (wu (wu (wu X0 1038 (8 * p + q) r) 1039 (8 * p + q) (X0 424 0)) 1027 r (X0 1027 r - 1)) 1041 (8 * p + q) 0) 1042 (8 * p + q) 0) 1043 (8 * p + q) 1) 1036 p 0 → ev_ G 188 0 [.ref (wA Y 14 0), .int (zJ p), .int (zJ q), .int (zJ r), zU, zU, zU] [] (wd Y n s X) = some (.inl (some (.int (zJ (zsm (fun m => zB (X' 1041 m ≠ 0 ∧ X' 1042 m = 1)) (8 * p) 8)))), wd Y n s X')) := False.elim hM
theorem m_ofSlot (hM : wM Y) (h0 : wu X 444 0 0 = X0) (hp : -2147483648 ≤ p ∧ p < 2147483648) (hq : -2147483648 ≤ q ∧ q < 2147483648) (hr : -2147483648 ≤ r ∧ r < 2147483648) (hn : 0 ≤ X0 434 0 ∧ X0 434 0 ≤ 12) (h2 : ∀ k, 0 ≤ k → k < 96 → 0 ≤ X0 1042 k ∧ X0 1042 k ≤ 1) (h3 : ∀ k, 0 ≤ k → k < 96 → 0 ≤ X0 1043 k ∧ X0 1043 k ≤ 1) : (¬((0 ≤ p ∧ p < X0 434 0) ∧ (0 ≤ q ∧ q < 8) ∧ (0 ≤ r ∧ r ≤ 3)) → ev_ G 197 0 [.ref (wA Y 14 0), .int (zJ p), .int (zJ q), .int (zJ r), zU] [] (wd Y n s X) = zfl Y n s X 1) ∧ (((0 ≤ p ∧ p < X0 434 0) ∧ (0 ≤ q ∧ q < 8) ∧ (0 ≤ r ∧ r ≤ 3)) → ev_ G 197 0 [.ref (wA Y 14 0), .int (zJ p), .int (zJ q), .int (zJ r), zU] [] (wd Y n s X) = some (.inl (some (.int (zJ (if r = 0 then X0 1038 (8 * p + q) else if r = 1 then X0 1039 (8 * p + q) else if r = 2 then (if X0 1042 (8 * p + q) = 0 then 0 else X0 1041 (8 * p + q)) else if X0 1043 (8 * p + q) = 0 then 0 else 1)))), wd Y n s X0)) := False.elim hM
theorem m_recall (hM : wM Y) (h0 : wu X 444 0 0 = X0) (hp : -2147483648 ≤ p ∧ p < 2147483648) (hn : 0 ≤ X0 434 0 ∧ X0 434 0 ≤ 12) (hn2 : 0 ≤ X0 425 0 ∧ X0 425 0 ≤ 12) (h1 : ∀ k, 0 ≤ k → k < 96 → -1 ≤ X0 1038 k ∧ X0 1038 k < 12) (hs : ∀ b, 0 ≤ b → b < 12 → 0 ≤ X0 1037 b ∧ X0 1037 b ≤ 1) : (¬(0 ≤ p ∧ p < X0 425 0) → ev_ G 204 0 [.ref (wA Y 14 0), .int (zJ p), zU, zU, zU, zU] [] (wd Y n s X) = zfl Y n s X 1) ∧ ((0 ≤ p ∧ p < X0 425 0) → ev_ G 204 0 [.ref (wA Y 14 0), .int (zJ p), zU, zU, zU, zU] [] (wd Y n s X) = some (.inl (some (.int (zJ (0 + zsm (fun b => zB (X0 1037 b ≠ 0 ∧ 0 < zsm (fun m => zB (X0 1038 m = p)) (8 * b) 8)) 0 (X0 434 0).toNat)))), wd Y n s X0)) := False.elim hM
end ZM
/-! THE TWO SIDES, 55: the reference's calls by cases: wire -/
section ZM
variable {Y : zLy} {n s : Nat} {X : zX} {G : Nat × Nat} {i j p q r t e z : Int}
def zcv (X : zX) (c v : Int) : Prop := (0 ≤ c ∧ c < X 405 0) ∧ (0 ≤ v ∧ v < X 1007 c)
theorem m_isCav1 (hM : wM Y) (hn : 0 ≤ X 405 0 ∧ X 405 0 ≤ 8) (hv : ∀ c, 0 ≤ c → c < 8 → (0 ≤ X 1007 c ∧ X 1007 c ≤ 8) ∧ (0 ≤ X 1006 c ∧ X 1006 c < 8)) (hp : -2147483648 ≤ p ∧ p < 2147483648) (hq : -2147483648 ≤ q ∧ q < 2147483648) (h : zcv X p q) : ev_ G 69 0 [.ref (wA Y 14 0), .int (zJ p), .int (zJ q)] [] (wd Y n s X) = some (.inl (some (.int (zJ 1))), wd Y n s X) := False.elim hM
theorem m_isCav0 (hM : wM Y) (hn : 0 ≤ X 405 0 ∧ X 405 0 ≤ 8) (hv : ∀ c, 0 ≤ c → c < 8 → (0 ≤ X 1007 c ∧ X 1007 c ≤ 8) ∧ (0 ≤ X 1006 c ∧ X 1006 c < 8)) (hp : -2147483648 ≤ p ∧ p < 2147483648) (hq : -2147483648 ≤ q ∧ q < 2147483648) (h : ¬zcv X p q) : ev_ G 69 0 [.ref (wA Y 14 0), .int (zJ p), .int (zJ q)] [] (wd Y n s X) = some (.inl (some (.int (zJ 0))), wd Y n s X) := False.elim hM
theorem zrm2_f {d f j : Int} (h : f ≠ 1004) : ∀ (k : Nat) (i : Int) (X : zX), zrm2 d i k X f j = X f j := by
  intro k
  induction k with
  | zero => intro i X; rfl
  | succ k ih => intro i X; exact (ih _ _).trans (wu_ne h)
def zty (X : zX) (c : Int) : Prop := ∃ w, 0 ≤ w ∧ w < X 410 0 ∧ ztk1 X c w
theorem m_isTaken {c : Int} (hM : wM Y) (hn : 0 ≤ X 410 0 ∧ X 410 0 ≤ 24) (hc : 0 ≤ c ∧ c < 100) (hr : ∀ w, 0 ≤ w → w < X 410 0 → (0 ≤ X 1011 w ∧ X 1011 w ≤ 1) ∧ (0 ≤ X 1012 (2 * w) ∧ X 1012 (2 * w) < 100) ∧ (0 ≤ X 1012 (2 * w + 1) ∧ X 1012 (2 * w + 1) < 100)) : (zty X c → ev_ G 72 0 [.ref (wA Y 14 0), .int (zJ c), zU, zU] [] (wd Y n s X) = some (.inl (some (.int (zJ 1))), wd Y n s X)) ∧ (¬zty X c → ev_ G 72 0 [.ref (wA Y 14 0), .int (zJ c), zU, zU] [] (wd Y n s X) = some (.inl (some (.int (zJ 0))), wd Y n s X)) := False.elim hM
theorem m_wireE {u1 u2 u3 u4 u5 u6 u7 u8 u9 : Int32} (hM : wM Y) (he : 0 < e ∧ e < 100) : ev_ G 75 153 [.ref (wA Y 14 0), .int u1, .int u2, .int u3, .int u4, .int u5, .int u6, .int u7, .int u8, .int u9] [.int (zJ e), .ref (wA Y 14 0)] (wd Y n s X) = zfl Y n s X e := False.elim hM
theorem m_wire1 (hM : wM Y) (hn : 0 ≤ X 405 0 ∧ X 405 0 ≤ 8) (hv : ∀ c, 0 ≤ c → c < 8 → (0 ≤ X 1007 c ∧ X 1007 c ≤ 8) ∧ (0 ≤ X 1006 c ∧ X 1006 c < 8)) (hp : -2147483648 ≤ p ∧ p < 2147483648) (hq : -2147483648 ≤ q ∧ q < 2147483648) (hr : -2147483648 ≤ r ∧ r < 2147483648) (ht : -2147483648 ≤ t ∧ t < 2147483648) (he : -2147483648 ≤ e ∧ e < 2147483648) (h : ¬(zcv X p q ∧ zcv X r t)) : ev_ G 75 0 [.ref (wA Y 14 0), .int (zJ p), .int (zJ q), .int (zJ r), .int (zJ t), .int (zJ e), zU, zU, zU, zU] [] (wd Y n s X) = zfl Y n s X 1 := False.elim hM
theorem m_wire2 (hM : wM Y) (hn : 0 ≤ X 405 0 ∧ X 405 0 ≤ 8) (hv : ∀ c, 0 ≤ c → c < 8 → (0 ≤ X 1007 c ∧ X 1007 c ≤ 8) ∧ (0 ≤ X 1006 c ∧ X 1006 c < 8)) (hp : -2147483648 ≤ p ∧ p < 2147483648) (hq : -2147483648 ≤ q ∧ q < 2147483648) (hr : -2147483648 ≤ r ∧ r < 2147483648) (ht : -2147483648 ≤ t ∧ t < 2147483648) (he : -2147483648 ≤ e ∧ e < 2147483648) (g1 : zcv X p q) (g2 : zcv X r t) (h : ¬(p ≠ r ∧ (0 ≤ e ∧ e ≤ 7))) : ev_ G 75 0 [.ref (wA Y 14 0), .int (zJ p), .int (zJ q), .int (zJ r), .int (zJ t), .int (zJ e), zU, zU, zU, zU] [] (wd Y n s X) = zfl Y n s X 2 := False.elim hM
theorem m_wireF {X1 : zX} (hM : wM Y) (hn : 0 ≤ X 405 0 ∧ X 405 0 ≤ 8) (hv : ∀ c, 0 ≤ c → c < 8 → (0 ≤ X 1007 c ∧ X 1007 c ≤ 8) ∧ (0 ≤ X 1006 c ∧ X 1006 c < 8)) (hb : wBm X (X 400 0)) (hnb : 0 ≤ X 400 0) (hf : zcbm (X 1016)) (hp : -2147483648 ≤ p ∧ p < 2147483648) (hq : -2147483648 ≤ q ∧ q < 2147483648) (hr : -2147483648 ≤ r ∧ r < 2147483648) (ht : -2147483648 ≤ t ∧ t < 2147483648) (he : -2147483648 ≤ e ∧ e < 2147483648) (g1 : zcv X p q) (g2 : zcv X r t) (h : p ≠ r ∧ (0 ≤ e ∧ e ≤ 7)) (hX1 : zrf X (zcsm X (X 400 0) (X 1006 r)) = X1) : ev_ G 75 0 [.ref (wA Y 14 0), .int (zJ p), .int (zJ q), .int (zJ r), .int (zJ t), .int (zJ e), zU, zU, zU, zU] [] (wd Y n s X) = ev_ G 75 69 [.ref (wA Y 14 0), .int (zJ p), .int (zJ q), .int (zJ r), .int (zJ t), .int (zJ e), .int (zJ 1), .int (zJ 1), zU, zU] [] (wd Y n s X1) := False.elim hM
theorem m_wire3 {X1 : zX} (hM : wM Y) (hn : 0 ≤ X1 405 0 ∧ X1 405 0 ≤ 8) (hv : ∀ c, 0 ≤ c → c < 8 → (0 ≤ X1 1007 c ∧ X1 1007 c ≤ 8) ∧ (0 ≤ X1 1006 c ∧ X1 1006 c < 8)) (hf : zcbm (X1 1016)) (hw : 0 ≤ X1 410 0 ∧ X1 410 0 ≤ 24) (hk : ∀ w, 0 ≤ w → w < X1 410 0 → (0 ≤ X1 1011 w ∧ X1 1011 w ≤ 1) ∧ (0 ≤ X1 1012 (2 * w) ∧ X1 1012 (2 * w) < 100) ∧ (0 ≤ X1 1012 (2 * w + 1) ∧ X1 1012 (2 * w + 1) < 100)) (g1 : zcv X1 p q) (g2 : zcv X1 r t) : (zty X1 (8 * p + q) ∨ zty X1 (8 * r + t) ∨ 1000000000 ≤ X1 1016 (X1 1006 p) ∨ X1 410 0 = 24 → ev_ G 75 69 [.ref (wA Y 14 0), .int (zJ p), .int (zJ q), .int (zJ r), .int (zJ t), .int (zJ e), .int (zJ 1), .int (zJ 1), zU, zU] [] (wd Y n s X1) = zfl Y n s X1 3) ∧ (¬(zty X1 (8 * p + q) ∨ zty X1 (8 * r + t) ∨ 1000000000 ≤ X1 1016 (X1 1006 p) ∨ X1 410 0 = 24) → ev_ G 75 69 [.ref (wA Y 14 0), .int (zJ p), .int (zJ q), .int (zJ r), .int (zJ t), .int (zJ e), .int (zJ 1), .int (zJ 1), zU, zU] [] (wd Y n s X1) = ev_ G 75 153 [.ref (wA Y 14 0), .int (zJ p), .int (zJ q), .int (zJ r), .int (zJ t), .int (zJ e), .int (zJ 1), .int (zJ 1), .int (zJ (8 * p + q)), .int (zJ (8 * r + t))] [.int (zJ 0), .ref (wA Y 14 0)] (wd Y n s X1)) := False.elim hM
theorem m_wireG {X0 : zX} {c : Int → Int} {v b : Nat → Int} {L : Nat} (hM : wM Y) (h0 : wu X 444 0 0 = X0) (hp : 0 ≤ p ∧ p < 8) (hw : 0 ≤ X0 410 0 ∧ X0 410 0 < 24) (hc : zcbm c) (hL : L ≤ 16) (hb : wBm X0 (X0 400 0)) (hnb : 0 ≤ X0 400 0) (hx : X0 1016 = c) (hch : zch X0 c (X0 400 0).toNat v b L) (hv : v 0 = X0 1006 p) {X3 : zX} (h3 : wu (wu (wu X0 1012 (2 * X0 410 0) i) 1012 (2 * X0 410 0 + 1) j) 1013 (X0 410 0) e = X3) {u1 u2 u3 u4 u5 : Int32} : ev_ G 75 153 [.ref (wA Y 14 0), .int (zJ p), .int u1, .int u2, .int u3, .int (zJ e), .int u4, .int u5, .int (zJ i), .int (zJ j)] [.int (zJ 0), .ref (wA Y 14 0)] (wd Y n s X) = some (.inl (some (.int (zJ (X0 410 0)))), wd Y n s (wu (zrm2 (-1) (16 * X0 410 0) L (zwy (X0 410 0) b 0 L (wu X3 1014 (X0 410 0) 0))) 410 0 (X0 410 0 + 1))) := False.elim hM
end ZM
