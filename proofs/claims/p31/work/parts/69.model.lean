/-! THE LAW'S ROWS -/
/-- no reference runs here -/
def wM (_ : zLy) : Prop := False
def wL (Y : zLy) : Prop := wI Y ∧ ∀ q : Int, 600 ≤ q → q ≤ 613 → wV Y 15 q
section ZM
variable {Y : zLy} {n s : Nat} {X : zX} {i v : Int}
theorem lb_ (hM : wL Y) (hi : 0 ≤ i) (hl : i < 16) : zld false (wd Y n s X) (wA Y 15 600) (zJ i) = some (zJ (X 1100 i)) := wd_ld (hM.2 600 (by decide) (by decide)) (by decide) hi (show i < ((16 : Nat) : Int) from hl) rfl
theorem sb_ (hM : wL Y) (hi : 0 ≤ i) (hl : i < 16) : zsto 0 (wd Y n s X) (wA Y 15 600) (zJ i) (zJ v) = some (wd Y n s (wu X 1100 i v)) := wd_st (hM.2 600 (by decide) (by decide)) hM.1 (by decide) hi (show i < ((16 : Nat) : Int) from hl) rfl
theorem lu_ (hM : wL Y) (hi : 0 ≤ i) (hl : i < 17) : zld false (wd Y n s X) (wA Y 15 601) (zJ i) = some (zJ (X 1101 i)) := wd_ld (hM.2 601 (by decide) (by decide)) (by decide) hi (show i < ((17 : Nat) : Int) from hl) rfl
theorem su_ (hM : wL Y) (hi : 0 ≤ i) (hl : i < 17) : zsto 0 (wd Y n s X) (wA Y 15 601) (zJ i) (zJ v) = some (wd Y n s (wu X 1101 i v)) := wd_st (hM.2 601 (by decide) (by decide)) hM.1 (by decide) hi (show i < ((17 : Nat) : Int) from hl) rfl
theorem lc_ (hM : wL Y) (hi : 0 ≤ i) (hl : i < 8) : zld false (wd Y n s X) (wA Y 15 602) (zJ i) = some (zJ (X 1102 i)) := wd_ld (hM.2 602 (by decide) (by decide)) (by decide) hi (show i < ((8 : Nat) : Int) from hl) rfl
theorem sc_ (hM : wL Y) (hi : 0 ≤ i) (hl : i < 8) : zsto 0 (wd Y n s X) (wA Y 15 602) (zJ i) (zJ v) = some (wd Y n s (wu X 1102 i v)) := wd_st (hM.2 602 (by decide) (by decide)) hM.1 (by decide) hi (show i < ((8 : Nat) : Int) from hl) rfl
theorem lw_ (hM : wL Y) (hi : 0 ≤ i) (hl : i < 25) : zld false (wd Y n s X) (wA Y 15 603) (zJ i) = some (zJ (X 1103 i)) := wd_ld (hM.2 603 (by decide) (by decide)) (by decide) hi (show i < ((25 : Nat) : Int) from hl) rfl
theorem sw_ (hM : wL Y) (hi : 0 ≤ i) (hl : i < 25) : zsto 0 (wd Y n s X) (wA Y 15 603) (zJ i) (zJ v) = some (wd Y n s (wu X 1103 i v)) := wd_st (hM.2 603 (by decide) (by decide)) hM.1 (by decide) hi (show i < ((25 : Nat) : Int) from hl) rfl
theorem ly_ (hM : wL Y) (hi : 0 ≤ i) (hl : i < 48) : zld false (wd Y n s X) (wA Y 15 604) (zJ i) = some (zJ (X 1104 i)) := wd_ld (hM.2 604 (by decide) (by decide)) (by decide) hi (show i < ((48 : Nat) : Int) from hl) rfl
theorem sy_ (hM : wL Y) (hi : 0 ≤ i) (hl : i < 48) : zsto 0 (wd Y n s X) (wA Y 15 604) (zJ i) (zJ v) = some (wd Y n s (wu X 1104 i v)) := wd_st (hM.2 604 (by decide) (by decide)) hM.1 (by decide) hi (show i < ((48 : Nat) : Int) from hl) rfl
theorem le_ (hM : wL Y) (hi : 0 ≤ i) (hl : i < 12) : zld false (wd Y n s X) (wA Y 15 605) (zJ i) = some (zJ (X 1105 i)) := wd_ld (hM.2 605 (by decide) (by decide)) (by decide) hi (show i < ((12 : Nat) : Int) from hl) rfl
theorem se_ (hM : wL Y) (hi : 0 ≤ i) (hl : i < 12) : zsto 0 (wd Y n s X) (wA Y 15 605) (zJ i) (zJ v) = some (wd Y n s (wu X 1105 i v)) := wd_st (hM.2 605 (by decide) (by decide)) hM.1 (by decide) hi (show i < ((12 : Nat) : Int) from hl) rfl
theorem ln_ (hM : wL Y) (hi : 0 ≤ i) (hl : i < 12) : zld false (wd Y n s X) (wA Y 15 606) (zJ i) = some (zJ (X 1106 i)) := wd_ld (hM.2 606 (by decide) (by decide)) (by decide) hi (show i < ((12 : Nat) : Int) from hl) rfl
theorem sn_ (hM : wL Y) (hi : 0 ≤ i) (hl : i < 12) : zsto 0 (wd Y n s X) (wA Y 15 606) (zJ i) (zJ v) = some (wd Y n s (wu X 1106 i v)) := wd_st (hM.2 606 (by decide) (by decide)) hM.1 (by decide) hi (show i < ((12 : Nat) : Int) from hl) rfl
theorem lo_ (hM : wL Y) (hi : 0 ≤ i) (hl : i < 13) : zld false (wd Y n s X) (wA Y 15 607) (zJ i) = some (zJ (X 1107 i)) := wd_ld (hM.2 607 (by decide) (by decide)) (by decide) hi (show i < ((13 : Nat) : Int) from hl) rfl
theorem so_ (hM : wL Y) (hi : 0 ≤ i) (hl : i < 13) : zsto 0 (wd Y n s X) (wA Y 15 607) (zJ i) (zJ v) = some (wd Y n s (wu X 1107 i v)) := wd_st (hM.2 607 (by decide) (by decide)) hM.1 (by decide) hi (show i < ((13 : Nat) : Int) from hl) rfl
theorem lh_ (hM : wL Y) (hi : 0 ≤ i) (hl : i < 19) : zld false (wd Y n s X) (wA Y 15 608) (zJ i) = some (zJ (X 1108 i)) := wd_ld (hM.2 608 (by decide) (by decide)) (by decide) hi (show i < ((19 : Nat) : Int) from hl) rfl
theorem sh_ (hM : wL Y) (hi : 0 ≤ i) (hl : i < 19) : zsto 0 (wd Y n s X) (wA Y 15 608) (zJ i) (zJ v) = some (wd Y n s (wu X 1108 i v)) := wd_st (hM.2 608 (by decide) (by decide)) hM.1 (by decide) hi (show i < ((19 : Nat) : Int) from hl) rfl
theorem ls_ (hM : wL Y) (hi : 0 ≤ i) (hl : i < 32) : zld false (wd Y n s X) (wA Y 15 609) (zJ i) = some (zJ (X 1109 i)) := wd_ld (hM.2 609 (by decide) (by decide)) (by decide) hi (show i < ((32 : Nat) : Int) from hl) rfl
theorem ss_ (hM : wL Y) (hi : 0 ≤ i) (hl : i < 32) : zsto 0 (wd Y n s X) (wA Y 15 609) (zJ i) (zJ v) = some (wd Y n s (wu X 1109 i v)) := wd_st (hM.2 609 (by decide) (by decide)) hM.1 (by decide) hi (show i < ((32 : Nat) : Int) from hl) rfl
theorem lp_ (hM : wL Y) (hi : 0 ≤ i) (hl : i < 32) : zld false (wd Y n s X) (wA Y 15 610) (zJ i) = some (zJ (X 1110 i)) := wd_ld (hM.2 610 (by decide) (by decide)) (by decide) hi (show i < ((32 : Nat) : Int) from hl) rfl
theorem sp_ (hM : wL Y) (hi : 0 ≤ i) (hl : i < 32) : zsto 0 (wd Y n s X) (wA Y 15 610) (zJ i) (zJ v) = some (wd Y n s (wu X 1110 i v)) := wd_st (hM.2 610 (by decide) (by decide)) hM.1 (by decide) hi (show i < ((32 : Nat) : Int) from hl) rfl
theorem lq_ (hM : wL Y) (hi : 0 ≤ i) (hl : i < 5) : zld false (wd Y n s X) (wA Y 15 611) (zJ i) = some (zJ (X 1111 i)) := wd_ld (hM.2 611 (by decide) (by decide)) (by decide) hi (show i < ((5 : Nat) : Int) from hl) rfl
theorem sq_ (hM : wL Y) (hi : 0 ≤ i) (hl : i < 5) : zsto 0 (wd Y n s X) (wA Y 15 611) (zJ i) (zJ v) = some (wd Y n s (wu X 1111 i v)) := wd_st (hM.2 611 (by decide) (by decide)) hM.1 (by decide) hi (show i < ((5 : Nat) : Int) from hl) rfl
theorem lf_ (hM : wL Y) (hi : 0 ≤ i) (hl : i < 8) : zld false (wd Y n s X) (wA Y 15 612) (zJ i) = some (zJ (X 1112 i)) := wd_ld (hM.2 612 (by decide) (by decide)) (by decide) hi (show i < ((8 : Nat) : Int) from hl) rfl
theorem sf_ (hM : wL Y) (hi : 0 ≤ i) (hl : i < 8) : zsto 0 (wd Y n s X) (wA Y 15 612) (zJ i) (zJ v) = some (wd Y n s (wu X 1112 i v)) := wd_st (hM.2 612 (by decide) (by decide)) hM.1 (by decide) hi (show i < ((8 : Nat) : Int) from hl) rfl
theorem lg_ (hM : wL Y) (hi : 0 ≤ i) (hl : i < 8) : zld false (wd Y n s X) (wA Y 15 613) (zJ i) = some (zJ (X 1113 i)) := wd_ld (hM.2 613 (by decide) (by decide)) (by decide) hi (show i < ((8 : Nat) : Int) from hl) rfl
theorem sg_ (hM : wL Y) (hi : 0 ≤ i) (hl : i < 8) : zsto 0 (wd Y n s X) (wA Y 15 613) (zJ i) (zJ v) = some (wd Y n s (wu X 1113 i v)) := wd_st (hM.2 613 (by decide) (by decide)) hM.1 (by decide) hi (show i < ((8 : Nat) : Int) from hl) rfl
theorem a_11 : (1 : Int32) &&& 1 = zJ 1 := rfl
theorem a_01 : (0 : Int32) &&& 1 = zJ 0 := rfl
theorem a_b {b : Int} (h : 0 ≤ b) (h' : b ≤ 1) : zJ b &&& zJ 1 = zJ b := by
  have : b = 0 ∨ b = 1 := by omega
  rcases this with rfl | rfl <;> rfl
end ZM
