/-! THE TWO SIDES, 20: the reference's rows -/
def mArr : List Int := [501, 502, 503, 504, 506, 507, 508, 509, 511, 512, 513, 514, 515, 516, 518, 519, 520, 523, 526, 527, 528, 529, 530, 531, 532, 533, 535, 536, 537, 538, 539, 540, 541, 542, 543]
def wM (Y : zLy) : Prop := wI Y ∧ wV Y 14 0 ∧ ∀ q ∈ mArr, wV Y 15 q
section ZM
variable {Y : zLy} {n s : Nat} {X : zX} {i v : Int}
theorem ml_1 (hM : wM Y) (hi : 0 ≤ i) (hl : i < 16) : zld false (wd Y n s X) (wA Y 15 501) (zJ i) = some (zJ (X 1001 i)) := wd_ld (hM.2.2 501 (by decide)) (by decide) hi (show i < ((16 : Nat) : Int) from hl) rfl
theorem ms_1 (hM : wM Y) (hi : 0 ≤ i) (hl : i < 16) : zsto 0 (wd Y n s X) (wA Y 15 501) (zJ i) (zJ v) = some (wd Y n s (wu X 1001 i v)) := wd_st (hM.2.2 501 (by decide)) hM.1 (by decide) hi (show i < ((16 : Nat) : Int) from hl) rfl
theorem ml_2 (hM : wM Y) (hi : 0 ≤ i) (hl : i < 16) : zld false (wd Y n s X) (wA Y 15 502) (zJ i) = some (zJ (X 1002 i)) := wd_ld (hM.2.2 502 (by decide)) (by decide) hi (show i < ((16 : Nat) : Int) from hl) rfl
theorem ms_2 (hM : wM Y) (hi : 0 ≤ i) (hl : i < 16) : zsto 0 (wd Y n s X) (wA Y 15 502) (zJ i) (zJ v) = some (wd Y n s (wu X 1002 i v)) := wd_st (hM.2.2 502 (by decide)) hM.1 (by decide) hi (show i < ((16 : Nat) : Int) from hl) rfl
theorem ml_3 (hM : wM Y) (hi : 0 ≤ i) (hl : i < 16) : zld false (wd Y n s X) (wA Y 15 503) (zJ i) = some (zJ (X 1003 i)) := wd_ld (hM.2.2 503 (by decide)) (by decide) hi (show i < ((16 : Nat) : Int) from hl) rfl
theorem ms_3 (hM : wM Y) (hi : 0 ≤ i) (hl : i < 16) : zsto 0 (wd Y n s X) (wA Y 15 503) (zJ i) (zJ v) = some (wd Y n s (wu X 1003 i v)) := wd_st (hM.2.2 503 (by decide)) hM.1 (by decide) hi (show i < ((16 : Nat) : Int) from hl) rfl
theorem ml_4 (hM : wM Y) (hi : 0 ≤ i) (hl : i < 16) : zld false (wd Y n s X) (wA Y 15 504) (zJ i) = some (zJ (X 1004 i)) := wd_ld (hM.2.2 504 (by decide)) (by decide) hi (show i < ((16 : Nat) : Int) from hl) rfl
theorem ms_4 (hM : wM Y) (hi : 0 ≤ i) (hl : i < 16) : zsto 0 (wd Y n s X) (wA Y 15 504) (zJ i) (zJ v) = some (wd Y n s (wu X 1004 i v)) := wd_st (hM.2.2 504 (by decide)) hM.1 (by decide) hi (show i < ((16 : Nat) : Int) from hl) rfl
theorem ml_6 (hM : wM Y) (hi : 0 ≤ i) (hl : i < 8) : zld false (wd Y n s X) (wA Y 15 506) (zJ i) = some (zJ (X 1006 i)) := wd_ld (hM.2.2 506 (by decide)) (by decide) hi (show i < ((8 : Nat) : Int) from hl) rfl
theorem ms_6 (hM : wM Y) (hi : 0 ≤ i) (hl : i < 8) : zsto 0 (wd Y n s X) (wA Y 15 506) (zJ i) (zJ v) = some (wd Y n s (wu X 1006 i v)) := wd_st (hM.2.2 506 (by decide)) hM.1 (by decide) hi (show i < ((8 : Nat) : Int) from hl) rfl
theorem ml_7 (hM : wM Y) (hi : 0 ≤ i) (hl : i < 8) : zld false (wd Y n s X) (wA Y 15 507) (zJ i) = some (zJ (X 1007 i)) := wd_ld (hM.2.2 507 (by decide)) (by decide) hi (show i < ((8 : Nat) : Int) from hl) rfl
theorem ms_7 (hM : wM Y) (hi : 0 ≤ i) (hl : i < 8) : zsto 0 (wd Y n s X) (wA Y 15 507) (zJ i) (zJ v) = some (wd Y n s (wu X 1007 i v)) := wd_st (hM.2.2 507 (by decide)) hM.1 (by decide) hi (show i < ((8 : Nat) : Int) from hl) rfl
theorem ml_8 (hM : wM Y) (hi : 0 ≤ i) (hl : i < 8) : zld false (wd Y n s X) (wA Y 15 508) (zJ i) = some (zJ (X 1008 i)) := wd_ld (hM.2.2 508 (by decide)) (by decide) hi (show i < ((8 : Nat) : Int) from hl) rfl
theorem ms_8 (hM : wM Y) (hi : 0 ≤ i) (hl : i < 8) : zsto 0 (wd Y n s X) (wA Y 15 508) (zJ i) (zJ v) = some (wd Y n s (wu X 1008 i v)) := wd_st (hM.2.2 508 (by decide)) hM.1 (by decide) hi (show i < ((8 : Nat) : Int) from hl) rfl
theorem ml_9 (hM : wM Y) (hi : 0 ≤ i) (hl : i < 8) : zld false (wd Y n s X) (wA Y 15 509) (zJ i) = some (zJ (X 1009 i)) := wd_ld (hM.2.2 509 (by decide)) (by decide) hi (show i < ((8 : Nat) : Int) from hl) rfl
theorem ms_9 (hM : wM Y) (hi : 0 ≤ i) (hl : i < 8) : zsto 0 (wd Y n s X) (wA Y 15 509) (zJ i) (zJ v) = some (wd Y n s (wu X 1009 i v)) := wd_st (hM.2.2 509 (by decide)) hM.1 (by decide) hi (show i < ((8 : Nat) : Int) from hl) rfl
theorem ml_11 (hM : wM Y) (hi : 0 ≤ i) (hl : i < 24) : zld true (wd Y n s X) (wA Y 15 511) (zJ i) = some (zJ (X 1011 i)) := wd_ld (hM.2.2 511 (by decide)) (by decide) hi (show i < ((24 : Nat) : Int) from hl) rfl
theorem ms_11 (hM : wM Y) (hi : 0 ≤ i) (hl : i < 24) : zsto 1 (wd Y n s X) (wA Y 15 511) (zJ i) (zJ v) = some (wd Y n s (wu X 1011 i v)) := wd_st (hM.2.2 511 (by decide)) hM.1 (by decide) hi (show i < ((24 : Nat) : Int) from hl) rfl
theorem ml_12 (hM : wM Y) (hi : 0 ≤ i) (hl : i < 48) : zld false (wd Y n s X) (wA Y 15 512) (zJ i) = some (zJ (X 1012 i)) := wd_ld (hM.2.2 512 (by decide)) (by decide) hi (show i < ((48 : Nat) : Int) from hl) rfl
theorem ms_12 (hM : wM Y) (hi : 0 ≤ i) (hl : i < 48) : zsto 0 (wd Y n s X) (wA Y 15 512) (zJ i) (zJ v) = some (wd Y n s (wu X 1012 i v)) := wd_st (hM.2.2 512 (by decide)) hM.1 (by decide) hi (show i < ((48 : Nat) : Int) from hl) rfl
theorem ml_13 (hM : wM Y) (hi : 0 ≤ i) (hl : i < 24) : zld false (wd Y n s X) (wA Y 15 513) (zJ i) = some (zJ (X 1013 i)) := wd_ld (hM.2.2 513 (by decide)) (by decide) hi (show i < ((24 : Nat) : Int) from hl) rfl
theorem ms_13 (hM : wM Y) (hi : 0 ≤ i) (hl : i < 24) : zsto 0 (wd Y n s X) (wA Y 15 513) (zJ i) (zJ v) = some (wd Y n s (wu X 1013 i v)) := wd_st (hM.2.2 513 (by decide)) hM.1 (by decide) hi (show i < ((24 : Nat) : Int) from hl) rfl
theorem ml_14 (hM : wM Y) (hi : 0 ≤ i) (hl : i < 24) : zld false (wd Y n s X) (wA Y 15 514) (zJ i) = some (zJ (X 1014 i)) := wd_ld (hM.2.2 514 (by decide)) (by decide) hi (show i < ((24 : Nat) : Int) from hl) rfl
theorem ms_14 (hM : wM Y) (hi : 0 ≤ i) (hl : i < 24) : zsto 0 (wd Y n s X) (wA Y 15 514) (zJ i) (zJ v) = some (wd Y n s (wu X 1014 i v)) := wd_st (hM.2.2 514 (by decide)) hM.1 (by decide) hi (show i < ((24 : Nat) : Int) from hl) rfl
theorem ml_15 (hM : wM Y) (hi : 0 ≤ i) (hl : i < 384) : zld false (wd Y n s X) (wA Y 15 515) (zJ i) = some (zJ (X 1015 i)) := wd_ld (hM.2.2 515 (by decide)) (by decide) hi (show i < ((384 : Nat) : Int) from hl) rfl
theorem ms_15 (hM : wM Y) (hi : 0 ≤ i) (hl : i < 384) : zsto 0 (wd Y n s X) (wA Y 15 515) (zJ i) (zJ v) = some (wd Y n s (wu X 1015 i v)) := wd_st (hM.2.2 515 (by decide)) hM.1 (by decide) hi (show i < ((384 : Nat) : Int) from hl) rfl
theorem ml_16 (hM : wM Y) (hi : 0 ≤ i) (hl : i < 8) : zld false (wd Y n s X) (wA Y 15 516) (zJ i) = some (zJ (X 1016 i)) := wd_ld (hM.2.2 516 (by decide)) (by decide) hi (show i < ((8 : Nat) : Int) from hl) rfl
theorem ms_16 (hM : wM Y) (hi : 0 ≤ i) (hl : i < 8) : zsto 0 (wd Y n s X) (wA Y 15 516) (zJ i) (zJ v) = some (wd Y n s (wu X 1016 i v)) := wd_st (hM.2.2 516 (by decide)) hM.1 (by decide) hi (show i < ((8 : Nat) : Int) from hl) rfl
theorem ml_18 (hM : wM Y) (hi : 0 ≤ i) (hl : i < 5) : zld false (wd Y n s X) (wA Y 15 518) (zJ i) = some (zJ (X 1018 i)) := wd_ld (hM.2.2 518 (by decide)) (by decide) hi (show i < ((5 : Nat) : Int) from hl) rfl
theorem ms_18 (hM : wM Y) (hi : 0 ≤ i) (hl : i < 5) : zsto 0 (wd Y n s X) (wA Y 15 518) (zJ i) (zJ v) = some (wd Y n s (wu X 1018 i v)) := wd_st (hM.2.2 518 (by decide)) hM.1 (by decide) hi (show i < ((5 : Nat) : Int) from hl) rfl
theorem ml_19 (hM : wM Y) (hi : 0 ≤ i) (hl : i < 5) : zld false (wd Y n s X) (wA Y 15 519) (zJ i) = some (zJ (X 1019 i)) := wd_ld (hM.2.2 519 (by decide)) (by decide) hi (show i < ((5 : Nat) : Int) from hl) rfl
theorem ms_19 (hM : wM Y) (hi : 0 ≤ i) (hl : i < 5) : zsto 0 (wd Y n s X) (wA Y 15 519) (zJ i) (zJ v) = some (wd Y n s (wu X 1019 i v)) := wd_st (hM.2.2 519 (by decide)) hM.1 (by decide) hi (show i < ((5 : Nat) : Int) from hl) rfl
theorem ml_20 (hM : wM Y) (hi : 0 ≤ i) (hl : i < 5) : zld false (wd Y n s X) (wA Y 15 520) (zJ i) = some (zJ (X 1020 i)) := wd_ld (hM.2.2 520 (by decide)) (by decide) hi (show i < ((5 : Nat) : Int) from hl) rfl
theorem ms_20 (hM : wM Y) (hi : 0 ≤ i) (hl : i < 5) : zsto 0 (wd Y n s X) (wA Y 15 520) (zJ i) (zJ v) = some (wd Y n s (wu X 1020 i v)) := wd_st (hM.2.2 520 (by decide)) hM.1 (by decide) hi (show i < ((5 : Nat) : Int) from hl) rfl
theorem ml_23 (hM : wM Y) (hi : 0 ≤ i) (hl : i < 8) : zld false (wd Y n s X) (wA Y 15 523) (zJ i) = some (zJ (X 1023 i)) := wd_ld (hM.2.2 523 (by decide)) (by decide) hi (show i < ((8 : Nat) : Int) from hl) rfl
theorem ms_23 (hM : wM Y) (hi : 0 ≤ i) (hl : i < 8) : zsto 0 (wd Y n s X) (wA Y 15 523) (zJ i) (zJ v) = some (wd Y n s (wu X 1023 i v)) := wd_st (hM.2.2 523 (by decide)) hM.1 (by decide) hi (show i < ((8 : Nat) : Int) from hl) rfl
theorem ml_26 (hM : wM Y) (hi : 0 ≤ i) (hl : i < 12) : zld false (wd Y n s X) (wA Y 15 526) (zJ i) = some (zJ (X 1026 i)) := wd_ld (hM.2.2 526 (by decide)) (by decide) hi (show i < ((12 : Nat) : Int) from hl) rfl
theorem ms_26 (hM : wM Y) (hi : 0 ≤ i) (hl : i < 12) : zsto 0 (wd Y n s X) (wA Y 15 526) (zJ i) (zJ v) = some (wd Y n s (wu X 1026 i v)) := wd_st (hM.2.2 526 (by decide)) hM.1 (by decide) hi (show i < ((12 : Nat) : Int) from hl) rfl
theorem ml_27 (hM : wM Y) (hi : 0 ≤ i) (hl : i < 12) : zld false (wd Y n s X) (wA Y 15 527) (zJ i) = some (zJ (X 1027 i)) := wd_ld (hM.2.2 527 (by decide)) (by decide) hi (show i < ((12 : Nat) : Int) from hl) rfl
theorem ms_27 (hM : wM Y) (hi : 0 ≤ i) (hl : i < 12) : zsto 0 (wd Y n s X) (wA Y 15 527) (zJ i) (zJ v) = some (wd Y n s (wu X 1027 i v)) := wd_st (hM.2.2 527 (by decide)) hM.1 (by decide) hi (show i < ((12 : Nat) : Int) from hl) rfl
theorem ml_28 (hM : wM Y) (hi : 0 ≤ i) (hl : i < 12) : zld false (wd Y n s X) (wA Y 15 528) (zJ i) = some (zJ (X 1028 i)) := wd_ld (hM.2.2 528 (by decide)) (by decide) hi (show i < ((12 : Nat) : Int) from hl) rfl
theorem ms_28 (hM : wM Y) (hi : 0 ≤ i) (hl : i < 12) : zsto 0 (wd Y n s X) (wA Y 15 528) (zJ i) (zJ v) = some (wd Y n s (wu X 1028 i v)) := wd_st (hM.2.2 528 (by decide)) hM.1 (by decide) hi (show i < ((12 : Nat) : Int) from hl) rfl
theorem ml_29 (hM : wM Y) (hi : 0 ≤ i) (hl : i < 12) : zld false (wd Y n s X) (wA Y 15 529) (zJ i) = some (zJ (X 1029 i)) := wd_ld (hM.2.2 529 (by decide)) (by decide) hi (show i < ((12 : Nat) : Int) from hl) rfl
theorem ms_29 (hM : wM Y) (hi : 0 ≤ i) (hl : i < 12) : zsto 0 (wd Y n s X) (wA Y 15 529) (zJ i) (zJ v) = some (wd Y n s (wu X 1029 i v)) := wd_st (hM.2.2 529 (by decide)) hM.1 (by decide) hi (show i < ((12 : Nat) : Int) from hl) rfl
theorem ml_30 (hM : wM Y) (hi : 0 ≤ i) (hl : i < 4) : zld false (wd Y n s X) (wA Y 15 530) (zJ i) = some (zJ (X 1030 i)) := wd_ld (hM.2.2 530 (by decide)) (by decide) hi (show i < ((4 : Nat) : Int) from hl) rfl
theorem ms_30 (hM : wM Y) (hi : 0 ≤ i) (hl : i < 4) : zsto 0 (wd Y n s X) (wA Y 15 530) (zJ i) (zJ v) = some (wd Y n s (wu X 1030 i v)) := wd_st (hM.2.2 530 (by decide)) hM.1 (by decide) hi (show i < ((4 : Nat) : Int) from hl) rfl
theorem ml_31 (hM : wM Y) (hi : 0 ≤ i) (hl : i < 6) : zld false (wd Y n s X) (wA Y 15 531) (zJ i) = some (zJ (X 1031 i)) := wd_ld (hM.2.2 531 (by decide)) (by decide) hi (show i < ((6 : Nat) : Int) from hl) rfl
theorem ms_31 (hM : wM Y) (hi : 0 ≤ i) (hl : i < 6) : zsto 0 (wd Y n s X) (wA Y 15 531) (zJ i) (zJ v) = some (wd Y n s (wu X 1031 i v)) := wd_st (hM.2.2 531 (by decide)) hM.1 (by decide) hi (show i < ((6 : Nat) : Int) from hl) rfl
theorem ml_32 (hM : wM Y) (hi : 0 ≤ i) (hl : i < 6) : zld false (wd Y n s X) (wA Y 15 532) (zJ i) = some (zJ (X 1032 i)) := wd_ld (hM.2.2 532 (by decide)) (by decide) hi (show i < ((6 : Nat) : Int) from hl) rfl
theorem ms_32 (hM : wM Y) (hi : 0 ≤ i) (hl : i < 6) : zsto 0 (wd Y n s X) (wA Y 15 532) (zJ i) (zJ v) = some (wd Y n s (wu X 1032 i v)) := wd_st (hM.2.2 532 (by decide)) hM.1 (by decide) hi (show i < ((6 : Nat) : Int) from hl) rfl
theorem ml_33 (hM : wM Y) (hi : 0 ≤ i) (hl : i < 8) : zld true (wd Y n s X) (wA Y 15 533) (zJ i) = some (zJ (X 1033 i)) := wd_ld (hM.2.2 533 (by decide)) (by decide) hi (show i < ((8 : Nat) : Int) from hl) rfl
theorem ms_33 (hM : wM Y) (hi : 0 ≤ i) (hl : i < 8) : zsto 1 (wd Y n s X) (wA Y 15 533) (zJ i) (zJ v) = some (wd Y n s (wu X 1033 i v)) := wd_st (hM.2.2 533 (by decide)) hM.1 (by decide) hi (show i < ((8 : Nat) : Int) from hl) rfl
theorem ml_35 (hM : wM Y) (hi : 0 ≤ i) (hl : i < 12) : zld true (wd Y n s X) (wA Y 15 535) (zJ i) = some (zJ (X 1035 i)) := wd_ld (hM.2.2 535 (by decide)) (by decide) hi (show i < ((12 : Nat) : Int) from hl) rfl
theorem ms_35 (hM : wM Y) (hi : 0 ≤ i) (hl : i < 12) : zsto 1 (wd Y n s X) (wA Y 15 535) (zJ i) (zJ v) = some (wd Y n s (wu X 1035 i v)) := wd_st (hM.2.2 535 (by decide)) hM.1 (by decide) hi (show i < ((12 : Nat) : Int) from hl) rfl
theorem ml_36 (hM : wM Y) (hi : 0 ≤ i) (hl : i < 12) : zld true (wd Y n s X) (wA Y 15 536) (zJ i) = some (zJ (X 1036 i)) := wd_ld (hM.2.2 536 (by decide)) (by decide) hi (show i < ((12 : Nat) : Int) from hl) rfl
theorem ms_36 (hM : wM Y) (hi : 0 ≤ i) (hl : i < 12) : zsto 1 (wd Y n s X) (wA Y 15 536) (zJ i) (zJ v) = some (wd Y n s (wu X 1036 i v)) := wd_st (hM.2.2 536 (by decide)) hM.1 (by decide) hi (show i < ((12 : Nat) : Int) from hl) rfl
theorem ml_37 (hM : wM Y) (hi : 0 ≤ i) (hl : i < 12) : zld true (wd Y n s X) (wA Y 15 537) (zJ i) = some (zJ (X 1037 i)) := wd_ld (hM.2.2 537 (by decide)) (by decide) hi (show i < ((12 : Nat) : Int) from hl) rfl
theorem ms_37 (hM : wM Y) (hi : 0 ≤ i) (hl : i < 12) : zsto 1 (wd Y n s X) (wA Y 15 537) (zJ i) (zJ v) = some (wd Y n s (wu X 1037 i v)) := wd_st (hM.2.2 537 (by decide)) hM.1 (by decide) hi (show i < ((12 : Nat) : Int) from hl) rfl
theorem ml_38 (hM : wM Y) (hi : 0 ≤ i) (hl : i < 96) : zld false (wd Y n s X) (wA Y 15 538) (zJ i) = some (zJ (X 1038 i)) := wd_ld (hM.2.2 538 (by decide)) (by decide) hi (show i < ((96 : Nat) : Int) from hl) rfl
theorem ms_38 (hM : wM Y) (hi : 0 ≤ i) (hl : i < 96) : zsto 0 (wd Y n s X) (wA Y 15 538) (zJ i) (zJ v) = some (wd Y n s (wu X 1038 i v)) := wd_st (hM.2.2 538 (by decide)) hM.1 (by decide) hi (show i < ((96 : Nat) : Int) from hl) rfl
theorem ml_39 (hM : wM Y) (hi : 0 ≤ i) (hl : i < 96) : zld false (wd Y n s X) (wA Y 15 539) (zJ i) = some (zJ (X 1039 i)) := wd_ld (hM.2.2 539 (by decide)) (by decide) hi (show i < ((96 : Nat) : Int) from hl) rfl
theorem ms_39 (hM : wM Y) (hi : 0 ≤ i) (hl : i < 96) : zsto 0 (wd Y n s X) (wA Y 15 539) (zJ i) (zJ v) = some (wd Y n s (wu X 1039 i v)) := wd_st (hM.2.2 539 (by decide)) hM.1 (by decide) hi (show i < ((96 : Nat) : Int) from hl) rfl
theorem ml_40 (hM : wM Y) (hi : 0 ≤ i) (hl : i < 96) : zld false (wd Y n s X) (wA Y 15 540) (zJ i) = some (zJ (X 1040 i)) := wd_ld (hM.2.2 540 (by decide)) (by decide) hi (show i < ((96 : Nat) : Int) from hl) rfl
theorem ms_40 (hM : wM Y) (hi : 0 ≤ i) (hl : i < 96) : zsto 0 (wd Y n s X) (wA Y 15 540) (zJ i) (zJ v) = some (wd Y n s (wu X 1040 i v)) := wd_st (hM.2.2 540 (by decide)) hM.1 (by decide) hi (show i < ((96 : Nat) : Int) from hl) rfl
theorem ml_41 (hM : wM Y) (hi : 0 ≤ i) (hl : i < 96) : zld false (wd Y n s X) (wA Y 15 541) (zJ i) = some (zJ (X 1041 i)) := wd_ld (hM.2.2 541 (by decide)) (by decide) hi (show i < ((96 : Nat) : Int) from hl) rfl
theorem ms_41 (hM : wM Y) (hi : 0 ≤ i) (hl : i < 96) : zsto 0 (wd Y n s X) (wA Y 15 541) (zJ i) (zJ v) = some (wd Y n s (wu X 1041 i v)) := wd_st (hM.2.2 541 (by decide)) hM.1 (by decide) hi (show i < ((96 : Nat) : Int) from hl) rfl
theorem ml_42 (hM : wM Y) (hi : 0 ≤ i) (hl : i < 96) : zld true (wd Y n s X) (wA Y 15 542) (zJ i) = some (zJ (X 1042 i)) := wd_ld (hM.2.2 542 (by decide)) (by decide) hi (show i < ((96 : Nat) : Int) from hl) rfl
theorem ms_42 (hM : wM Y) (hi : 0 ≤ i) (hl : i < 96) : zsto 1 (wd Y n s X) (wA Y 15 542) (zJ i) (zJ v) = some (wd Y n s (wu X 1042 i v)) := wd_st (hM.2.2 542 (by decide)) hM.1 (by decide) hi (show i < ((96 : Nat) : Int) from hl) rfl
theorem ml_43 (hM : wM Y) (hi : 0 ≤ i) (hl : i < 96) : zld true (wd Y n s X) (wA Y 15 543) (zJ i) = some (zJ (X 1043 i)) := wd_ld (hM.2.2 543 (by decide)) (by decide) hi (show i < ((96 : Nat) : Int) from hl) rfl
theorem ms_43 (hM : wM Y) (hi : 0 ≤ i) (hl : i < 96) : zsto 1 (wd Y n s X) (wA Y 15 543) (zJ i) (zJ v) = some (wd Y n s (wu X 1043 i v)) := wd_st (hM.2.2 543 (by decide)) hM.1 (by decide) hi (show i < ((96 : Nat) : Int) from hl) rfl
theorem a_11 : (1 : Int32) &&& 1 = zJ 1 := rfl
theorem a_01 : (0 : Int32) &&& 1 = zJ 0 := rfl
theorem a_b {b : Int} (h : 0 ≤ b) (h' : b ≤ 1) : zJ b &&& zJ 1 = zJ b := by
  have : b = 0 ∨ b = 1 := by omega
  rcases this with rfl | rfl <;> rfl
end ZM
