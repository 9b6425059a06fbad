/-! the code, by program: what stands at each pc of each method -/
abbrev zlf (pc k : Nat) (s : zSem) : zSem := bif Nat.beq pc k then s else s_no
abbrev znd (pc k : Nat) (l r : zSem) : zSem := bif Nat.ble k pc then r else l
theorem mo_l {pc k : Nat} {s : zSem} (h : zMon s) : zMon (zlf pc k s) := by
  unfold zlf
  cases Nat.beq pc k
  · exact mo_no
  · exact h
theorem mo_d {pc k : Nat} {l r : zSem} (h : zMon l) (g : zMon r) : zMon (znd pc k l r) := by
  unfold znd
  cases Nat.ble k pc
  · exact h
  · exact g
theorem mo_f {b : Bool} {s : zSem} (h : zMon s) : zMon (bif b then s else s_no) := by
  cases b
  · exact mo_no
  · exact h
theorem mo_f2 {b : Bool} {l r : zSem} (h : zMon l) (g : zMon r) : zMon (bif b then l else r) := by
  cases b
  · exact g
  · exact h
def zc_Jxa1e45_init_da8c8 (G : Nat × Nat) : Nat → zSem := fun pc =>
 znd pc 1
 (zlf pc 0 (s_aload 0 1))
 (znd pc 4
 (zlf pc 1 (s_obj 4))
 (zlf pc 4 (s_rV)))
theorem zm_Jxa1e45_init_da8c8 (G : Nat × Nat) (pc : Nat) : zMon (zc_Jxa1e45_init_da8c8 G pc) := (mo_d (mo_l (mo_aload _ _)) (mo_d (mo_l (mo_obj _)) (mo_l (mo_rV))))
def zc_Jxc12de_init_da8c8 (G : Nat × Nat) : Nat → zSem := fun pc =>
 znd pc 5
 (znd pc 1
 (zlf pc 0 (s_aload 0 1))
 (znd pc 4
 (zlf pc 1 (s_cV zpI 0 1 [] zx0 4))
 (zlf pc 4 (s_aload 0 5))))
 (znd pc 6
 (zlf pc 5 (s_ic 0 6))
 (znd pc 9
 (zlf pc 6 (s_pI 0 0 9))
 (zlf pc 9 (s_rV))))
theorem zm_Jxc12de_init_da8c8 (G : Nat × Nat) (pc : Nat) : zMon (zc_Jxc12de_init_da8c8 G pc) := (mo_d (mo_d (mo_l (mo_aload _ _)) (mo_d (mo_l (mo_cV _ _ _ _ zPre_I zHm_0)) (mo_l (mo_aload _ _)))) (mo_d (mo_l (mo_ic _ _)) (mo_d (mo_l (mo_pI _ _ _)) (mo_l (mo_rV)))))
def zc_Jx4a65c_init_da8c8 (G : Nat × Nat) : Nat → zSem := fun pc =>
 znd pc 5
 (znd pc 1
 (zlf pc 0 (s_aload 0 1))
 (znd pc 4
 (zlf pc 1 (s_cV zpI 1 1 [] zx0 4))
 (zlf pc 4 (s_aload 0 5))))
 (znd pc 8
 (zlf pc 5 (s_gs G.1 8))
 (znd pc 11
 (zlf pc 8 (s_pR 0 1 11))
 (zlf pc 11 (s_rV))))
theorem zm_Jx4a65c_init_da8c8 (G : Nat × Nat) (pc : Nat) : zMon (zc_Jx4a65c_init_da8c8 G pc) := (mo_d (mo_d (mo_l (mo_aload _ _)) (mo_d (mo_l (mo_cV _ _ _ _ zPre_I zHm_0)) (mo_l (mo_aload _ _)))) (mo_d (mo_l (mo_gs _ _)) (mo_d (mo_l (mo_pR _ _ _)) (mo_l (mo_rV)))))
def zc_X8_init (G : Nat × Nat) : Nat → zSem := fun pc =>
 znd pc 9
 (znd pc 4
 (znd pc 1
 (zlf pc 0 (s_aload 0 1))
 (zlf pc 1 (s_obj 4)))
 (znd pc 5
 (zlf pc 4 (s_aload 0 5))
 (znd pc 6
 (zlf pc 5 (s_iload 1 6))
 (zlf pc 6 (s_ifge 13 9)))))
 (znd pc 14
 (znd pc 10
 (zlf pc 9 (s_ic 0 10))
 (znd pc 13
 (zlf pc 10 (s_goto 14))
 (zlf pc 13 (s_iload 1 14))))
 (znd pc 16
 (zlf pc 14 (s_nai 0 16))
 (znd pc 19
 (zlf pc 16 (s_pR 9 0 19))
 (zlf pc 19 (s_rV)))))
theorem zm_X8_init (G : Nat × Nat) (pc : Nat) : zMon (zc_X8_init G pc) := (mo_d (mo_d (mo_d (mo_l (mo_aload _ _)) (mo_l (mo_obj _))) (mo_d (mo_l (mo_aload _ _)) (mo_d (mo_l (mo_iload _ _)) (mo_l (mo_ifge _ _))))) (mo_d (mo_d (mo_l (mo_ic _ _)) (mo_d (mo_l (mo_goto _)) (mo_l (mo_iload _ _)))) (mo_d (mo_l (mo_nai _ _)) (mo_d (mo_l (mo_pR _ _ _)) (mo_l (mo_rV))))))
def zc_X4_init (G : Nat × Nat) : Nat → zSem := fun pc =>
 znd pc 26
 (znd pc 12
 (znd pc 5
 (znd pc 1
 (zlf pc 0 (s_aload 0 1))
 (znd pc 4
 (zlf pc 1 (s_obj 4))
 (zlf pc 4 (s_aload 0 5))))
 (znd pc 8
 (zlf pc 5 (s_new 0 3 [.int 0, .null, .int 0] 8))
 (znd pc 9
 (zlf pc 8 (s_dup 9))
 (zlf pc 9 (s_cV zpI 2 1 [] zx0 12)))))
 (znd pc 19
 (znd pc 15
 (zlf pc 12 (s_pR 5 0 15))
 (znd pc 16
 (zlf pc 15 (s_aload 0 16))
 (zlf pc 16 (s_new 0 3 [.int 0, .null, .int 0] 19))))
 (znd pc 20
 (zlf pc 19 (s_dup 20))
 (znd pc 23
 (zlf pc 20 (s_cV zpI 2 1 [] zx0 23))
 (zlf pc 23 (s_pR 5 1 26))))))
 (znd pc 38
 (znd pc 31
 (znd pc 27
 (zlf pc 26 (s_aload 0 27))
 (znd pc 30
 (zlf pc 27 (s_new 0 3 [.int 0, .null, .int 0] 30))
 (zlf pc 30 (s_dup 31))))
 (znd pc 34
 (zlf pc 31 (s_cV zpI 2 1 [] zx0 34))
 (znd pc 37
 (zlf pc 34 (s_pR 5 2 37))
 (zlf pc 37 (s_aload 0 38)))))
 (znd pc 44
 (znd pc 41
 (zlf pc 38 (s_new 9 1 [.null] 41))
 (znd pc 42
 (zlf pc 41 (s_dup 42))
 (zlf pc 42 (s_ic 8 44))))
 (znd pc 47
 (zlf pc 44 (s_cV zpI 3 2 [] zx0 47))
 (znd pc 50
 (zlf pc 47 (s_pR 5 3 50))
 (zlf pc 50 (s_rV))))))
theorem zm_X4_init (G : Nat × Nat) (pc : Nat) : zMon (zc_X4_init G pc) := (mo_d (mo_d (mo_d (mo_d (mo_l (mo_aload _ _)) (mo_d (mo_l (mo_obj _)) (mo_l (mo_aload _ _)))) (mo_d (mo_l (mo_new _ _ _ _)) (mo_d (mo_l (mo_dup _)) (mo_l (mo_cV _ _ _ _ zPre_I zHm_0))))) (mo_d (mo_d (mo_l (mo_pR _ _ _)) (mo_d (mo_l (mo_aload _ _)) (mo_l (mo_new _ _ _ _)))) (mo_d (mo_l (mo_dup _)) (mo_d (mo_l (mo_cV _ _ _ _ zPre_I zHm_0)) (mo_l (mo_pR _ _ _)))))) (mo_d (mo_d (mo_d (mo_l (mo_aload _ _)) (mo_d (mo_l (mo_new _ _ _ _)) (mo_l (mo_dup _)))) (mo_d (mo_l (mo_cV _ _ _ _ zPre_I zHm_0)) (mo_d (mo_l (mo_pR _ _ _)) (mo_l (mo_aload _ _))))) (mo_d (mo_d (mo_l (mo_new _ _ _ _)) (mo_d (mo_l (mo_dup _)) (mo_l (mo_ic _ _)))) (mo_d (mo_l (mo_cV _ _ _ _ zPre_I zHm_0)) (mo_d (mo_l (mo_pR _ _ _)) (mo_l (mo_rV)))))))
def zc_X5_init (G : Nat × Nat) : Nat → zSem := fun pc =>
 znd pc 25
 (znd pc 10
 (znd pc 5
 (znd pc 1
 (zlf pc 0 (s_aload 0 1))
 (znd pc 4
 (zlf pc 1 (s_obj 4))
 (zlf pc 4 (s_aload 0 5))))
 (znd pc 8
 (zlf pc 5 (s_new 9 1 [.null] 8))
 (znd pc 9
 (zlf pc 8 (s_dup 9))
 (zlf pc 9 (s_ic 5 10)))))
 (znd pc 17
 (znd pc 13
 (zlf pc 10 (s_cV zpI 3 2 [] zx0 13))
 (znd pc 16
 (zlf pc 13 (s_pR 6 0 16))
 (zlf pc 16 (s_aload 0 17))))
 (znd pc 21
 (znd pc 20
 (zlf pc 17 (s_new 9 1 [.null] 20))
 (zlf pc 20 (s_dup 21)))
 (znd pc 22
 (zlf pc 21 (s_ic 5 22))
 (zlf pc 22 (s_cV zpI 3 2 [] zx0 25))))))
 (znd pc 41
 (znd pc 32
 (znd pc 28
 (zlf pc 25 (s_pR 6 1 28))
 (znd pc 29
 (zlf pc 28 (s_aload 0 29))
 (zlf pc 29 (s_new 9 1 [.null] 32))))
 (znd pc 35
 (znd pc 33
 (zlf pc 32 (s_dup 33))
 (zlf pc 33 (s_ic 32 35)))
 (znd pc 38
 (zlf pc 35 (s_cV zpI 3 2 [] zx0 38))
 (zlf pc 38 (s_pR 6 2 41)))))
 (znd pc 46
 (znd pc 42
 (zlf pc 41 (s_aload 0 42))
 (znd pc 45
 (zlf pc 42 (s_new 9 1 [.null] 45))
 (zlf pc 45 (s_dup 46))))
 (znd pc 51
 (znd pc 48
 (zlf pc 46 (s_ic 32 48))
 (zlf pc 48 (s_cV zpI 3 2 [] zx0 51)))
 (znd pc 54
 (zlf pc 51 (s_pR 6 3 54))
 (zlf pc 54 (s_rV))))))
theorem zm_X5_init (G : Nat × Nat) (pc : Nat) : zMon (zc_X5_init G pc) := (mo_d (mo_d (mo_d (mo_d (mo_l (mo_aload _ _)) (mo_d (mo_l (mo_obj _)) (mo_l (mo_aload _ _)))) (mo_d (mo_l (mo_new _ _ _ _)) (mo_d (mo_l (mo_dup _)) (mo_l (mo_ic _ _))))) (mo_d (mo_d (mo_l (mo_cV _ _ _ _ zPre_I zHm_0)) (mo_d (mo_l (mo_pR _ _ _)) (mo_l (mo_aload _ _)))) (mo_d (mo_d (mo_l (mo_new _ _ _ _)) (mo_l (mo_dup _))) (mo_d (mo_l (mo_ic _ _)) (mo_l (mo_cV _ _ _ _ zPre_I zHm_0)))))) (mo_d (mo_d (mo_d (mo_l (mo_pR _ _ _)) (mo_d (mo_l (mo_aload _ _)) (mo_l (mo_new _ _ _ _)))) (mo_d (mo_d (mo_l (mo_dup _)) (mo_l (mo_ic _ _))) (mo_d (mo_l (mo_cV _ _ _ _ zPre_I zHm_0)) (mo_l (mo_pR _ _ _))))) (mo_d (mo_d (mo_l (mo_aload _ _)) (mo_d (mo_l (mo_new _ _ _ _)) (mo_l (mo_dup _)))) (mo_d (mo_d (mo_l (mo_ic _ _)) (mo_l (mo_cV _ _ _ _ zPre_I zHm_0))) (mo_d (mo_l (mo_pR _ _ _)) (mo_l (mo_rV)))))))
def zc_X3_init (G : Nat × Nat) : Nat → zSem := fun pc =>
 znd pc 8
 (znd pc 4
 (znd pc 1
 (zlf pc 0 (s_aload 0 1))
 (zlf pc 1 (s_obj 4)))
 (znd pc 5
 (zlf pc 4 (s_aload 0 5))
 (zlf pc 5 (s_new 9 1 [.null] 8))))
 (znd pc 11
 (znd pc 9
 (zlf pc 8 (s_dup 9))
 (zlf pc 9 (s_ic 8 11)))
 (znd pc 14
 (zlf pc 11 (s_cV zpI 3 2 [] zx0 14))
 (znd pc 17
 (zlf pc 14 (s_pR 4 2 17))
 (zlf pc 17 (s_rV)))))
theorem zm_X3_init (G : Nat × Nat) (pc : Nat) : zMon (zc_X3_init G pc) := (mo_d (mo_d (mo_d (mo_l (mo_aload _ _)) (mo_l (mo_obj _))) (mo_d (mo_l (mo_aload _ _)) (mo_l (mo_new _ _ _ _)))) (mo_d (mo_d (mo_l (mo_dup _)) (mo_l (mo_ic _ _))) (mo_d (mo_l (mo_cV _ _ _ _ zPre_I zHm_0)) (mo_d (mo_l (mo_pR _ _ _)) (mo_l (mo_rV))))))
def zc_X8_put (G : Nat × Nat) : Nat → zSem := fun pc =>
 znd pc 10
 (znd pc 5
 (znd pc 1
 (zlf pc 0 (s_iload 1 1))
 (znd pc 4
 (zlf pc 1 (s_iflt 20 4))
 (zlf pc 4 (s_iload 1 5))))
 (znd pc 6
 (zlf pc 5 (s_aload 0 6))
 (znd pc 9
 (zlf pc 6 (s_gR 9 0 9))
 (zlf pc 9 (s_alen 10)))))
 (znd pc 17
 (znd pc 13
 (zlf pc 10 (s_cmpge 20 13))
 (znd pc 14
 (zlf pc 13 (s_aload 0 14))
 (zlf pc 14 (s_gR 9 0 17))))
 (znd pc 19
 (znd pc 18
 (zlf pc 17 (s_iload 1 18))
 (zlf pc 18 (s_iload 2 19)))
 (znd pc 20
 (zlf pc 19 (s_iast 20))
 (zlf pc 20 (s_rV)))))
theorem zm_X8_put (G : Nat × Nat) (pc : Nat) : zMon (zc_X8_put G pc) := (mo_d (mo_d (mo_d (mo_l (mo_iload _ _)) (mo_d (mo_l (mo_iflt _ _)) (mo_l (mo_iload _ _)))) (mo_d (mo_l (mo_aload _ _)) (mo_d (mo_l (mo_gR _ _ _)) (mo_l (mo_alen _))))) (mo_d (mo_d (mo_l (mo_cmpge _ _)) (mo_d (mo_l (mo_aload _ _)) (mo_l (mo_gR _ _ _)))) (mo_d (mo_d (mo_l (mo_iload _ _)) (mo_l (mo_iload _ _))) (mo_d (mo_l (mo_iast _)) (mo_l (mo_rV))))))
def zc_X8_fill (G : Nat × Nat) : Nat → zSem := fun pc =>
 znd pc 11
 (znd pc 3
 (znd pc 1
 (zlf pc 0 (s_ic 0 1))
 (znd pc 2
 (zlf pc 1 (s_istore 2 2))
 (zlf pc 2 (s_iload 2 3))))
 (znd pc 7
 (znd pc 4
 (zlf pc 3 (s_aload 0 4))
 (zlf pc 4 (s_gR 9 0 7)))
 (znd pc 8
 (zlf pc 7 (s_alen 8))
 (zlf pc 8 (s_cmpge 24 11)))))
 (znd pc 17
 (znd pc 15
 (znd pc 12
 (zlf pc 11 (s_aload 0 12))
 (zlf pc 12 (s_gR 9 0 15)))
 (znd pc 16
 (zlf pc 15 (s_iload 2 16))
 (zlf pc 16 (s_iload 1 17))))
 (znd pc 21
 (znd pc 18
 (zlf pc 17 (s_iast 18))
 (zlf pc 18 (s_iinc 2 1 21)))
 (znd pc 24
 (zlf pc 21 (s_goto 2))
 (zlf pc 24 (s_rV)))))
theorem zm_X8_fill (G : Nat × Nat) (pc : Nat) : zMon (zc_X8_fill G pc) := (mo_d (mo_d (mo_d (mo_l (mo_ic _ _)) (mo_d (mo_l (mo_istore _ _)) (mo_l (mo_iload _ _)))) (mo_d (mo_d (mo_l (mo_aload _ _)) (mo_l (mo_gR _ _ _))) (mo_d (mo_l (mo_alen _)) (mo_l (mo_cmpge _ _))))) (mo_d (mo_d (mo_d (mo_l (mo_aload _ _)) (mo_l (mo_gR _ _ _))) (mo_d (mo_l (mo_iload _ _)) (mo_l (mo_iload _ _)))) (mo_d (mo_d (mo_l (mo_iast _)) (mo_l (mo_iinc _ _ _))) (mo_d (mo_l (mo_goto _)) (mo_l (mo_rV))))))
def zc_X6_init (G : Nat × Nat) : Nat → zSem := fun pc =>
 znd pc 50
 (znd pc 23
 (znd pc 10
 (znd pc 5
 (znd pc 1
 (zlf pc 0 (s_aload 0 1))
 (znd pc 4
 (zlf pc 1 (s_obj 4))
 (zlf pc 4 (s_aload 0 5))))
 (znd pc 8
 (zlf pc 5 (s_new 9 1 [.null] 8))
 (znd pc 9
 (zlf pc 8 (s_dup 9))
 (zlf pc 9 (s_ic 4 10)))))
 (znd pc 17
 (znd pc 13
 (zlf pc 10 (s_cV zpI 3 2 [] zx0 13))
 (znd pc 16
 (zlf pc 13 (s_pR 7 0 16))
 (zlf pc 16 (s_aload 0 17))))
 (znd pc 20
 (zlf pc 17 (s_new 9 1 [.null] 20))
 (znd pc 21
 (zlf pc 20 (s_dup 21))
 (zlf pc 21 (s_ic 6 23))))))
 (znd pc 36
 (znd pc 30
 (znd pc 26
 (zlf pc 23 (s_cV zpI 3 2 [] zx0 26))
 (znd pc 29
 (zlf pc 26 (s_pR 7 1 29))
 (zlf pc 29 (s_aload 0 30))))
 (znd pc 33
 (zlf pc 30 (s_new 9 1 [.null] 33))
 (znd pc 34
 (zlf pc 33 (s_dup 34))
 (zlf pc 34 (s_ic 6 36)))))
 (znd pc 43
 (znd pc 39
 (zlf pc 36 (s_cV zpI 3 2 [] zx0 39))
 (znd pc 42
 (zlf pc 39 (s_pR 7 2 42))
 (zlf pc 42 (s_aload 0 43))))
 (znd pc 46
 (zlf pc 43 (s_gR 7 0 46))
 (znd pc 47
 (zlf pc 46 (s_ic 0 47))
 (zlf pc 47 (s_ic 150 50)))))))
 (znd pc 76
 (znd pc 64
 (znd pc 57
 (znd pc 53
 (zlf pc 50 (s_cV (zpV 9) 7 3 [] zx0 53))
 (znd pc 54
 (zlf pc 53 (s_aload 0 54))
 (zlf pc 54 (s_gR 7 0 57))))
 (znd pc 58
 (zlf pc 57 (s_ic 1 58))
 (znd pc 61
 (zlf pc 58 (s_ic 200 61))
 (zlf pc 61 (s_cV (zpV 9) 7 3 [] zx0 64)))))
 (znd pc 69
 (znd pc 65
 (zlf pc 64 (s_aload 0 65))
 (znd pc 68
 (zlf pc 65 (s_gR 7 0 68))
 (zlf pc 68 (s_ic 2 69))))
 (znd pc 72
 (zlf pc 69 (s_ic 240 72))
 (znd pc 75
 (zlf pc 72 (s_cV (zpV 9) 7 3 [] zx0 75))
 (zlf pc 75 (s_aload 0 76))))))
 (znd pc 89
 (znd pc 82
 (znd pc 79
 (zlf pc 76 (s_gR 7 0 79))
 (znd pc 80
 (zlf pc 79 (s_ic 3 80))
 (zlf pc 80 (s_ic 100 82))))
 (znd pc 85
 (zlf pc 82 (s_cV (zpV 9) 7 3 [] zx0 85))
 (znd pc 86
 (zlf pc 85 (s_aload 0 86))
 (zlf pc 86 (s_gR 7 1 89)))))
 (znd pc 96
 (znd pc 92
 (zlf pc 89 (s_ic 180 92))
 (znd pc 95
 (zlf pc 92 (s_cV (zpV 9) 8 2 [zU] zx0 95))
 (zlf pc 95 (s_aload 0 96))))
 (znd pc 102
 (znd pc 99
 (zlf pc 96 (s_gR 7 2 99))
 (zlf pc 99 (s_ic 260 102)))
 (znd pc 105
 (zlf pc 102 (s_cV (zpV 9) 8 2 [zU] zx0 105))
 (zlf pc 105 (s_rV)))))))
theorem zm_X6_init (G : Nat × Nat) (pc : Nat) : zMon (zc_X6_init G pc) := (mo_d (mo_d (mo_d (mo_d (mo_d (mo_l (mo_aload _ _)) (mo_d (mo_l (mo_obj _)) (mo_l (mo_aload _ _)))) (mo_d (mo_l (mo_new _ _ _ _)) (mo_d (mo_l (mo_dup _)) (mo_l (mo_ic _ _))))) (mo_d (mo_d (mo_l (mo_cV _ _ _ _ zPre_I zHm_0)) (mo_d (mo_l (mo_pR _ _ _)) (mo_l (mo_aload _ _)))) (mo_d (mo_l (mo_new _ _ _ _)) (mo_d (mo_l (mo_dup _)) (mo_l (mo_ic _ _)))))) (mo_d (mo_d (mo_d (mo_l (mo_cV _ _ _ _ zPre_I zHm_0)) (mo_d (mo_l (mo_pR _ _ _)) (mo_l (mo_aload _ _)))) (mo_d (mo_l (mo_new _ _ _ _)) (mo_d (mo_l (mo_dup _)) (mo_l (mo_ic _ _))))) (mo_d (mo_d (mo_l (mo_cV _ _ _ _ zPre_I zHm_0)) (mo_d (mo_l (mo_pR _ _ _)) (mo_l (mo_aload _ _)))) (mo_d (mo_l (mo_gR _ _ _)) (mo_d (mo_l (mo_ic _ _)) (mo_l (mo_ic _ _))))))) (mo_d (mo_d (mo_d (mo_d (mo_l (mo_cV _ _ _ _ (zPre_V _) zHm_0)) (mo_d (mo_l (mo_aload _ _)) (mo_l (mo_gR _ _ _)))) (mo_d (mo_l (mo_ic _ _)) (mo_d (mo_l (mo_ic _ _)) (mo_l (mo_cV _ _ _ _ (zPre_V _) zHm_0))))) (mo_d (mo_d (mo_l (mo_aload _ _)) (mo_d (mo_l (mo_gR _ _ _)) (mo_l (mo_ic _ _)))) (mo_d (mo_l (mo_ic _ _)) (mo_d (mo_l (mo_cV _ _ _ _ (zPre_V _) zHm_0)) (mo_l (mo_aload _ _)))))) (mo_d (mo_d (mo_d (mo_l (mo_gR _ _ _)) (mo_d (mo_l (mo_ic _ _)) (mo_l (mo_ic _ _)))) (mo_d (mo_l (mo_cV _ _ _ _ (zPre_V _) zHm_0)) (mo_d (mo_l (mo_aload _ _)) (mo_l (mo_gR _ _ _))))) (mo_d (mo_d (mo_l (mo_ic _ _)) (mo_d (mo_l (mo_cV _ _ _ _ (zPre_V _) zHm_0)) (mo_l (mo_aload _ _)))) (mo_d (mo_d (mo_l (mo_gR _ _ _)) (mo_l (mo_ic _ _))) (mo_d (mo_l (mo_cV _ _ _ _ (zPre_V _) zHm_0)) (mo_l (mo_rV))))))))
def zc_X11_init (G : Nat × Nat) : Nat → zSem := fun pc =>
 znd pc 41
 (znd pc 19
 (znd pc 8
 (znd pc 4
 (znd pc 1
 (zlf pc 0 (s_aload 0 1))
 (zlf pc 1 (s_obj 4)))
 (znd pc 5
 (zlf pc 4 (s_aload 0 5))
 (zlf pc 5 (s_new 5 4 [.null, .null, .null, .null] 8))))
 (znd pc 12
 (znd pc 9
 (zlf pc 8 (s_dup 9))
 (zlf pc 9 (s_cV zpI 4 1 [] zx0 12)))
 (znd pc 15
 (zlf pc 12 (s_pR 12 0 15))
 (znd pc 16
 (zlf pc 15 (s_aload 0 16))
 (zlf pc 16 (s_new 6 5 [.null, .null, .null, .null, .int 0] 19))))))
 (znd pc 30
 (znd pc 23
 (znd pc 20
 (zlf pc 19 (s_dup 20))
 (zlf pc 20 (s_cV zpI 5 1 [] zx0 23)))
 (znd pc 26
 (zlf pc 23 (s_pR 12 1 26))
 (znd pc 27
 (zlf pc 26 (s_aload 0 27))
 (zlf pc 27 (s_new 4 4 [.int 0, .int 0, .null, .int 0] 30)))))
 (znd pc 34
 (znd pc 31
 (zlf pc 30 (s_dup 31))
 (zlf pc 31 (s_cV zpI 6 1 [] zx0 34)))
 (znd pc 37
 (zlf pc 34 (s_pR 12 2 37))
 (znd pc 38
 (zlf pc 37 (s_aload 0 38))
 (zlf pc 38 (s_new 7 3 [.null, .null, .null] 41)))))))
 (znd pc 63
 (znd pc 52
 (znd pc 45
 (znd pc 42
 (zlf pc 41 (s_dup 42))
 (zlf pc 42 (s_cV zpI 9 1 [] zx0 45)))
 (znd pc 48
 (zlf pc 45 (s_pR 12 3 48))
 (znd pc 49
 (zlf pc 48 (s_aload 0 49))
 (zlf pc 49 (s_new 0 3 [.int 0, .null, .int 0] 52)))))
 (znd pc 56
 (znd pc 53
 (zlf pc 52 (s_dup 53))
 (zlf pc 53 (s_cV zpI 2 1 [] zx0 56)))
 (znd pc 59
 (zlf pc 56 (s_pR 12 4 59))
 (znd pc 60
 (zlf pc 59 (s_aload 0 60))
 (zlf pc 60 (s_new 0 3 [.int 0, .null, .int 0] 63))))))
 (znd pc 74
 (znd pc 67
 (znd pc 64
 (zlf pc 63 (s_dup 64))
 (zlf pc 64 (s_cV zpI 2 1 [] zx0 67)))
 (znd pc 70
 (zlf pc 67 (s_pR 12 5 70))
 (znd pc 71
 (zlf pc 70 (s_aload 0 71))
 (zlf pc 71 (s_ic 255 74)))))
 (znd pc 78
 (znd pc 77
 (zlf pc 74 (s_pI 12 6 77))
 (zlf pc 77 (s_aload 0 78)))
 (znd pc 79
 (zlf pc 78 (s_ic 0 79))
 (znd pc 82
 (zlf pc 79 (s_pI 12 7 82))
 (zlf pc 82 (s_rV)))))))
theorem zm_X11_init (G : Nat × Nat) (pc : Nat) : zMon (zc_X11_init G pc) := (mo_d (mo_d (mo_d (mo_d (mo_d (mo_l (mo_aload _ _)) (mo_l (mo_obj _))) (mo_d (mo_l (mo_aload _ _)) (mo_l (mo_new _ _ _ _)))) (mo_d (mo_d (mo_l (mo_dup _)) (mo_l (mo_cV _ _ _ _ zPre_I zHm_0))) (mo_d (mo_l (mo_pR _ _ _)) (mo_d (mo_l (mo_aload _ _)) (mo_l (mo_new _ _ _ _)))))) (mo_d (mo_d (mo_d (mo_l (mo_dup _)) (mo_l (mo_cV _ _ _ _ zPre_I zHm_0))) (mo_d (mo_l (mo_pR _ _ _)) (mo_d (mo_l (mo_aload _ _)) (mo_l (mo_new _ _ _ _))))) (mo_d (mo_d (mo_l (mo_dup _)) (mo_l (mo_cV _ _ _ _ zPre_I zHm_0))) (mo_d (mo_l (mo_pR _ _ _)) (mo_d (mo_l (mo_aload _ _)) (mo_l (mo_new _ _ _ _))))))) (mo_d (mo_d (mo_d (mo_d (mo_l (mo_dup _)) (mo_l (mo_cV _ _ _ _ zPre_I zHm_0))) (mo_d (mo_l (mo_pR _ _ _)) (mo_d (mo_l (mo_aload _ _)) (mo_l (mo_new _ _ _ _))))) (mo_d (mo_d (mo_l (mo_dup _)) (mo_l (mo_cV _ _ _ _ zPre_I zHm_0))) (mo_d (mo_l (mo_pR _ _ _)) (mo_d (mo_l (mo_aload _ _)) (mo_l (mo_new _ _ _ _)))))) (mo_d (mo_d (mo_d (mo_l (mo_dup _)) (mo_l (mo_cV _ _ _ _ zPre_I zHm_0))) (mo_d (mo_l (mo_pR _ _ _)) (mo_d (mo_l (mo_aload _ _)) (mo_l (mo_ic _ _))))) (mo_d (mo_d (mo_l (mo_pI _ _ _)) (mo_l (mo_aload _ _))) (mo_d (mo_l (mo_ic _ _)) (mo_d (mo_l (mo_pI _ _ _)) (mo_l (mo_rV))))))))
def zc_X11_isIndex (G : Nat × Nat) : Nat → zSem := fun pc =>
 znd pc 6
 (znd pc 4
 (znd pc 1
 (zlf pc 0 (s_iload 0 1))
 (zlf pc 1 (s_iflt 13 4)))
 (znd pc 5
 (zlf pc 4 (s_iload 0 5))
 (zlf pc 5 (s_iload 1 6))))
 (znd pc 10
 (znd pc 9
 (zlf pc 6 (s_cmpge 13 9))
 (zlf pc 9 (s_ic 1 10)))
 (znd pc 13
 (zlf pc 10 (s_goto 14))
 (znd pc 14
 (zlf pc 13 (s_ic 0 14))
 (zlf pc 14 (s_rZ)))))
theorem zm_X11_isIndex (G : Nat × Nat) (pc : Nat) : zMon (zc_X11_isIndex G pc) := (mo_d (mo_d (mo_d (mo_l (mo_iload _ _)) (mo_l (mo_iflt _ _))) (mo_d (mo_l (mo_iload _ _)) (mo_l (mo_iload _ _)))) (mo_d (mo_d (mo_l (mo_cmpge _ _)) (mo_l (mo_ic _ _))) (mo_d (mo_l (mo_goto _)) (mo_d (mo_l (mo_ic _ _)) (mo_l (mo_rZ))))))
def zc_X11_checkIndex (G : Nat × Nat) : Nat → zSem := fun pc =>
 znd pc 4
 (znd pc 1
 (zlf pc 0 (s_iload 0 1))
 (zlf pc 1 (s_ifne 12 4)))
 (znd pc 12
 (zlf pc 4 (s_thr 0))
 (zlf pc 12 (s_rV)))
theorem zm_X11_checkIndex (G : Nat × Nat) (pc : Nat) : zMon (zc_X11_checkIndex G pc) := (mo_d (mo_d (mo_l (mo_iload _ _)) (mo_l (mo_ifne _ _))) (mo_d (mo_l (mo_thr _)) (mo_l (mo_rV))))
def zc_X11_isWithin (G : Nat × Nat) : Nat → zSem := fun pc =>
 znd pc 7
 (znd pc 2
 (znd pc 1
 (zlf pc 0 (s_iload 0 1))
 (zlf pc 1 (s_iload 1 2)))
 (znd pc 5
 (zlf pc 2 (s_cmplt 14 5))
 (znd pc 6
 (zlf pc 5 (s_iload 0 6))
 (zlf pc 6 (s_iload 2 7)))))
 (znd pc 11
 (znd pc 10
 (zlf pc 7 (s_cmpgt 14 10))
 (zlf pc 10 (s_ic 1 11)))
 (znd pc 14
 (zlf pc 11 (s_goto 15))
 (znd pc 15
 (zlf pc 14 (s_ic 0 15))
 (zlf pc 15 (s_rZ)))))
theorem zm_X11_isWithin (G : Nat × Nat) (pc : Nat) : zMon (zc_X11_isWithin G pc) := (mo_d (mo_d (mo_d (mo_l (mo_iload _ _)) (mo_l (mo_iload _ _))) (mo_d (mo_l (mo_cmplt _ _)) (mo_d (mo_l (mo_iload _ _)) (mo_l (mo_iload _ _))))) (mo_d (mo_d (mo_l (mo_cmpgt _ _)) (mo_l (mo_ic _ _))) (mo_d (mo_l (mo_goto _)) (mo_d (mo_l (mo_ic _ _)) (mo_l (mo_rZ))))))
def zc_X11_checkArgument (G : Nat × Nat) : Nat → zSem := fun pc =>
 znd pc 4
 (znd pc 1
 (zlf pc 0 (s_iload 0 1))
 (zlf pc 1 (s_ifne 12 4)))
 (znd pc 12
 (zlf pc 4 (s_thr 1))
 (zlf pc 12 (s_rV)))
theorem zm_X11_checkArgument (G : Nat × Nat) (pc : Nat) : zMon (zc_X11_checkArgument G pc) := (mo_d (mo_d (mo_l (mo_iload _ _)) (mo_l (mo_ifne _ _))) (mo_d (mo_l (mo_thr _)) (mo_l (mo_rV))))
def zc_Jx4a65c_size_8abf5 (G : Nat × Nat) : Nat → zSem := fun pc =>
 znd pc 1
 (zlf pc 0 (s_aload 0 1))
 (znd pc 4
 (zlf pc 1 (s_gI 0 2 4))
 (zlf pc 4 (s_rI)))
theorem zm_Jx4a65c_size_8abf5 (G : Nat × Nat) (pc : Nat) : zMon (zc_Jx4a65c_size_8abf5 G pc) := (mo_d (mo_l (mo_aload _ _)) (mo_d (mo_l (mo_gI _ _ _)) (mo_l (mo_rI))))
def zc_X11_checkState (G : Nat × Nat) : Nat → zSem := fun pc =>
 znd pc 4
 (znd pc 1
 (zlf pc 0 (s_iload 0 1))
 (zlf pc 1 (s_ifne 12 4)))
 (znd pc 12
 (zlf pc 4 (s_thr 2))
 (zlf pc 12 (s_rV)))
theorem zm_X11_checkState (G : Nat × Nat) (pc : Nat) : zMon (zc_X11_checkState G pc) := (mo_d (mo_d (mo_l (mo_iload _ _)) (mo_l (mo_ifne _ _))) (mo_d (mo_l (mo_thr _)) (mo_l (mo_rV))))
def zc_X1_init (G : Nat × Nat) : Nat → zSem := fun pc =>
 znd pc 15
 (znd pc 6
 (znd pc 4
 (znd pc 1
 (zlf pc 0 (s_aload 0 1))
 (zlf pc 1 (s_obj 4)))
 (znd pc 5
 (zlf pc 4 (s_aload 0 5))
 (zlf pc 5 (s_iload 1 6))))
 (znd pc 10
 (znd pc 9
 (zlf pc 6 (s_pI 2 0 9))
 (zlf pc 9 (s_aload 0 10)))
 (znd pc 11
 (zlf pc 10 (s_iload 2 11))
 (znd pc 14
 (zlf pc 11 (s_pI 2 1 14))
 (zlf pc 14 (s_aload 0 15))))))
 (znd pc 22
 (znd pc 19
 (znd pc 16
 (zlf pc 15 (s_iload 3 16))
 (zlf pc 16 (s_pI 2 2 19)))
 (znd pc 20
 (zlf pc 19 (s_aload 0 20))
 (zlf pc 20 (s_iload 4 22))))
 (znd pc 26
 (znd pc 25
 (zlf pc 22 (s_pI 2 3 25))
 (zlf pc 25 (s_aload 0 26)))
 (znd pc 28
 (zlf pc 26 (s_iload 5 28))
 (znd pc 31
 (zlf pc 28 (s_pI 2 4 31))
 (zlf pc 31 (s_rV))))))
theorem zm_X1_init (G : Nat × Nat) (pc : Nat) : zMon (zc_X1_init G pc) := (mo_d (mo_d (mo_d (mo_d (mo_l (mo_aload _ _)) (mo_l (mo_obj _))) (mo_d (mo_l (mo_aload _ _)) (mo_l (mo_iload _ _)))) (mo_d (mo_d (mo_l (mo_pI _ _ _)) (mo_l (mo_aload _ _))) (mo_d (mo_l (mo_iload _ _)) (mo_d (mo_l (mo_pI _ _ _)) (mo_l (mo_aload _ _)))))) (mo_d (mo_d (mo_d (mo_l (mo_iload _ _)) (mo_l (mo_pI _ _ _))) (mo_d (mo_l (mo_aload _ _)) (mo_l (mo_iload _ _)))) (mo_d (mo_d (mo_l (mo_pI _ _ _)) (mo_l (mo_aload _ _))) (mo_d (mo_l (mo_iload _ _)) (mo_d (mo_l (mo_pI _ _ _)) (mo_l (mo_rV)))))))
def zc_J9_max_7cf53 (G : Nat × Nat) : Nat → zSem := fun pc =>
 znd pc 5
 (znd pc 1
 (zlf pc 0 (s_iload 0 1))
 (znd pc 2
 (zlf pc 1 (s_iload 1 2))
 (zlf pc 2 (s_cmplt 9 5))))
 (znd pc 9
 (znd pc 6
 (zlf pc 5 (s_iload 0 6))
 (zlf pc 6 (s_goto 10)))
 (znd pc 10
 (zlf pc 9 (s_iload 1 10))
 (zlf pc 10 (s_rI))))
theorem zm_J9_max_7cf53 (G : Nat × Nat) (pc : Nat) : zMon (zc_J9_max_7cf53 G pc) := (mo_d (mo_d (mo_l (mo_iload _ _)) (mo_d (mo_l (mo_iload _ _)) (mo_l (mo_cmplt _ _)))) (mo_d (mo_d (mo_l (mo_iload _ _)) (mo_l (mo_goto _))) (mo_d (mo_l (mo_iload _ _)) (mo_l (mo_rI)))))
def zc_J8_newLength_cabcc (G : Nat × Nat) : Nat → zSem := fun pc =>
 znd pc 10
 (znd pc 6
 (znd pc 2
 (znd pc 1
 (zlf pc 0 (s_iload 0 1))
 (zlf pc 1 (s_iload 1 2)))
 (znd pc 3
 (zlf pc 2 (s_iload 2 3))
 (zlf pc 3 (s_cI zpS 19 2 [] zx0 6))))
 (znd pc 8
 (znd pc 7
 (zlf pc 6 (s_iadd 7))
 (zlf pc 7 (s_istore 3 8)))
 (znd pc 9
 (zlf pc 8 (s_ic 0 9))
 (zlf pc 9 (s_iload 3 10)))))
 (znd pc 19
 (znd pc 14
 (znd pc 13
 (zlf pc 10 (s_cmpge 21 13))
 (zlf pc 13 (s_iload 3 14)))
 (znd pc 16
 (zlf pc 14 (s_ic 2147483639 16))
 (zlf pc 16 (s_cmpgt 21 19))))
 (znd pc 21
 (znd pc 20
 (zlf pc 19 (s_iload 3 20))
 (zlf pc 20 (s_rI)))
 (znd pc 22
 (zlf pc 21 (s_iload 0 22))
 (znd pc 23
 (zlf pc 22 (s_iload 1 23))
 (zlf pc 23 (s_no))))))
theorem zm_J8_newLength_cabcc (G : Nat × Nat) (pc : Nat) : zMon (zc_J8_newLength_cabcc G pc) := (mo_d (mo_d (mo_d (mo_d (mo_l (mo_iload _ _)) (mo_l (mo_iload _ _))) (mo_d (mo_l (mo_iload _ _)) (mo_l (mo_cI _ _ _ _ zPre_S zHm_0)))) (mo_d (mo_d (mo_l (mo_iadd _)) (mo_l (mo_istore _ _))) (mo_d (mo_l (mo_ic _ _)) (mo_l (mo_iload _ _))))) (mo_d (mo_d (mo_d (mo_l (mo_cmpge _ _)) (mo_l (mo_iload _ _))) (mo_d (mo_l (mo_ic _ _)) (mo_l (mo_cmpgt _ _)))) (mo_d (mo_d (mo_l (mo_iload _ _)) (mo_l (mo_rI))) (mo_d (mo_l (mo_iload _ _)) (mo_d (mo_l (mo_iload _ _)) (mo_l (mo_no)))))))
def zc_J9_min_7cf53 (G : Nat × Nat) : Nat → zSem := fun pc =>
 znd pc 5
 (znd pc 1
 (zlf pc 0 (s_iload 0 1))
 (znd pc 2
 (zlf pc 1 (s_iload 1 2))
 (zlf pc 2 (s_cmpgt 9 5))))
 (znd pc 9
 (znd pc 6
 (zlf pc 5 (s_iload 0 6))
 (zlf pc 6 (s_goto 10)))
 (znd pc 10
 (zlf pc 9 (s_iload 1 10))
 (zlf pc 10 (s_rI))))
theorem zm_J9_min_7cf53 (G : Nat × Nat) (pc : Nat) : zMon (zc_J9_min_7cf53 G pc) := (mo_d (mo_d (mo_l (mo_iload _ _)) (mo_d (mo_l (mo_iload _ _)) (mo_l (mo_cmpgt _ _)))) (mo_d (mo_d (mo_l (mo_iload _ _)) (mo_l (mo_goto _))) (mo_d (mo_l (mo_iload _ _)) (mo_l (mo_rI)))))
def zc_J7_copyOf_6403c (G : Nat × Nat) : Nat → zSem := fun pc =>
 znd pc 26
 (znd pc 10
 (znd pc 3
 (znd pc 1
 (zlf pc 0 (s_aload 2 1))
 (zlf pc 1 (s_gs G.2 3)))
 (znd pc 6
 (zlf pc 3 (s_acmpne 13 6))
 (znd pc 7
 (zlf pc 6 (s_iload 1 7))
 (zlf pc 7 (s_naq 10)))))
 (znd pc 14
 (znd pc 13
 (zlf pc 10 (s_goto 24))
 (zlf pc 13 (s_aload 2 14)))
 (znd pc 24
 (zlf pc 14 (s_no))
 (znd pc 25
 (zlf pc 24 (s_astore 3 25))
 (zlf pc 25 (s_aload 0 26))))))
 (znd pc 31
 (znd pc 28
 (znd pc 27
 (zlf pc 26 (s_ic 0 27))
 (zlf pc 27 (s_aload 3 28)))
 (znd pc 29
 (zlf pc 28 (s_ic 0 29))
 (znd pc 30
 (zlf pc 29 (s_aload 0 30))
 (zlf pc 30 (s_alen 31)))))
 (znd pc 35
 (znd pc 32
 (zlf pc 31 (s_iload 1 32))
 (zlf pc 32 (s_cI zpS 21 2 [] zx0 35)))
 (znd pc 38
 (zlf pc 35 (s_cpy 38))
 (znd pc 39
 (zlf pc 38 (s_aload 3 39))
 (zlf pc 39 (s_rR))))))
theorem zm_J7_copyOf_6403c (G : Nat × Nat) (pc : Nat) : zMon (zc_J7_copyOf_6403c G pc) := (mo_d (mo_d (mo_d (mo_d (mo_l (mo_aload _ _)) (mo_l (mo_gs _ _))) (mo_d (mo_l (mo_acmpne _ _)) (mo_d (mo_l (mo_iload _ _)) (mo_l (mo_naq _))))) (mo_d (mo_d (mo_l (mo_goto _)) (mo_l (mo_aload _ _))) (mo_d (mo_l (mo_no)) (mo_d (mo_l (mo_astore _ _)) (mo_l (mo_aload _ _)))))) (mo_d (mo_d (mo_d (mo_l (mo_ic _ _)) (mo_l (mo_aload _ _))) (mo_d (mo_l (mo_ic _ _)) (mo_d (mo_l (mo_aload _ _)) (mo_l (mo_alen _))))) (mo_d (mo_d (mo_l (mo_iload _ _)) (mo_l (mo_cI _ _ _ _ zPre_S zHm_0))) (mo_d (mo_l (mo_cpy _)) (mo_d (mo_l (mo_aload _ _)) (mo_l (mo_rR)))))))
def zc_J7_copyOf_1904c (G : Nat × Nat) : Nat → zSem := fun pc =>
 znd pc 3
 (znd pc 1
 (zlf pc 0 (s_aload 0 1))
 (znd pc 2
 (zlf pc 1 (s_iload 1 2))
 (zlf pc 2 (s_aload 0 3))))
 (znd pc 6
 (zlf pc 3 (s_gcls G.2 6))
 (znd pc 9
 (zlf pc 6 (s_cR zpS 22 3 [zU] zx0 9))
 (zlf pc 9 (s_rR))))
theorem zm_J7_copyOf_1904c (G : Nat × Nat) (pc : Nat) : zMon (zc_J7_copyOf_1904c G pc) := (mo_d (mo_d (mo_l (mo_aload _ _)) (mo_d (mo_l (mo_iload _ _)) (mo_l (mo_aload _ _)))) (mo_d (mo_l (mo_gcls _ _)) (mo_d (mo_l (mo_cR _ _ _ _ zPre_S zHm_0)) (mo_l (mo_rR)))))
def zc_Jx4a65c_grow_92f84 (G : Nat × Nat) : Nat → zSem := fun pc =>
 znd pc 27
 (znd pc 14
 (znd pc 6
 (znd pc 4
 (znd pc 1
 (zlf pc 0 (s_aload 0 1))
 (zlf pc 1 (s_gR 0 1 4)))
 (znd pc 5
 (zlf pc 4 (s_alen 5))
 (zlf pc 5 (s_istore 2 6))))
 (znd pc 10
 (znd pc 7
 (zlf pc 6 (s_iload 2 7))
 (zlf pc 7 (s_ifgt 20 10)))
 (znd pc 11
 (zlf pc 10 (s_aload 0 11))
 (zlf pc 11 (s_gR 0 1 14)))))
 (znd pc 22
 (znd pc 20
 (znd pc 17
 (zlf pc 14 (s_gs G.1 17))
 (zlf pc 17 (s_acmpeq 45 20)))
 (znd pc 21
 (zlf pc 20 (s_iload 2 21))
 (zlf pc 21 (s_iload 1 22))))
 (znd pc 24
 (znd pc 23
 (zlf pc 22 (s_iload 2 23))
 (zlf pc 23 (s_isub 24)))
 (znd pc 25
 (zlf pc 24 (s_iload 2 25))
 (znd pc 26
 (zlf pc 25 (s_ic 1 26))
 (zlf pc 26 (s_ishr 27)))))))
 (znd pc 44
 (znd pc 33
 (znd pc 31
 (znd pc 30
 (zlf pc 27 (s_cI zpS 20 3 [zU] zx0 30))
 (zlf pc 30 (s_istore 3 31)))
 (znd pc 32
 (zlf pc 31 (s_aload 0 32))
 (zlf pc 32 (s_aload 0 33))))
 (znd pc 37
 (znd pc 36
 (zlf pc 33 (s_gR 0 1 36))
 (zlf pc 36 (s_iload 3 37)))
 (znd pc 40
 (zlf pc 37 (s_cR zpS 23 2 [] zx0 40))
 (znd pc 41
 (zlf pc 40 (s_dupx1 41))
 (zlf pc 41 (s_pR 0 1 44))))))
 (znd pc 49
 (znd pc 46
 (znd pc 45
 (zlf pc 44 (s_rR))
 (zlf pc 45 (s_aload 0 46)))
 (znd pc 48
 (zlf pc 46 (s_ic 10 48))
 (zlf pc 48 (s_iload 1 49))))
 (znd pc 55
 (znd pc 52
 (zlf pc 49 (s_cI zpS 19 2 [] zx0 52))
 (zlf pc 52 (s_naq 55)))
 (znd pc 56
 (zlf pc 55 (s_dupx1 56))
 (znd pc 59
 (zlf pc 56 (s_pR 0 1 59))
 (zlf pc 59 (s_rR)))))))
theorem zm_Jx4a65c_grow_92f84 (G : Nat × Nat) (pc : Nat) : zMon (zc_Jx4a65c_grow_92f84 G pc) := (mo_d (mo_d (mo_d (mo_d (mo_d (mo_l (mo_aload _ _)) (mo_l (mo_gR _ _ _))) (mo_d (mo_l (mo_alen _)) (mo_l (mo_istore _ _)))) (mo_d (mo_d (mo_l (mo_iload _ _)) (mo_l (mo_ifgt _ _))) (mo_d (mo_l (mo_aload _ _)) (mo_l (mo_gR _ _ _))))) (mo_d (mo_d (mo_d (mo_l (mo_gs _ _)) (mo_l (mo_acmpeq _ _))) (mo_d (mo_l (mo_iload _ _)) (mo_l (mo_iload _ _)))) (mo_d (mo_d (mo_l (mo_iload _ _)) (mo_l (mo_isub _))) (mo_d (mo_l (mo_iload _ _)) (mo_d (mo_l (mo_ic _ _)) (mo_l (mo_ishr _))))))) (mo_d (mo_d (mo_d (mo_d (mo_l (mo_cI _ _ _ _ zPre_S zHm_0)) (mo_l (mo_istore _ _))) (mo_d (mo_l (mo_aload _ _)) (mo_l (mo_aload _ _)))) (mo_d (mo_d (mo_l (mo_gR _ _ _)) (mo_l (mo_iload _ _))) (mo_d (mo_l (mo_cR _ _ _ _ zPre_S zHm_0)) (mo_d (mo_l (mo_dupx1 _)) (mo_l (mo_pR _ _ _)))))) (mo_d (mo_d (mo_d (mo_l (mo_rR)) (mo_l (mo_aload _ _))) (mo_d (mo_l (mo_ic _ _)) (mo_l (mo_iload _ _)))) (mo_d (mo_d (mo_l (mo_cI _ _ _ _ zPre_S zHm_0)) (mo_l (mo_naq _))) (mo_d (mo_l (mo_dupx1 _)) (mo_d (mo_l (mo_pR _ _ _)) (mo_l (mo_rR))))))))
def zc_Jx4a65c_grow_d5877 (G : Nat × Nat) : Nat → zSem := fun pc =>
 znd pc 5
 (znd pc 1
 (zlf pc 0 (s_aload 0 1))
 (znd pc 2
 (zlf pc 1 (s_aload 0 2))
 (zlf pc 2 (s_gI 0 2 5))))
 (znd pc 7
 (znd pc 6
 (zlf pc 5 (s_ic 1 6))
 (zlf pc 6 (s_iadd 7)))
 (znd pc 10
 (zlf pc 7 (s_cR (zpV 0) 24 2 [zU, zU] zx0 10))
 (zlf pc 10 (s_rR))))
theorem zm_Jx4a65c_grow_d5877 (G : Nat × Nat) (pc : Nat) : zMon (zc_Jx4a65c_grow_d5877 G pc) := (mo_d (mo_d (mo_l (mo_aload _ _)) (mo_d (mo_l (mo_aload _ _)) (mo_l (mo_gI _ _ _)))) (mo_d (mo_d (mo_l (mo_ic _ _)) (mo_l (mo_iadd _))) (mo_d (mo_l (mo_cR _ _ _ _ (zPre_V _) zHm_0)) (mo_l (mo_rR)))))
def zc_Jx4a65c_add_72be8 (G : Nat × Nat) : Nat → zSem := fun pc =>
 znd pc 12
 (znd pc 6
 (znd pc 2
 (znd pc 1
 (zlf pc 0 (s_iload 3 1))
 (zlf pc 1 (s_aload 2 2)))
 (znd pc 3
 (zlf pc 2 (s_alen 3))
 (zlf pc 3 (s_cmpne 11 6))))
 (znd pc 10
 (znd pc 7
 (zlf pc 6 (s_aload 0 7))
 (zlf pc 7 (s_cR (zpV 0) 25 1 [] zx0 10)))
 (znd pc 11
 (zlf pc 10 (s_astore 2 11))
 (zlf pc 11 (s_aload 2 12)))))
 (znd pc 16
 (znd pc 14
 (znd pc 13
 (zlf pc 12 (s_iload 3 13))
 (zlf pc 13 (s_aload 1 14)))
 (znd pc 15
 (zlf pc 14 (s_qast 15))
 (zlf pc 15 (s_aload 0 16))))
 (znd pc 18
 (znd pc 17
 (zlf pc 16 (s_iload 3 17))
 (zlf pc 17 (s_ic 1 18)))
 (znd pc 19
 (zlf pc 18 (s_iadd 19))
 (znd pc 22
 (zlf pc 19 (s_pI 0 2 22))
 (zlf pc 22 (s_rV))))))
theorem zm_Jx4a65c_add_72be8 (G : Nat × Nat) (pc : Nat) : zMon (zc_Jx4a65c_add_72be8 G pc) := (mo_d (mo_d (mo_d (mo_d (mo_l (mo_iload _ _)) (mo_l (mo_aload _ _))) (mo_d (mo_l (mo_alen _)) (mo_l (mo_cmpne _ _)))) (mo_d (mo_d (mo_l (mo_aload _ _)) (mo_l (mo_cR _ _ _ _ (zPre_V _) zHm_0))) (mo_d (mo_l (mo_astore _ _)) (mo_l (mo_aload _ _))))) (mo_d (mo_d (mo_d (mo_l (mo_iload _ _)) (mo_l (mo_aload _ _))) (mo_d (mo_l (mo_qast _)) (mo_l (mo_aload _ _)))) (mo_d (mo_d (mo_l (mo_iload _ _)) (mo_l (mo_ic _ _))) (mo_d (mo_l (mo_iadd _)) (mo_d (mo_l (mo_pI _ _ _)) (mo_l (mo_rV)))))))
def zc_Jx4a65c_add_9ea2d (G : Nat × Nat) : Nat → zSem := fun pc =>
 znd pc 11
 (znd pc 5
 (znd pc 1
 (zlf pc 0 (s_aload 0 1))
 (znd pc 2
 (zlf pc 1 (s_dup 2))
 (zlf pc 2 (s_gI 0 0 5))))
 (znd pc 7
 (znd pc 6
 (zlf pc 5 (s_ic 1 6))
 (zlf pc 6 (s_iadd 7)))
 (znd pc 10
 (zlf pc 7 (s_pI 0 0 10))
 (zlf pc 10 (s_aload 0 11)))))
 (znd pc 17
 (znd pc 13
 (znd pc 12
 (zlf pc 11 (s_aload 1 12))
 (zlf pc 12 (s_aload 0 13)))
 (znd pc 16
 (zlf pc 13 (s_gR 0 1 16))
 (zlf pc 16 (s_aload 0 17))))
 (znd pc 23
 (znd pc 20
 (zlf pc 17 (s_gI 0 2 20))
 (zlf pc 20 (s_cV (zpV 0) 26 4 [] zx0 23)))
 (znd pc 24
 (zlf pc 23 (s_ic 1 24))
 (zlf pc 24 (s_rZ)))))
theorem zm_Jx4a65c_add_9ea2d (G : Nat × Nat) (pc : Nat) : zMon (zc_Jx4a65c_add_9ea2d G pc) := (mo_d (mo_d (mo_d (mo_l (mo_aload _ _)) (mo_d (mo_l (mo_dup _)) (mo_l (mo_gI _ _ _)))) (mo_d (mo_d (mo_l (mo_ic _ _)) (mo_l (mo_iadd _))) (mo_d (mo_l (mo_pI _ _ _)) (mo_l (mo_aload _ _))))) (mo_d (mo_d (mo_d (mo_l (mo_aload _ _)) (mo_l (mo_aload _ _))) (mo_d (mo_l (mo_gR _ _ _)) (mo_l (mo_aload _ _)))) (mo_d (mo_d (mo_l (mo_gI _ _ _)) (mo_l (mo_cV _ _ _ _ (zPre_V _) zHm_0))) (mo_d (mo_l (mo_ic _ _)) (mo_l (mo_rZ))))))
def zc_X4_addBundle (G : Nat × Nat) : Nat → zSem := fun pc =>
 znd pc 18
 (znd pc 9
 (znd pc 4
 (znd pc 1
 (zlf pc 0 (s_aload 0 1))
 (zlf pc 1 (s_gR 5 0 4)))
 (znd pc 7
 (zlf pc 4 (s_new 2 5 [.int 0, .int 0, .int 0, .int 0, .int 0] 7))
 (znd pc 8
 (zlf pc 7 (s_dup 8))
 (zlf pc 8 (s_aload 0 9)))))
 (znd pc 15
 (znd pc 12
 (zlf pc 9 (s_gR 5 0 12))
 (zlf pc 12 (s_cI (zpV 0) 16 1 [] zx0 15)))
 (znd pc 16
 (zlf pc 15 (s_iload 1 16))
 (znd pc 17
 (zlf pc 16 (s_iload 2 17))
 (zlf pc 17 (s_iload 3 18))))))
 (znd pc 28
 (znd pc 23
 (znd pc 20
 (zlf pc 18 (s_iload 4 20))
 (zlf pc 20 (s_cV zpI 18 6 [] zx0 23)))
 (znd pc 26
 (zlf pc 23 (s_cI (zpV 0) 27 2 [] zx0 26))
 (znd pc 27
 (zlf pc 26 (s_pop 27))
 (zlf pc 27 (s_aload 0 28)))))
 (znd pc 34
 (znd pc 31
 (zlf pc 28 (s_gR 5 0 31))
 (zlf pc 31 (s_cI (zpV 0) 16 1 [] zx0 34)))
 (znd pc 35
 (zlf pc 34 (s_ic 1 35))
 (znd pc 36
 (zlf pc 35 (s_isub 36))
 (zlf pc 36 (s_rI))))))
theorem zm_X4_addBundle (G : Nat × Nat) (pc : Nat) : zMon (zc_X4_addBundle G pc) := (mo_d (mo_d (mo_d (mo_d (mo_l (mo_aload _ _)) (mo_l (mo_gR _ _ _))) (mo_d (mo_l (mo_new _ _ _ _)) (mo_d (mo_l (mo_dup _)) (mo_l (mo_aload _ _))))) (mo_d (mo_d (mo_l (mo_gR _ _ _)) (mo_l (mo_cI _ _ _ _ (zPre_V _) zHm_0))) (mo_d (mo_l (mo_iload _ _)) (mo_d (mo_l (mo_iload _ _)) (mo_l (mo_iload _ _)))))) (mo_d (mo_d (mo_d (mo_l (mo_iload _ _)) (mo_l (mo_cV _ _ _ _ zPre_I zHm_0))) (mo_d (mo_l (mo_cI _ _ _ _ (zPre_V _) zHm_0)) (mo_d (mo_l (mo_pop _)) (mo_l (mo_aload _ _))))) (mo_d (mo_d (mo_l (mo_gR _ _ _)) (mo_l (mo_cI _ _ _ _ (zPre_V _) zHm_0))) (mo_d (mo_l (mo_ic _ _)) (mo_d (mo_l (mo_isub _)) (mo_l (mo_rI)))))))
def zc_X11_bundle (G : Nat × Nat) : Nat → zSem := fun pc =>
 znd pc 47
 (znd pc 23
 (znd pc 10
 (znd pc 3
 (znd pc 1
 (zlf pc 0 (s_iload 1 1))
 (zlf pc 1 (s_ic 8 3)))
 (znd pc 6
 (zlf pc 3 (s_cI zpS 12 2 [] zx0 6))
 (znd pc 9
 (zlf pc 6 (s_ifeq 22 9))
 (zlf pc 9 (s_iload 2 10)))))
 (znd pc 18
 (znd pc 12
 (zlf pc 10 (s_ic 8 12))
 (znd pc 15
 (zlf pc 12 (s_cI zpS 12 2 [] zx0 15))
 (zlf pc 15 (s_ifeq 22 18))))
 (znd pc 19
 (zlf pc 18 (s_ic 1 19))
 (znd pc 22
 (zlf pc 19 (s_goto 23))
 (zlf pc 22 (s_ic 0 23))))))
 (znd pc 33
 (znd pc 28
 (znd pc 26
 (zlf pc 23 (s_cV zpS 13 1 [] zx0 26))
 (znd pc 27
 (zlf pc 26 (s_iload 1 27))
 (zlf pc 27 (s_iload 2 28))))
 (znd pc 31
 (zlf pc 28 (s_cmpeq 57 31))
 (znd pc 32
 (zlf pc 31 (s_iload 3 32))
 (zlf pc 32 (s_ic 1 33)))))
 (znd pc 42
 (znd pc 36
 (zlf pc 33 (s_ic 999 36))
 (znd pc 39
 (zlf pc 36 (s_cI zpS 14 3 [] zx0 39))
 (zlf pc 39 (s_ifeq 57 42))))
 (znd pc 44
 (zlf pc 42 (s_iload 4 44))
 (znd pc 45
 (zlf pc 44 (s_ic 1 45))
 (zlf pc 45 (s_ic 24 47)))))))
 (znd pc 76
 (znd pc 61
 (znd pc 54
 (znd pc 50
 (zlf pc 47 (s_cI zpS 14 3 [] zx0 50))
 (znd pc 53
 (zlf pc 50 (s_ifeq 57 53))
 (zlf pc 53 (s_ic 1 54))))
 (znd pc 57
 (zlf pc 54 (s_goto 58))
 (znd pc 58
 (zlf pc 57 (s_ic 0 58))
 (zlf pc 58 (s_cV zpS 15 1 [] zx0 61)))))
 (znd pc 68
 (znd pc 62
 (zlf pc 61 (s_aload 0 62))
 (znd pc 65
 (zlf pc 62 (s_gR 12 0 65))
 (zlf pc 65 (s_gR 5 0 68))))
 (znd pc 71
 (zlf pc 68 (s_cI (zpV 0) 16 1 [] zx0 71))
 (znd pc 73
 (zlf pc 71 (s_ic 16 73))
 (zlf pc 73 (s_cmpge 80 76))))))
 (znd pc 88
 (znd pc 81
 (znd pc 77
 (zlf pc 76 (s_ic 1 77))
 (znd pc 80
 (zlf pc 77 (s_goto 81))
 (zlf pc 80 (s_ic 0 81))))
 (znd pc 84
 (zlf pc 81 (s_cV zpS 17 1 [] zx0 84))
 (znd pc 85
 (zlf pc 84 (s_aload 0 85))
 (zlf pc 85 (s_gR 12 0 88)))))
 (znd pc 91
 (znd pc 89
 (zlf pc 88 (s_iload 1 89))
 (znd pc 90
 (zlf pc 89 (s_iload 2 90))
 (zlf pc 90 (s_iload 3 91))))
 (znd pc 93
 (zlf pc 91 (s_iload 4 93))
 (znd pc 96
 (zlf pc 93 (s_cI (zpV 5) 28 5 [] zx0 96))
 (zlf pc 96 (s_rI)))))))
theorem zm_X11_bundle (G : Nat × Nat) (pc : Nat) : zMon (zc_X11_bundle G pc) := (mo_d (mo_d (mo_d (mo_d (mo_d (mo_l (mo_iload _ _)) (mo_l (mo_ic _ _))) (mo_d (mo_l (mo_cI _ _ _ _ zPre_S zHm_0)) (mo_d (mo_l (mo_ifeq _ _)) (mo_l (mo_iload _ _))))) (mo_d (mo_d (mo_l (mo_ic _ _)) (mo_d (mo_l (mo_cI _ _ _ _ zPre_S zHm_0)) (mo_l (mo_ifeq _ _)))) (mo_d (mo_l (mo_ic _ _)) (mo_d (mo_l (mo_goto _)) (mo_l (mo_ic _ _)))))) (mo_d (mo_d (mo_d (mo_l (mo_cV _ _ _ _ zPre_S zHm_0)) (mo_d (mo_l (mo_iload _ _)) (mo_l (mo_iload _ _)))) (mo_d (mo_l (mo_cmpeq _ _)) (mo_d (mo_l (mo_iload _ _)) (mo_l (mo_ic _ _))))) (mo_d (mo_d (mo_l (mo_ic _ _)) (mo_d (mo_l (mo_cI _ _ _ _ zPre_S zHm_0)) (mo_l (mo_ifeq _ _)))) (mo_d (mo_l (mo_iload _ _)) (mo_d (mo_l (mo_ic _ _)) (mo_l (mo_ic _ _))))))) (mo_d (mo_d (mo_d (mo_d (mo_l (mo_cI _ _ _ _ zPre_S zHm_0)) (mo_d (mo_l (mo_ifeq _ _)) (mo_l (mo_ic _ _)))) (mo_d (mo_l (mo_goto _)) (mo_d (mo_l (mo_ic _ _)) (mo_l (mo_cV _ _ _ _ zPre_S zHm_0))))) (mo_d (mo_d (mo_l (mo_aload _ _)) (mo_d (mo_l (mo_gR _ _ _)) (mo_l (mo_gR _ _ _)))) (mo_d (mo_l (mo_cI _ _ _ _ (zPre_V _) zHm_0)) (mo_d (mo_l (mo_ic _ _)) (mo_l (mo_cmpge _ _)))))) (mo_d (mo_d (mo_d (mo_l (mo_ic _ _)) (mo_d (mo_l (mo_goto _)) (mo_l (mo_ic _ _)))) (mo_d (mo_l (mo_cV _ _ _ _ zPre_S zHm_0)) (mo_d (mo_l (mo_aload _ _)) (mo_l (mo_gR _ _ _))))) (mo_d (mo_d (mo_l (mo_iload _ _)) (mo_d (mo_l (mo_iload _ _)) (mo_l (mo_iload _ _)))) (mo_d (mo_l (mo_iload _ _)) (mo_d (mo_l (mo_cI _ _ _ _ (zPre_V _) zHm_0)) (mo_l (mo_rI))))))))
def zc_X2_init (G : Nat × Nat) : Nat → zSem := fun pc =>
 znd pc 11
 (znd pc 5
 (znd pc 1
 (zlf pc 0 (s_aload 0 1))
 (znd pc 4
 (zlf pc 1 (s_obj 4))
 (zlf pc 4 (s_aload 0 5))))
 (znd pc 9
 (znd pc 6
 (zlf pc 5 (s_ic (-1) 6))
 (zlf pc 6 (s_pI 3 3 9)))
 (znd pc 10
 (zlf pc 9 (s_aload 0 10))
 (zlf pc 10 (s_iload 1 11)))))
 (znd pc 19
 (znd pc 15
 (znd pc 14
 (zlf pc 11 (s_pI 3 0 14))
 (zlf pc 14 (s_aload 0 15)))
 (znd pc 16
 (zlf pc 15 (s_iload 2 16))
 (zlf pc 16 (s_pI 3 1 19))))
 (znd pc 21
 (znd pc 20
 (zlf pc 19 (s_aload 0 20))
 (zlf pc 20 (s_iload 3 21)))
 (znd pc 24
 (zlf pc 21 (s_pI 3 2 24))
 (zlf pc 24 (s_rV)))))
theorem zm_X2_init (G : Nat × Nat) (pc : Nat) : zMon (zc_X2_init G pc) := (mo_d (mo_d (mo_d (mo_l (mo_aload _ _)) (mo_d (mo_l (mo_obj _)) (mo_l (mo_aload _ _)))) (mo_d (mo_d (mo_l (mo_ic _ _)) (mo_l (mo_pI _ _ _))) (mo_d (mo_l (mo_aload _ _)) (mo_l (mo_iload _ _))))) (mo_d (mo_d (mo_d (mo_l (mo_pI _ _ _)) (mo_l (mo_aload _ _))) (mo_d (mo_l (mo_iload _ _)) (mo_l (mo_pI _ _ _)))) (mo_d (mo_d (mo_l (mo_aload _ _)) (mo_l (mo_iload _ _))) (mo_d (mo_l (mo_pI _ _ _)) (mo_l (mo_rV))))))
def zc_X4_addConnector (G : Nat × Nat) : Nat → zSem := fun pc =>
 znd pc 14
 (znd pc 8
 (znd pc 4
 (znd pc 1
 (zlf pc 0 (s_aload 0 1))
 (zlf pc 1 (s_gR 5 1 4)))
 (znd pc 7
 (zlf pc 4 (s_new 3 5 [.int 0, .int 0, .int 0, .int 0, .int 0] 7))
 (zlf pc 7 (s_dup 8))))
 (znd pc 10
 (znd pc 9
 (zlf pc 8 (s_iload 1 9))
 (zlf pc 9 (s_iload 2 10)))
 (znd pc 11
 (zlf pc 10 (s_iload 3 11))
 (zlf pc 11 (s_cV zpI 36 4 [] zx0 14)))))
 (znd pc 22
 (znd pc 18
 (znd pc 17
 (zlf pc 14 (s_cI (zpV 0) 27 2 [] zx0 17))
 (zlf pc 17 (s_pop 18)))
 (znd pc 19
 (zlf pc 18 (s_aload 0 19))
 (zlf pc 19 (s_gR 5 1 22))))
 (znd pc 26
 (znd pc 25
 (zlf pc 22 (s_cI (zpV 0) 16 1 [] zx0 25))
 (zlf pc 25 (s_ic 1 26)))
 (znd pc 27
 (zlf pc 26 (s_isub 27))
 (zlf pc 27 (s_rI)))))
theorem zm_X4_addConnector (G : Nat × Nat) (pc : Nat) : zMon (zc_X4_addConnector G pc) := (mo_d (mo_d (mo_d (mo_d (mo_l (mo_aload _ _)) (mo_l (mo_gR _ _ _))) (mo_d (mo_l (mo_new _ _ _ _)) (mo_l (mo_dup _)))) (mo_d (mo_d (mo_l (mo_iload _ _)) (mo_l (mo_iload _ _))) (mo_d (mo_l (mo_iload _ _)) (mo_l (mo_cV _ _ _ _ zPre_I zHm_0))))) (mo_d (mo_d (mo_d (mo_l (mo_cI _ _ _ _ (zPre_V _) zHm_0)) (mo_l (mo_pop _))) (mo_d (mo_l (mo_aload _ _)) (mo_l (mo_gR _ _ _)))) (mo_d (mo_d (mo_l (mo_cI _ _ _ _ (zPre_V _) zHm_0)) (mo_l (mo_ic _ _))) (mo_d (mo_l (mo_isub _)) (mo_l (mo_rI))))))
def zc_X11_connector (G : Nat × Nat) : Nat → zSem := fun pc =>
 znd pc 34
 (znd pc 16
 (znd pc 9
 (znd pc 3
 (znd pc 1
 (zlf pc 0 (s_iload 1 1))
 (zlf pc 1 (s_ic 8 3)))
 (znd pc 6
 (zlf pc 3 (s_cI zpS 12 2 [] zx0 6))
 (zlf pc 6 (s_cV zpS 13 1 [] zx0 9))))
 (znd pc 11
 (znd pc 10
 (zlf pc 9 (s_iload 2 10))
 (zlf pc 10 (s_ic 1 11)))
 (znd pc 13
 (zlf pc 11 (s_ic 8 13))
 (zlf pc 13 (s_cI zpS 14 3 [] zx0 16)))))
 (znd pc 23
 (znd pc 20
 (znd pc 19
 (zlf pc 16 (s_ifeq 33 19))
 (zlf pc 19 (s_iload 3 20)))
 (znd pc 21
 (zlf pc 20 (s_ic 0 21))
 (zlf pc 21 (s_ic 9 23))))
 (znd pc 29
 (znd pc 26
 (zlf pc 23 (s_cI zpS 14 3 [] zx0 26))
 (zlf pc 26 (s_ifeq 33 29)))
 (znd pc 30
 (zlf pc 29 (s_ic 1 30))
 (znd pc 33
 (zlf pc 30 (s_goto 34))
 (zlf pc 33 (s_ic 0 34)))))))
 (znd pc 56
 (znd pc 44
 (znd pc 38
 (znd pc 37
 (zlf pc 34 (s_cV zpS 15 1 [] zx0 37))
 (zlf pc 37 (s_aload 0 38)))
 (znd pc 41
 (zlf pc 38 (s_gR 12 0 41))
 (zlf pc 41 (s_gR 5 1 44))))
 (znd pc 49
 (znd pc 47
 (zlf pc 44 (s_cI (zpV 0) 16 1 [] zx0 47))
 (zlf pc 47 (s_ic 8 49)))
 (znd pc 52
 (zlf pc 49 (s_cmpge 56 52))
 (znd pc 53
 (zlf pc 52 (s_ic 1 53))
 (zlf pc 53 (s_goto 57))))))
 (znd pc 64
 (znd pc 60
 (znd pc 57
 (zlf pc 56 (s_ic 0 57))
 (zlf pc 57 (s_cV zpS 17 1 [] zx0 60)))
 (znd pc 61
 (zlf pc 60 (s_aload 0 61))
 (zlf pc 61 (s_gR 12 0 64))))
 (znd pc 66
 (znd pc 65
 (zlf pc 64 (s_iload 1 65))
 (zlf pc 65 (s_iload 2 66)))
 (znd pc 67
 (zlf pc 66 (s_iload 3 67))
 (znd pc 70
 (zlf pc 67 (s_cI (zpV 5) 37 4 [] zx0 70))
 (zlf pc 70 (s_rI)))))))
theorem zm_X11_connector (G : Nat × Nat) (pc : Nat) : zMon (zc_X11_connector G pc) := (mo_d (mo_d (mo_d (mo_d (mo_d (mo_l (mo_iload _ _)) (mo_l (mo_ic _ _))) (mo_d (mo_l (mo_cI _ _ _ _ zPre_S zHm_0)) (mo_l (mo_cV _ _ _ _ zPre_S zHm_0)))) (mo_d (mo_d (mo_l (mo_iload _ _)) (mo_l (mo_ic _ _))) (mo_d (mo_l (mo_ic _ _)) (mo_l (mo_cI _ _ _ _ zPre_S zHm_0))))) (mo_d (mo_d (mo_d (mo_l (mo_ifeq _ _)) (mo_l (mo_iload _ _))) (mo_d (mo_l (mo_ic _ _)) (mo_l (mo_ic _ _)))) (mo_d (mo_d (mo_l (mo_cI _ _ _ _ zPre_S zHm_0)) (mo_l (mo_ifeq _ _))) (mo_d (mo_l (mo_ic _ _)) (mo_d (mo_l (mo_goto _)) (mo_l (mo_ic _ _))))))) (mo_d (mo_d (mo_d (mo_d (mo_l (mo_cV _ _ _ _ zPre_S zHm_0)) (mo_l (mo_aload _ _))) (mo_d (mo_l (mo_gR _ _ _)) (mo_l (mo_gR _ _ _)))) (mo_d (mo_d (mo_l (mo_cI _ _ _ _ (zPre_V _) zHm_0)) (mo_l (mo_ic _ _))) (mo_d (mo_l (mo_cmpge _ _)) (mo_d (mo_l (mo_ic _ _)) (mo_l (mo_goto _)))))) (mo_d (mo_d (mo_d (mo_l (mo_ic _ _)) (mo_l (mo_cV _ _ _ _ zPre_S zHm_0))) (mo_d (mo_l (mo_aload _ _)) (mo_l (mo_gR _ _ _)))) (mo_d (mo_d (mo_l (mo_iload _ _)) (mo_l (mo_iload _ _))) (mo_d (mo_l (mo_iload _ _)) (mo_d (mo_l (mo_cI _ _ _ _ (zPre_V _) zHm_0)) (mo_l (mo_rI))))))))
def zc_J3_checkIndex_8e157 (G : Nat × Nat) : Nat → zSem := fun pc =>
 znd pc 9
 (znd pc 4
 (znd pc 1
 (zlf pc 0 (s_iload 0 1))
 (zlf pc 1 (s_iflt 9 4)))
 (znd pc 5
 (zlf pc 4 (s_iload 0 5))
 (znd pc 6
 (zlf pc 5 (s_iload 1 6))
 (zlf pc 6 (s_cmplt 16 9)))))
 (znd pc 12
 (znd pc 10
 (zlf pc 9 (s_aload 2 10))
 (znd pc 11
 (zlf pc 10 (s_iload 0 11))
 (zlf pc 11 (s_iload 1 12))))
 (znd pc 16
 (zlf pc 12 (s_no))
 (znd pc 17
 (zlf pc 16 (s_iload 0 17))
 (zlf pc 17 (s_rI)))))
theorem zm_J3_checkIndex_8e157 (G : Nat × Nat) (pc : Nat) : zMon (zc_J3_checkIndex_8e157 G pc) := (mo_d (mo_d (mo_d (mo_l (mo_iload _ _)) (mo_l (mo_iflt _ _))) (mo_d (mo_l (mo_iload _ _)) (mo_d (mo_l (mo_iload _ _)) (mo_l (mo_cmplt _ _))))) (mo_d (mo_d (mo_l (mo_aload _ _)) (mo_d (mo_l (mo_iload _ _)) (mo_l (mo_iload _ _)))) (mo_d (mo_l (mo_no)) (mo_d (mo_l (mo_iload _ _)) (mo_l (mo_rI))))))
def zc_J15_checkIndex_7cf53 (G : Nat × Nat) : Nat → zSem := fun pc =>
 znd pc 2
 (znd pc 1
 (zlf pc 0 (s_iload 0 1))
 (zlf pc 1 (s_iload 1 2)))
 (znd pc 3
 (zlf pc 2 (s_null 3))
 (znd pc 6
 (zlf pc 3 (s_cI zpS 41 3 [] zx0 6))
 (zlf pc 6 (s_rI))))
theorem zm_J15_checkIndex_7cf53 (G : Nat × Nat) (pc : Nat) : zMon (zc_J15_checkIndex_7cf53 G pc) := (mo_d (mo_d (mo_l (mo_iload _ _)) (mo_l (mo_iload _ _))) (mo_d (mo_l (mo_null _)) (mo_d (mo_l (mo_cI _ _ _ _ zPre_S zHm_0)) (mo_l (mo_rI)))))
def zc_Jx4a65c_elementData_915e3 (G : Nat × Nat) : Nat → zSem := fun pc =>
 znd pc 4
 (znd pc 1
 (zlf pc 0 (s_aload 0 1))
 (zlf pc 1 (s_gR 0 1 4)))
 (znd pc 5
 (zlf pc 4 (s_iload 1 5))
 (znd pc 6
 (zlf pc 5 (s_qald 6))
 (zlf pc 6 (s_rR))))
theorem zm_Jx4a65c_elementData_915e3 (G : Nat × Nat) (pc : Nat) : zMon (zc_Jx4a65c_elementData_915e3 G pc) := (mo_d (mo_d (mo_l (mo_aload _ _)) (mo_l (mo_gR _ _ _))) (mo_d (mo_l (mo_iload _ _)) (mo_d (mo_l (mo_qald _)) (mo_l (mo_rR)))))
def zc_Jx4a65c_get_915e3 (G : Nat × Nat) : Nat → zSem := fun pc =>
 znd pc 8
 (znd pc 2
 (znd pc 1
 (zlf pc 0 (s_iload 1 1))
 (zlf pc 1 (s_aload 0 2)))
 (znd pc 5
 (zlf pc 2 (s_gI 0 2 5))
 (zlf pc 5 (s_cI zpS 42 2 [] zx0 8))))
 (znd pc 10
 (znd pc 9
 (zlf pc 8 (s_pop 9))
 (zlf pc 9 (s_aload 0 10)))
 (znd pc 11
 (zlf pc 10 (s_iload 1 11))
 (znd pc 14
 (zlf pc 11 (s_cR (zpV 0) 43 2 [] zx0 14))
 (zlf pc 14 (s_rR)))))
theorem zm_Jx4a65c_get_915e3 (G : Nat × Nat) (pc : Nat) : zMon (zc_Jx4a65c_get_915e3 G pc) := (mo_d (mo_d (mo_d (mo_l (mo_iload _ _)) (mo_l (mo_aload _ _))) (mo_d (mo_l (mo_gI _ _ _)) (mo_l (mo_cI _ _ _ _ zPre_S zHm_0)))) (mo_d (mo_d (mo_l (mo_pop _)) (mo_l (mo_aload _ _))) (mo_d (mo_l (mo_iload _ _)) (mo_d (mo_l (mo_cR _ _ _ _ (zPre_V _) zHm_0)) (mo_l (mo_rR))))))
def zc_X11_connectorAt (G : Nat × Nat) : Nat → zSem := fun pc =>
 znd pc 17
 (znd pc 5
 (znd pc 1
 (zlf pc 0 (s_iload 1 1))
 (znd pc 2
 (zlf pc 1 (s_aload 0 2))
 (zlf pc 2 (s_gR 12 0 5))))
 (znd pc 11
 (znd pc 8
 (zlf pc 5 (s_gR 5 1 8))
 (zlf pc 8 (s_cI (zpV 0) 16 1 [] zx0 11)))
 (znd pc 14
 (zlf pc 11 (s_cI zpS 12 2 [] zx0 14))
 (zlf pc 14 (s_ifne 25 17)))))
 (znd pc 32
 (znd pc 26
 (znd pc 25
 (zlf pc 17 (s_thr 0))
 (zlf pc 25 (s_aload 0 26)))
 (znd pc 29
 (zlf pc 26 (s_gR 12 0 29))
 (zlf pc 29 (s_gR 5 1 32))))
 (znd pc 36
 (znd pc 33
 (zlf pc 32 (s_iload 1 33))
 (zlf pc 33 (s_cR (zpV 0) 44 2 [] zx0 36)))
 (znd pc 39
 (zlf pc 36 (s_cast 3 39))
 (zlf pc 39 (s_rR)))))
theorem zm_X11_connectorAt (G : Nat × Nat) (pc : Nat) : zMon (zc_X11_connectorAt G pc) := (mo_d (mo_d (mo_d (mo_l (mo_iload _ _)) (mo_d (mo_l (mo_aload _ _)) (mo_l (mo_gR _ _ _)))) (mo_d (mo_d (mo_l (mo_gR _ _ _)) (mo_l (mo_cI _ _ _ _ (zPre_V _) zHm_0))) (mo_d (mo_l (mo_cI _ _ _ _ zPre_S zHm_0)) (mo_l (mo_ifne _ _))))) (mo_d (mo_d (mo_d (mo_l (mo_thr _)) (mo_l (mo_aload _ _))) (mo_d (mo_l (mo_gR _ _ _)) (mo_l (mo_gR _ _ _)))) (mo_d (mo_d (mo_l (mo_iload _ _)) (mo_l (mo_cR _ _ _ _ (zPre_V _) zHm_0))) (mo_d (mo_l (mo_cast _ _)) (mo_l (mo_rR))))))
def zc_X2_fits (G : Nat × Nat) : Nat → zSem := fun pc =>
 znd pc 15
 (znd pc 5
 (znd pc 1
 (zlf pc 0 (s_aload 0 1))
 (znd pc 4
 (zlf pc 1 (s_gI 3 1 4))
 (zlf pc 4 (s_aload 1 5))))
 (znd pc 11
 (znd pc 8
 (zlf pc 5 (s_gI 3 1 8))
 (zlf pc 8 (s_cmpne 26 11)))
 (znd pc 12
 (zlf pc 11 (s_aload 0 12))
 (zlf pc 12 (s_gI 3 2 15)))))
 (znd pc 22
 (znd pc 16
 (zlf pc 15 (s_aload 1 16))
 (znd pc 19
 (zlf pc 16 (s_gI 3 2 19))
 (zlf pc 19 (s_cmpne 26 22))))
 (znd pc 26
 (znd pc 23
 (zlf pc 22 (s_ic 1 23))
 (zlf pc 23 (s_goto 27)))
 (znd pc 27
 (zlf pc 26 (s_ic 0 27))
 (zlf pc 27 (s_rZ)))))
theorem zm_X2_fits (G : Nat × Nat) (pc : Nat) : zMon (zc_X2_fits G pc) := (mo_d (mo_d (mo_d (mo_l (mo_aload _ _)) (mo_d (mo_l (mo_gI _ _ _)) (mo_l (mo_aload _ _)))) (mo_d (mo_d (mo_l (mo_gI _ _ _)) (mo_l (mo_cmpne _ _))) (mo_d (mo_l (mo_aload _ _)) (mo_l (mo_gI _ _ _))))) (mo_d (mo_d (mo_l (mo_aload _ _)) (mo_d (mo_l (mo_gI _ _ _)) (mo_l (mo_cmpne _ _)))) (mo_d (mo_d (mo_l (mo_ic _ _)) (mo_l (mo_goto _))) (mo_d (mo_l (mo_ic _ _)) (mo_l (mo_rZ))))))
def zc_X4_pairsThatFitWrong (G : Nat × Nat) : Nat → zSem := fun pc =>
 znd pc 35
 (znd pc 16
 (znd pc 5
 (znd pc 2
 (znd pc 1
 (zlf pc 0 (s_ic 0 1))
 (zlf pc 1 (s_istore 1 2)))
 (znd pc 3
 (zlf pc 2 (s_ic 0 3))
 (znd pc 4
 (zlf pc 3 (s_istore 2 4))
 (zlf pc 4 (s_iload 2 5)))))
 (znd pc 9
 (znd pc 6
 (zlf pc 5 (s_aload 0 6))
 (zlf pc 6 (s_gR 5 1 9)))
 (znd pc 12
 (zlf pc 9 (s_cI (zpV 0) 16 1 [] zx0 12))
 (znd pc 15
 (zlf pc 12 (s_cmpge 87 15))
 (zlf pc 15 (s_aload 0 16))))))
 (znd pc 27
 (znd pc 20
 (znd pc 19
 (zlf pc 16 (s_gR 5 1 19))
 (zlf pc 19 (s_iload 2 20)))
 (znd pc 23
 (zlf pc 20 (s_cR (zpV 0) 44 2 [] zx0 23))
 (znd pc 26
 (zlf pc 23 (s_cast 3 26))
 (zlf pc 26 (s_astore 3 27)))))
 (znd pc 30
 (znd pc 28
 (zlf pc 27 (s_iload 2 28))
 (znd pc 29
 (zlf pc 28 (s_ic 1 29))
 (zlf pc 29 (s_iadd 30))))
 (znd pc 32
 (zlf pc 30 (s_istore 4 32))
 (znd pc 34
 (zlf pc 32 (s_iload 4 34))
 (zlf pc 34 (s_aload 0 35)))))))
 (znd pc 63
 (znd pc 46
 (znd pc 41
 (znd pc 38
 (zlf pc 35 (s_gR 5 1 38))
 (zlf pc 38 (s_cI (zpV 0) 16 1 [] zx0 41)))
 (znd pc 44
 (zlf pc 41 (s_cmpge 81 44))
 (znd pc 45
 (zlf pc 44 (s_aload 3 45))
 (zlf pc 45 (s_aload 0 46)))))
 (znd pc 54
 (znd pc 49
 (zlf pc 46 (s_gR 5 1 49))
 (znd pc 51
 (zlf pc 49 (s_iload 4 51))
 (zlf pc 51 (s_cR (zpV 0) 44 2 [] zx0 54))))
 (znd pc 57
 (zlf pc 54 (s_cast 3 57))
 (znd pc 60
 (zlf pc 57 (s_cI (zpV 3) 46 2 [] zx0 60))
 (zlf pc 60 (s_ifeq 75 63))))))
 (znd pc 75
 (znd pc 67
 (znd pc 64
 (zlf pc 63 (s_aload 3 64))
 (zlf pc 64 (s_gI 3 3 67)))
 (znd pc 69
 (zlf pc 67 (s_iload 4 69))
 (znd pc 72
 (zlf pc 69 (s_cmpeq 75 72))
 (zlf pc 72 (s_iinc 1 1 75)))))
 (znd pc 84
 (znd pc 78
 (zlf pc 75 (s_iinc 4 1 78))
 (znd pc 81
 (zlf pc 78 (s_goto 32))
 (zlf pc 81 (s_iinc 2 1 84))))
 (znd pc 87
 (zlf pc 84 (s_goto 4))
 (znd pc 88
 (zlf pc 87 (s_iload 1 88))
 (zlf pc 88 (s_rI)))))))
theorem zm_X4_pairsThatFitWrong (G : Nat × Nat) (pc : Nat) : zMon (zc_X4_pairsThatFitWrong G pc) := (mo_d (mo_d (mo_d (mo_d (mo_d (mo_l (mo_ic _ _)) (mo_l (mo_istore _ _))) (mo_d (mo_l (mo_ic _ _)) (mo_d (mo_l (mo_istore _ _)) (mo_l (mo_iload _ _))))) (mo_d (mo_d (mo_l (mo_aload _ _)) (mo_l (mo_gR _ _ _))) (mo_d (mo_l (mo_cI _ _ _ _ (zPre_V _) zHm_0)) (mo_d (mo_l (mo_cmpge _ _)) (mo_l (mo_aload _ _)))))) (mo_d (mo_d (mo_d (mo_l (mo_gR _ _ _)) (mo_l (mo_iload _ _))) (mo_d (mo_l (mo_cR _ _ _ _ (zPre_V _) zHm_0)) (mo_d (mo_l (mo_cast _ _)) (mo_l (mo_astore _ _))))) (mo_d (mo_d (mo_l (mo_iload _ _)) (mo_d (mo_l (mo_ic _ _)) (mo_l (mo_iadd _)))) (mo_d (mo_l (mo_istore _ _)) (mo_d (mo_l (mo_iload _ _)) (mo_l (mo_aload _ _))))))) (mo_d (mo_d (mo_d (mo_d (mo_l (mo_gR _ _ _)) (mo_l (mo_cI _ _ _ _ (zPre_V _) zHm_0))) (mo_d (mo_l (mo_cmpge _ _)) (mo_d (mo_l (mo_aload _ _)) (mo_l (mo_aload _ _))))) (mo_d (mo_d (mo_l (mo_gR _ _ _)) (mo_d (mo_l (mo_iload _ _)) (mo_l (mo_cR _ _ _ _ (zPre_V _) zHm_0)))) (mo_d (mo_l (mo_cast _ _)) (mo_d (mo_l (mo_cI _ _ _ _ (zPre_V _) zHm_0)) (mo_l (mo_ifeq _ _)))))) (mo_d (mo_d (mo_d (mo_l (mo_aload _ _)) (mo_l (mo_gI _ _ _))) (mo_d (mo_l (mo_iload _ _)) (mo_d (mo_l (mo_cmpeq _ _)) (mo_l (mo_iinc _ _ _))))) (mo_d (mo_d (mo_l (mo_iinc _ _ _)) (mo_d (mo_l (mo_goto _)) (mo_l (mo_iinc _ _ _)))) (mo_d (mo_l (mo_goto _)) (mo_d (mo_l (mo_iload _ _)) (mo_l (mo_rI))))))))
def zc_X11_mates (G : Nat × Nat) : Nat → zSem := fun pc =>
 znd pc 36
 (znd pc 15
 (znd pc 7
 (znd pc 2
 (znd pc 1
 (zlf pc 0 (s_aload 0 1))
 (zlf pc 1 (s_iload 1 2)))
 (znd pc 5
 (zlf pc 2 (s_cR (zpV 12) 45 2 [] zx0 5))
 (znd pc 6
 (zlf pc 5 (s_astore 3 6))
 (zlf pc 6 (s_aload 0 7)))))
 (znd pc 11
 (znd pc 8
 (zlf pc 7 (s_iload 2 8))
 (zlf pc 8 (s_cR (zpV 12) 45 2 [] zx0 11)))
 (znd pc 13
 (zlf pc 11 (s_astore 4 13))
 (znd pc 14
 (zlf pc 13 (s_iload 1 14))
 (zlf pc 14 (s_iload 2 15))))))
 (znd pc 26
 (znd pc 19
 (znd pc 18
 (zlf pc 15 (s_cmpeq 22 18))
 (zlf pc 18 (s_ic 1 19)))
 (znd pc 22
 (zlf pc 19 (s_goto 23))
 (znd pc 23
 (zlf pc 22 (s_ic 0 23))
 (zlf pc 23 (s_cV zpS 15 1 [] zx0 26)))))
 (znd pc 29
 (znd pc 27
 (zlf pc 26 (s_aload 3 27))
 (zlf pc 27 (s_aload 4 29)))
 (znd pc 32
 (zlf pc 29 (s_cI (zpV 3) 46 2 [] zx0 32))
 (znd pc 35
 (zlf pc 32 (s_ifeq 56 35))
 (zlf pc 35 (s_aload 3 36)))))))
 (znd pc 57
 (znd pc 48
 (znd pc 40
 (znd pc 39
 (zlf pc 36 (s_gI 3 3 39))
 (zlf pc 39 (s_ic (-1) 40)))
 (znd pc 43
 (zlf pc 40 (s_cmpne 56 43))
 (znd pc 45
 (zlf pc 43 (s_aload 4 45))
 (zlf pc 45 (s_gI 3 3 48)))))
 (znd pc 52
 (znd pc 49
 (zlf pc 48 (s_ic (-1) 49))
 (zlf pc 49 (s_cmpne 56 52)))
 (znd pc 53
 (zlf pc 52 (s_ic 1 53))
 (znd pc 56
 (zlf pc 53 (s_goto 57))
 (zlf pc 56 (s_ic 0 57))))))
 (znd pc 67
 (znd pc 61
 (znd pc 60
 (zlf pc 57 (s_cV zpS 17 1 [] zx0 60))
 (zlf pc 60 (s_aload 3 61)))
 (znd pc 62
 (zlf pc 61 (s_iload 2 62))
 (znd pc 65
 (zlf pc 62 (s_pI 3 3 65))
 (zlf pc 65 (s_aload 4 67)))))
 (znd pc 72
 (znd pc 68
 (zlf pc 67 (s_iload 1 68))
 (znd pc 71
 (zlf pc 68 (s_pI 3 3 71))
 (zlf pc 71 (s_aload 0 72))))
 (znd pc 75
 (zlf pc 72 (s_gR 12 0 75))
 (znd pc 78
 (zlf pc 75 (s_cI (zpV 5) 47 1 [zU, zU, zU, zU] zx0 78))
 (zlf pc 78 (s_rI)))))))
theorem zm_X11_mates (G : Nat × Nat) (pc : Nat) : zMon (zc_X11_mates G pc) := (mo_d (mo_d (mo_d (mo_d (mo_d (mo_l (mo_aload _ _)) (mo_l (mo_iload _ _))) (mo_d (mo_l (mo_cR _ _ _ _ (zPre_V _) zHm_0)) (mo_d (mo_l (mo_astore _ _)) (mo_l (mo_aload _ _))))) (mo_d (mo_d (mo_l (mo_iload _ _)) (mo_l (mo_cR _ _ _ _ (zPre_V _) zHm_0))) (mo_d (mo_l (mo_astore _ _)) (mo_d (mo_l (mo_iload _ _)) (mo_l (mo_iload _ _)))))) (mo_d (mo_d (mo_d (mo_l (mo_cmpeq _ _)) (mo_l (mo_ic _ _))) (mo_d (mo_l (mo_goto _)) (mo_d (mo_l (mo_ic _ _)) (mo_l (mo_cV _ _ _ _ zPre_S zHm_0))))) (mo_d (mo_d (mo_l (mo_aload _ _)) (mo_l (mo_aload _ _))) (mo_d (mo_l (mo_cI _ _ _ _ (zPre_V _) zHm_0)) (mo_d (mo_l (mo_ifeq _ _)) (mo_l (mo_aload _ _))))))) (mo_d (mo_d (mo_d (mo_d (mo_l (mo_gI _ _ _)) (mo_l (mo_ic _ _))) (mo_d (mo_l (mo_cmpne _ _)) (mo_d (mo_l (mo_aload _ _)) (mo_l (mo_gI _ _ _))))) (mo_d (mo_d (mo_l (mo_ic _ _)) (mo_l (mo_cmpne _ _))) (mo_d (mo_l (mo_ic _ _)) (mo_d (mo_l (mo_goto _)) (mo_l (mo_ic _ _)))))) (mo_d (mo_d (mo_d (mo_l (mo_cV _ _ _ _ zPre_S zHm_0)) (mo_l (mo_aload _ _))) (mo_d (mo_l (mo_iload _ _)) (mo_d (mo_l (mo_pI _ _ _)) (mo_l (mo_aload _ _))))) (mo_d (mo_d (mo_l (mo_iload _ _)) (mo_d (mo_l (mo_pI _ _ _)) (mo_l (mo_aload _ _)))) (mo_d (mo_l (mo_gR _ _ _)) (mo_d (mo_l (mo_cI _ _ _ _ (zPre_V _) zHm_0)) (mo_l (mo_rI))))))))
def zc_X2_isFree (G : Nat × Nat) : Nat → zSem := fun pc =>
 znd pc 7
 (znd pc 4
 (znd pc 1
 (zlf pc 0 (s_aload 0 1))
 (zlf pc 1 (s_gI 3 4 4)))
 (znd pc 5
 (zlf pc 4 (s_ic 1 5))
 (znd pc 6
 (zlf pc 5 (s_iload 1 6))
 (zlf pc 6 (s_ishl 7)))))
 (znd pc 12
 (znd pc 8
 (zlf pc 7 (s_iand 8))
 (znd pc 11
 (zlf pc 8 (s_ifne 15 11))
 (zlf pc 11 (s_ic 1 12))))
 (znd pc 15
 (zlf pc 12 (s_goto 16))
 (znd pc 16
 (zlf pc 15 (s_ic 0 16))
 (zlf pc 16 (s_rZ)))))
theorem zm_X2_isFree (G : Nat × Nat) (pc : Nat) : zMon (zc_X2_isFree G pc) := (mo_d (mo_d (mo_d (mo_l (mo_aload _ _)) (mo_l (mo_gI _ _ _))) (mo_d (mo_l (mo_ic _ _)) (mo_d (mo_l (mo_iload _ _)) (mo_l (mo_ishl _))))) (mo_d (mo_d (mo_l (mo_iand _)) (mo_d (mo_l (mo_ifne _ _)) (mo_l (mo_ic _ _)))) (mo_d (mo_l (mo_goto _)) (mo_d (mo_l (mo_ic _ _)) (mo_l (mo_rZ))))))
def zc_X8_at (G : Nat × Nat) : Nat → zSem := fun pc =>
 znd pc 13
 (znd pc 5
 (znd pc 1
 (zlf pc 0 (s_iload 1 1))
 (znd pc 4
 (zlf pc 1 (s_iflt 22 4))
 (zlf pc 4 (s_iload 1 5))))
 (znd pc 9
 (znd pc 6
 (zlf pc 5 (s_aload 0 6))
 (zlf pc 6 (s_gR 9 0 9)))
 (znd pc 10
 (zlf pc 9 (s_alen 10))
 (zlf pc 10 (s_cmpge 22 13)))))
 (znd pc 18
 (znd pc 14
 (zlf pc 13 (s_aload 0 14))
 (znd pc 17
 (zlf pc 14 (s_gR 9 0 17))
 (zlf pc 17 (s_iload 1 18))))
 (znd pc 22
 (znd pc 19
 (zlf pc 18 (s_iald 19))
 (zlf pc 19 (s_goto 23)))
 (znd pc 23
 (zlf pc 22 (s_ic 0 23))
 (zlf pc 23 (s_rI)))))
theorem zm_X8_at (G : Nat × Nat) (pc : Nat) : zMon (zc_X8_at G pc) := (mo_d (mo_d (mo_d (mo_l (mo_iload _ _)) (mo_d (mo_l (mo_iflt _ _)) (mo_l (mo_iload _ _)))) (mo_d (mo_d (mo_l (mo_aload _ _)) (mo_l (mo_gR _ _ _))) (mo_d (mo_l (mo_alen _)) (mo_l (mo_cmpge _ _))))) (mo_d (mo_d (mo_l (mo_aload _ _)) (mo_d (mo_l (mo_gR _ _ _)) (mo_l (mo_iload _ _)))) (mo_d (mo_d (mo_l (mo_iald _)) (mo_l (mo_goto _))) (mo_d (mo_l (mo_ic _ _)) (mo_l (mo_rI))))))
def zc_X1_cost (G : Nat × Nat) : Nat → zSem := fun pc =>
 znd pc 6
 (znd pc 1
 (zlf pc 0 (s_aload 0 1))
 (znd pc 4
 (zlf pc 1 (s_gI 2 3 4))
 (zlf pc 4 (s_ic 16 6))))
 (znd pc 8
 (znd pc 7
 (zlf pc 6 (s_imul 7))
 (zlf pc 7 (s_ic 1 8)))
 (znd pc 9
 (zlf pc 8 (s_iadd 9))
 (zlf pc 9 (s_rI))))
theorem zm_X1_cost (G : Nat × Nat) (pc : Nat) : zMon (zc_X1_cost G pc) := (mo_d (mo_d (mo_l (mo_aload _ _)) (mo_d (mo_l (mo_gI _ _ _)) (mo_l (mo_ic _ _)))) (mo_d (mo_d (mo_l (mo_imul _)) (mo_l (mo_ic _ _))) (mo_d (mo_l (mo_iadd _)) (mo_l (mo_rI)))))
def zc_X1_across (G : Nat × Nat) : Nat → zSem := fun pc =>
 znd pc 14
 (znd pc 8
 (znd pc 2
 (znd pc 1
 (zlf pc 0 (s_iload 1 1))
 (zlf pc 1 (s_aload 0 2)))
 (znd pc 5
 (zlf pc 2 (s_gI 2 1 5))
 (zlf pc 5 (s_cmpne 13 8))))
 (znd pc 12
 (znd pc 9
 (zlf pc 8 (s_aload 0 9))
 (zlf pc 9 (s_gI 2 2 12)))
 (znd pc 13
 (zlf pc 12 (s_rI))
 (zlf pc 13 (s_iload 1 14)))))
 (znd pc 22
 (znd pc 18
 (znd pc 15
 (zlf pc 14 (s_aload 0 15))
 (zlf pc 15 (s_gI 2 2 18)))
 (znd pc 21
 (zlf pc 18 (s_cmpne 28 21))
 (zlf pc 21 (s_aload 0 22))))
 (znd pc 28
 (znd pc 25
 (zlf pc 22 (s_gI 2 1 25))
 (zlf pc 25 (s_goto 29)))
 (znd pc 29
 (zlf pc 28 (s_ic (-1) 29))
 (zlf pc 29 (s_rI)))))
theorem zm_X1_across (G : Nat × Nat) (pc : Nat) : zMon (zc_X1_across G pc) := (mo_d (mo_d (mo_d (mo_d (mo_l (mo_iload _ _)) (mo_l (mo_aload _ _))) (mo_d (mo_l (mo_gI _ _ _)) (mo_l (mo_cmpne _ _)))) (mo_d (mo_d (mo_l (mo_aload _ _)) (mo_l (mo_gI _ _ _))) (mo_d (mo_l (mo_rI)) (mo_l (mo_iload _ _))))) (mo_d (mo_d (mo_d (mo_l (mo_aload _ _)) (mo_l (mo_gI _ _ _))) (mo_d (mo_l (mo_cmpne _ _)) (mo_l (mo_aload _ _)))) (mo_d (mo_d (mo_l (mo_gI _ _ _)) (mo_l (mo_goto _))) (mo_d (mo_l (mo_ic _ _)) (mo_l (mo_rI))))))
def zc_X4_lowerCost (G : Nat × Nat) : Nat → zSem := fun pc =>
 znd pc 17
 (znd pc 6
 (znd pc 4
 (znd pc 1
 (zlf pc 0 (s_aload 0 1))
 (zlf pc 1 (s_gR 5 3 4)))
 (znd pc 5
 (zlf pc 4 (s_iload 1 5))
 (zlf pc 5 (s_aload 0 6))))
 (znd pc 10
 (znd pc 9
 (zlf pc 6 (s_gR 5 3 9))
 (zlf pc 9 (s_iload 1 10)))
 (znd pc 13
 (zlf pc 10 (s_cI (zpV 9) 54 2 [] zx0 13))
 (znd pc 14
 (zlf pc 13 (s_aload 2 14))
 (zlf pc 14 (s_cI (zpV 2) 55 1 [] zx0 17))))))
 (znd pc 26
 (znd pc 21
 (znd pc 18
 (zlf pc 17 (s_aload 0 18))
 (zlf pc 18 (s_gR 5 3 21)))
 (znd pc 22
 (zlf pc 21 (s_aload 2 22))
 (znd pc 23
 (zlf pc 22 (s_iload 1 23))
 (zlf pc 23 (s_cI (zpV 2) 56 2 [] zx0 26)))))
 (znd pc 30
 (znd pc 29
 (zlf pc 26 (s_cI (zpV 9) 54 2 [] zx0 29))
 (zlf pc 29 (s_iadd 30)))
 (znd pc 33
 (zlf pc 30 (s_cI zpS 21 2 [] zx0 33))
 (znd pc 36
 (zlf pc 33 (s_cV (zpV 9) 7 3 [] zx0 36))
 (zlf pc 36 (s_rV))))))
theorem zm_X4_lowerCost (G : Nat × Nat) (pc : Nat) : zMon (zc_X4_lowerCost G pc) := (mo_d (mo_d (mo_d (mo_d (mo_l (mo_aload _ _)) (mo_l (mo_gR _ _ _))) (mo_d (mo_l (mo_iload _ _)) (mo_l (mo_aload _ _)))) (mo_d (mo_d (mo_l (mo_gR _ _ _)) (mo_l (mo_iload _ _))) (mo_d (mo_l (mo_cI _ _ _ _ (zPre_V _) zHm_0)) (mo_d (mo_l (mo_aload _ _)) (mo_l (mo_cI _ _ _ _ (zPre_V _) zHm_0)))))) (mo_d (mo_d (mo_d (mo_l (mo_aload _ _)) (mo_l (mo_gR _ _ _))) (mo_d (mo_l (mo_aload _ _)) (mo_d (mo_l (mo_iload _ _)) (mo_l (mo_cI _ _ _ _ (zPre_V _) zHm_0))))) (mo_d (mo_d (mo_l (mo_cI _ _ _ _ (zPre_V _) zHm_0)) (mo_l (mo_iadd _))) (mo_d (mo_l (mo_cI _ _ _ _ zPre_S zHm_0)) (mo_d (mo_l (mo_cV _ _ _ _ (zPre_V _) zHm_0)) (mo_l (mo_rV)))))))
def zc_X4_findCosts (G : Nat × Nat) : Nat → zSem := fun pc =>
 znd pc 40
 (znd pc 20
 (znd pc 10
 (znd pc 4
 (znd pc 1
 (zlf pc 0 (s_aload 0 1))
 (zlf pc 1 (s_gR 5 3 4)))
 (znd pc 6
 (zlf pc 4 (s_ic 1000000 6))
 (znd pc 9
 (zlf pc 6 (s_cV (zpV 9) 8 2 [zU] zx0 9))
 (zlf pc 9 (s_aload 0 10)))))
 (znd pc 15
 (znd pc 13
 (zlf pc 10 (s_gR 5 3 13))
 (znd pc 14
 (zlf pc 13 (s_iload 1 14))
 (zlf pc 14 (s_ic 0 15))))
 (znd pc 18
 (zlf pc 15 (s_cV (zpV 9) 7 3 [] zx0 18))
 (znd pc 19
 (zlf pc 18 (s_ic 1 19))
 (zlf pc 19 (s_istore 2 20))))))
 (znd pc 28
 (znd pc 23
 (znd pc 21
 (zlf pc 20 (s_iload 2 21))
 (zlf pc 21 (s_ic 8 23)))
 (znd pc 26
 (zlf pc 23 (s_cmpge 94 26))
 (znd pc 27
 (zlf pc 26 (s_ic 0 27))
 (zlf pc 27 (s_istore 3 28)))))
 (znd pc 33
 (znd pc 29
 (zlf pc 28 (s_iload 3 29))
 (znd pc 30
 (zlf pc 29 (s_aload 0 30))
 (zlf pc 30 (s_gR 5 0 33))))
 (znd pc 36
 (zlf pc 33 (s_cI (zpV 0) 16 1 [] zx0 36))
 (znd pc 39
 (zlf pc 36 (s_cmpge 88 39))
 (zlf pc 39 (s_aload 0 40)))))))
 (znd pc 66
 (znd pc 52
 (znd pc 44
 (znd pc 43
 (zlf pc 40 (s_gR 5 0 43))
 (zlf pc 43 (s_iload 3 44)))
 (znd pc 47
 (zlf pc 44 (s_cR (zpV 0) 44 2 [] zx0 47))
 (znd pc 50
 (zlf pc 47 (s_cast 2 50))
 (zlf pc 50 (s_astore 4 52)))))
 (znd pc 60
 (znd pc 54
 (zlf pc 52 (s_aload 4 54))
 (znd pc 57
 (zlf pc 54 (s_gI 2 4 57))
 (zlf pc 57 (s_ifle 82 60))))
 (znd pc 61
 (zlf pc 60 (s_aload 0 61))
 (znd pc 63
 (zlf pc 61 (s_aload 4 63))
 (zlf pc 63 (s_gI 2 1 66))))))
 (znd pc 79
 (znd pc 72
 (znd pc 68
 (zlf pc 66 (s_aload 4 68))
 (znd pc 71
 (zlf pc 68 (s_cV (zpV 5) 57 3 [] zx0 71))
 (zlf pc 71 (s_aload 0 72))))
 (znd pc 74
 (zlf pc 72 (s_aload 4 74))
 (znd pc 77
 (zlf pc 74 (s_gI 2 2 77))
 (zlf pc 77 (s_aload 4 79)))))
 (znd pc 88
 (znd pc 82
 (zlf pc 79 (s_cV (zpV 5) 57 3 [] zx0 82))
 (znd pc 85
 (zlf pc 82 (s_iinc 3 1 85))
 (zlf pc 85 (s_goto 28))))
 (znd pc 91
 (zlf pc 88 (s_iinc 2 1 91))
 (znd pc 94
 (zlf pc 91 (s_goto 20))
 (zlf pc 94 (s_rV)))))))
theorem zm_X4_findCosts (G : Nat × Nat) (pc : Nat) : zMon (zc_X4_findCosts G pc) := (mo_d (mo_d (mo_d (mo_d (mo_d (mo_l (mo_aload _ _)) (mo_l (mo_gR _ _ _))) (mo_d (mo_l (mo_ic _ _)) (mo_d (mo_l (mo_cV _ _ _ _ (zPre_V _) zHm_0)) (mo_l (mo_aload _ _))))) (mo_d (mo_d (mo_l (mo_gR _ _ _)) (mo_d (mo_l (mo_iload _ _)) (mo_l (mo_ic _ _)))) (mo_d (mo_l (mo_cV _ _ _ _ (zPre_V _) zHm_0)) (mo_d (mo_l (mo_ic _ _)) (mo_l (mo_istore _ _)))))) (mo_d (mo_d (mo_d (mo_l (mo_iload _ _)) (mo_l (mo_ic _ _))) (mo_d (mo_l (mo_cmpge _ _)) (mo_d (mo_l (mo_ic _ _)) (mo_l (mo_istore _ _))))) (mo_d (mo_d (mo_l (mo_iload _ _)) (mo_d (mo_l (mo_aload _ _)) (mo_l (mo_gR _ _ _)))) (mo_d (mo_l (mo_cI _ _ _ _ (zPre_V _) zHm_0)) (mo_d (mo_l (mo_cmpge _ _)) (mo_l (mo_aload _ _))))))) (mo_d (mo_d (mo_d (mo_d (mo_l (mo_gR _ _ _)) (mo_l (mo_iload _ _))) (mo_d (mo_l (mo_cR _ _ _ _ (zPre_V _) zHm_0)) (mo_d (mo_l (mo_cast _ _)) (mo_l (mo_astore _ _))))) (mo_d (mo_d (mo_l (mo_aload _ _)) (mo_d (mo_l (mo_gI _ _ _)) (mo_l (mo_ifle _ _)))) (mo_d (mo_l (mo_aload _ _)) (mo_d (mo_l (mo_aload _ _)) (mo_l (mo_gI _ _ _)))))) (mo_d (mo_d (mo_d (mo_l (mo_aload _ _)) (mo_d (mo_l (mo_cV _ _ _ _ (zPre_V _) zHm_0)) (mo_l (mo_aload _ _)))) (mo_d (mo_l (mo_aload _ _)) (mo_d (mo_l (mo_gI _ _ _)) (mo_l (mo_aload _ _))))) (mo_d (mo_d (mo_l (mo_cV _ _ _ _ (zPre_V _) zHm_0)) (mo_d (mo_l (mo_iinc _ _ _)) (mo_l (mo_goto _)))) (mo_d (mo_l (mo_iinc _ _ _)) (mo_d (mo_l (mo_goto _)) (mo_l (mo_rV))))))))
def zc_X4_hasWay (G : Nat × Nat) : Nat → zSem := fun pc =>
 znd pc 10
 (znd pc 5
 (znd pc 1
 (zlf pc 0 (s_aload 0 1))
 (znd pc 2
 (zlf pc 1 (s_iload 2 2))
 (zlf pc 2 (s_cV (zpV 5) 58 2 [zU, zU, zU] zx0 5))))
 (znd pc 6
 (zlf pc 5 (s_aload 0 6))
 (znd pc 9
 (zlf pc 6 (s_gR 5 3 9))
 (zlf pc 9 (s_iload 1 10)))))
 (znd pc 18
 (znd pc 13
 (zlf pc 10 (s_cI (zpV 9) 54 2 [] zx0 13))
 (znd pc 15
 (zlf pc 13 (s_ic 1000000 15))
 (zlf pc 15 (s_cmpge 22 18))))
 (znd pc 22
 (znd pc 19
 (zlf pc 18 (s_ic 1 19))
 (zlf pc 19 (s_goto 23)))
 (znd pc 23
 (zlf pc 22 (s_ic 0 23))
 (zlf pc 23 (s_rZ)))))
theorem zm_X4_hasWay (G : Nat × Nat) (pc : Nat) : zMon (zc_X4_hasWay G pc) := (mo_d (mo_d (mo_d (mo_l (mo_aload _ _)) (mo_d (mo_l (mo_iload _ _)) (mo_l (mo_cV _ _ _ _ (zPre_V _) zHm_0)))) (mo_d (mo_l (mo_aload _ _)) (mo_d (mo_l (mo_gR _ _ _)) (mo_l (mo_iload _ _))))) (mo_d (mo_d (mo_l (mo_cI _ _ _ _ (zPre_V _) zHm_0)) (mo_d (mo_l (mo_ic _ _)) (mo_l (mo_cmpge _ _)))) (mo_d (mo_d (mo_l (mo_ic _ _)) (mo_l (mo_goto _))) (mo_d (mo_l (mo_ic _ _)) (mo_l (mo_rZ))))))
def zc_X10_init (G : Nat × Nat) : Nat → zSem := fun pc =>
 znd pc 19
 (znd pc 9
 (znd pc 4
 (znd pc 1
 (zlf pc 0 (s_aload 0 1))
 (zlf pc 1 (s_obj 4)))
 (znd pc 5
 (zlf pc 4 (s_aload 0 5))
 (znd pc 6
 (zlf pc 5 (s_aload 1 6))
 (zlf pc 6 (s_pR 11 0 9)))))
 (znd pc 14
 (znd pc 10
 (zlf pc 9 (s_aload 0 10))
 (znd pc 11
 (zlf pc 10 (s_iload 2 11))
 (zlf pc 11 (s_pI 11 1 14))))
 (znd pc 15
 (zlf pc 14 (s_aload 0 15))
 (znd pc 16
 (zlf pc 15 (s_aload 3 16))
 (zlf pc 16 (s_pR 11 2 19))))))
 (znd pc 31
 (znd pc 25
 (znd pc 20
 (zlf pc 19 (s_aload 0 20))
 (znd pc 22
 (zlf pc 20 (s_iload 4 22))
 (zlf pc 22 (s_pI 11 3 25))))
 (znd pc 26
 (zlf pc 25 (s_aload 0 26))
 (znd pc 28
 (zlf pc 26 (s_iload 5 28))
 (zlf pc 28 (s_pI 11 4 31)))))
 (znd pc 36
 (znd pc 32
 (zlf pc 31 (s_aload 0 32))
 (znd pc 35
 (zlf pc 32 (s_new 0 3 [.int 0, .null, .int 0] 35))
 (zlf pc 35 (s_dup 36))))
 (znd pc 39
 (zlf pc 36 (s_cV zpI 2 1 [] zx0 39))
 (znd pc 42
 (zlf pc 39 (s_pR 11 7 42))
 (zlf pc 42 (s_rV))))))
theorem zm_X10_init (G : Nat × Nat) (pc : Nat) : zMon (zc_X10_init G pc) := (mo_d (mo_d (mo_d (mo_d (mo_l (mo_aload _ _)) (mo_l (mo_obj _))) (mo_d (mo_l (mo_aload _ _)) (mo_d (mo_l (mo_aload _ _)) (mo_l (mo_pR _ _ _))))) (mo_d (mo_d (mo_l (mo_aload _ _)) (mo_d (mo_l (mo_iload _ _)) (mo_l (mo_pI _ _ _)))) (mo_d (mo_l (mo_aload _ _)) (mo_d (mo_l (mo_aload _ _)) (mo_l (mo_pR _ _ _)))))) (mo_d (mo_d (mo_d (mo_l (mo_aload _ _)) (mo_d (mo_l (mo_iload _ _)) (mo_l (mo_pI _ _ _)))) (mo_d (mo_l (mo_aload _ _)) (mo_d (mo_l (mo_iload _ _)) (mo_l (mo_pI _ _ _))))) (mo_d (mo_d (mo_l (mo_aload _ _)) (mo_d (mo_l (mo_new _ _ _ _)) (mo_l (mo_dup _)))) (mo_d (mo_l (mo_cV _ _ _ _ zPre_I zHm_0)) (mo_d (mo_l (mo_pR _ _ _)) (mo_l (mo_rV)))))))
def zc_X2_take (G : Nat × Nat) : Nat → zSem := fun pc =>
 znd pc 6
 (znd pc 2
 (znd pc 1
 (zlf pc 0 (s_aload 0 1))
 (zlf pc 1 (s_dup 2)))
 (znd pc 5
 (zlf pc 2 (s_gI 3 4 5))
 (zlf pc 5 (s_ic 1 6))))
 (znd pc 8
 (znd pc 7
 (zlf pc 6 (s_iload 1 7))
 (zlf pc 7 (s_ishl 8)))
 (znd pc 9
 (zlf pc 8 (s_ior 9))
 (znd pc 12
 (zlf pc 9 (s_pI 3 4 12))
 (zlf pc 12 (s_rV)))))
theorem zm_X2_take (G : Nat × Nat) (pc : Nat) : zMon (zc_X2_take G pc) := (mo_d (mo_d (mo_d (mo_l (mo_aload _ _)) (mo_l (mo_dup _))) (mo_d (mo_l (mo_gI _ _ _)) (mo_l (mo_ic _ _)))) (mo_d (mo_d (mo_l (mo_iload _ _)) (mo_l (mo_ishl _))) (mo_d (mo_l (mo_ior _)) (mo_d (mo_l (mo_pI _ _ _)) (mo_l (mo_rV))))))
def zc_X10_putIn (G : Nat × Nat) : Nat → zSem := fun pc =>
 znd pc 11
 (znd pc 4
 (znd pc 1
 (zlf pc 0 (s_aload 0 1))
 (zlf pc 1 (s_gR 11 0 4)))
 (znd pc 5
 (zlf pc 4 (s_aload 0 5))
 (znd pc 8
 (zlf pc 5 (s_gI 11 1 8))
 (zlf pc 8 (s_cV (zpV 3) 61 2 [] zx0 11)))))
 (znd pc 16
 (znd pc 12
 (zlf pc 11 (s_aload 0 12))
 (znd pc 15
 (zlf pc 12 (s_gR 11 2 15))
 (zlf pc 15 (s_aload 0 16))))
 (znd pc 19
 (zlf pc 16 (s_gI 11 3 19))
 (znd pc 22
 (zlf pc 19 (s_cV (zpV 3) 61 2 [] zx0 22))
 (zlf pc 22 (s_rV)))))
theorem zm_X10_putIn (G : Nat × Nat) (pc : Nat) : zMon (zc_X10_putIn G pc) := (mo_d (mo_d (mo_d (mo_l (mo_aload _ _)) (mo_l (mo_gR _ _ _))) (mo_d (mo_l (mo_aload _ _)) (mo_d (mo_l (mo_gI _ _ _)) (mo_l (mo_cV _ _ _ _ (zPre_V _) zHm_0))))) (mo_d (mo_d (mo_l (mo_aload _ _)) (mo_d (mo_l (mo_gR _ _ _)) (mo_l (mo_aload _ _)))) (mo_d (mo_l (mo_gI _ _ _)) (mo_d (mo_l (mo_cV _ _ _ _ (zPre_V _) zHm_0)) (mo_l (mo_rV))))))
def zc_X4_lowestOnward (G : Nat × Nat) : Nat → zSem := fun pc =>
 znd pc 39
 (znd pc 18
 (znd pc 7
 (znd pc 2
 (znd pc 1
 (zlf pc 0 (s_ic 0 1))
 (zlf pc 1 (s_istore 2 2)))
 (znd pc 3
 (zlf pc 2 (s_iload 2 3))
 (znd pc 4
 (zlf pc 3 (s_aload 0 4))
 (zlf pc 4 (s_gR 5 0 7)))))
 (znd pc 13
 (znd pc 10
 (zlf pc 7 (s_cI (zpV 0) 16 1 [] zx0 10))
 (zlf pc 10 (s_cmpge 78 13)))
 (znd pc 14
 (zlf pc 13 (s_aload 0 14))
 (znd pc 17
 (zlf pc 14 (s_gR 5 0 17))
 (zlf pc 17 (s_iload 2 18))))))
 (znd pc 27
 (znd pc 24
 (znd pc 21
 (zlf pc 18 (s_cR (zpV 0) 44 2 [] zx0 21))
 (zlf pc 21 (s_cast 2 24)))
 (znd pc 25
 (zlf pc 24 (s_astore 3 25))
 (znd pc 26
 (zlf pc 25 (s_aload 3 26))
 (zlf pc 26 (s_iload 1 27)))))
 (znd pc 32
 (znd pc 30
 (zlf pc 27 (s_cI (zpV 2) 56 2 [] zx0 30))
 (zlf pc 30 (s_istore 4 32)))
 (znd pc 33
 (zlf pc 32 (s_aload 3 33))
 (znd pc 36
 (zlf pc 33 (s_gI 2 4 36))
 (zlf pc 36 (s_ifle 72 39)))))))
 (znd pc 59
 (znd pc 49
 (znd pc 42
 (znd pc 41
 (zlf pc 39 (s_iload 4 41))
 (zlf pc 41 (s_ic (-1) 42)))
 (znd pc 45
 (zlf pc 42 (s_cmpeq 72 45))
 (znd pc 46
 (zlf pc 45 (s_aload 3 46))
 (zlf pc 46 (s_cI (zpV 2) 55 1 [] zx0 49)))))
 (znd pc 53
 (znd pc 50
 (zlf pc 49 (s_aload 0 50))
 (zlf pc 50 (s_gR 5 3 53)))
 (znd pc 55
 (zlf pc 53 (s_iload 4 55))
 (znd pc 58
 (zlf pc 55 (s_cI (zpV 9) 54 2 [] zx0 58))
 (zlf pc 58 (s_iadd 59))))))
 (znd pc 70
 (znd pc 63
 (znd pc 60
 (zlf pc 59 (s_aload 0 60))
 (zlf pc 60 (s_gR 5 3 63)))
 (znd pc 64
 (zlf pc 63 (s_iload 1 64))
 (znd pc 67
 (zlf pc 64 (s_cI (zpV 9) 54 2 [] zx0 67))
 (zlf pc 67 (s_cmpne 72 70)))))
 (znd pc 75
 (znd pc 71
 (zlf pc 70 (s_aload 3 71))
 (znd pc 72
 (zlf pc 71 (s_rR))
 (zlf pc 72 (s_iinc 2 1 75))))
 (znd pc 78
 (zlf pc 75 (s_goto 2))
 (znd pc 79
 (zlf pc 78 (s_null 79))
 (zlf pc 79 (s_rR)))))))
theorem zm_X4_lowestOnward (G : Nat × Nat) (pc : Nat) : zMon (zc_X4_lowestOnward G pc) := (mo_d (mo_d (mo_d (mo_d (mo_d (mo_l (mo_ic _ _)) (mo_l (mo_istore _ _))) (mo_d (mo_l (mo_iload _ _)) (mo_d (mo_l (mo_aload _ _)) (mo_l (mo_gR _ _ _))))) (mo_d (mo_d (mo_l (mo_cI _ _ _ _ (zPre_V _) zHm_0)) (mo_l (mo_cmpge _ _))) (mo_d (mo_l (mo_aload _ _)) (mo_d (mo_l (mo_gR _ _ _)) (mo_l (mo_iload _ _)))))) (mo_d (mo_d (mo_d (mo_l (mo_cR _ _ _ _ (zPre_V _) zHm_0)) (mo_l (mo_cast _ _))) (mo_d (mo_l (mo_astore _ _)) (mo_d (mo_l (mo_aload _ _)) (mo_l (mo_iload _ _))))) (mo_d (mo_d (mo_l (mo_cI _ _ _ _ (zPre_V _) zHm_0)) (mo_l (mo_istore _ _))) (mo_d (mo_l (mo_aload _ _)) (mo_d (mo_l (mo_gI _ _ _)) (mo_l (mo_ifle _ _))))))) (mo_d (mo_d (mo_d (mo_d (mo_l (mo_iload _ _)) (mo_l (mo_ic _ _))) (mo_d (mo_l (mo_cmpeq _ _)) (mo_d (mo_l (mo_aload _ _)) (mo_l (mo_cI _ _ _ _ (zPre_V _) zHm_0))))) (mo_d (mo_d (mo_l (mo_aload _ _)) (mo_l (mo_gR _ _ _))) (mo_d (mo_l (mo_iload _ _)) (mo_d (mo_l (mo_cI _ _ _ _ (zPre_V _) zHm_0)) (mo_l (mo_iadd _)))))) (mo_d (mo_d (mo_d (mo_l (mo_aload _ _)) (mo_l (mo_gR _ _ _))) (mo_d (mo_l (mo_iload _ _)) (mo_d (mo_l (mo_cI _ _ _ _ (zPre_V _) zHm_0)) (mo_l (mo_cmpne _ _))))) (mo_d (mo_d (mo_l (mo_aload _ _)) (mo_d (mo_l (mo_rR)) (mo_l (mo_iinc _ _ _)))) (mo_d (mo_l (mo_goto _)) (mo_d (mo_l (mo_null _)) (mo_l (mo_rR))))))))
def zc_X10_goBy (G : Nat × Nat) : Nat → zSem := fun pc =>
 znd pc 15
 (znd pc 8
 (znd pc 4
 (znd pc 1
 (zlf pc 0 (s_aload 0 1))
 (zlf pc 1 (s_gR 11 7 4)))
 (znd pc 5
 (zlf pc 4 (s_aload 1 5))
 (zlf pc 5 (s_cI (zpV 0) 27 2 [] zx0 8))))
 (znd pc 10
 (znd pc 9
 (zlf pc 8 (s_pop 9))
 (zlf pc 9 (s_aload 1 10)))
 (znd pc 11
 (zlf pc 10 (s_dup 11))
 (znd pc 14
 (zlf pc 11 (s_gI 2 4 14))
 (zlf pc 14 (s_ic 1 15))))))
 (znd pc 24
 (znd pc 19
 (znd pc 16
 (zlf pc 15 (s_isub 16))
 (zlf pc 16 (s_pI 2 4 19)))
 (znd pc 20
 (zlf pc 19 (s_aload 0 20))
 (znd pc 21
 (zlf pc 20 (s_dup 21))
 (zlf pc 21 (s_gI 11 5 24)))))
 (znd pc 28
 (znd pc 25
 (zlf pc 24 (s_aload 1 25))
 (zlf pc 25 (s_gI 2 3 28)))
 (znd pc 29
 (zlf pc 28 (s_iadd 29))
 (znd pc 32
 (zlf pc 29 (s_pI 11 5 32))
 (zlf pc 32 (s_rV))))))
theorem zm_X10_goBy (G : Nat × Nat) (pc : Nat) : zMon (zc_X10_goBy G pc) := (mo_d (mo_d (mo_d (mo_d (mo_l (mo_aload _ _)) (mo_l (mo_gR _ _ _))) (mo_d (mo_l (mo_aload _ _)) (mo_l (mo_cI _ _ _ _ (zPre_V _) zHm_0)))) (mo_d (mo_d (mo_l (mo_pop _)) (mo_l (mo_aload _ _))) (mo_d (mo_l (mo_dup _)) (mo_d (mo_l (mo_gI _ _ _)) (mo_l (mo_ic _ _)))))) (mo_d (mo_d (mo_d (mo_l (mo_isub _)) (mo_l (mo_pI _ _ _))) (mo_d (mo_l (mo_aload _ _)) (mo_d (mo_l (mo_dup _)) (mo_l (mo_gI _ _ _))))) (mo_d (mo_d (mo_l (mo_aload _ _)) (mo_l (mo_gI _ _ _))) (mo_d (mo_l (mo_iadd _)) (mo_d (mo_l (mo_pI _ _ _)) (mo_l (mo_rV)))))))
def zc_X4_layAlong (G : Nat × Nat) : Nat → zSem := fun pc =>
 znd pc 35
 (znd pc 19
 (znd pc 8
 (znd pc 2
 (znd pc 1
 (zlf pc 0 (s_aload 0 1))
 (zlf pc 1 (s_aload 1 2)))
 (znd pc 5
 (zlf pc 2 (s_gR 11 2 5))
 (zlf pc 5 (s_gI 3 0 8))))
 (znd pc 12
 (znd pc 11
 (zlf pc 8 (s_cV (zpV 5) 58 2 [zU, zU, zU] zx0 11))
 (zlf pc 11 (s_aload 1 12)))
 (znd pc 15
 (zlf pc 12 (s_gR 11 0 15))
 (znd pc 18
 (zlf pc 15 (s_gI 3 0 18))
 (zlf pc 18 (s_istore 2 19))))))
 (znd pc 24
 (znd pc 21
 (znd pc 20
 (zlf pc 19 (s_ic 1 20))
 (zlf pc 20 (s_istore 3 21)))
 (znd pc 22
 (zlf pc 21 (s_iload 3 22))
 (zlf pc 22 (s_ic 8 24))))
 (znd pc 28
 (znd pc 27
 (zlf pc 24 (s_cmpge 70 27))
 (zlf pc 27 (s_iload 2 28)))
 (znd pc 29
 (zlf pc 28 (s_aload 1 29))
 (znd pc 32
 (zlf pc 29 (s_gR 11 2 32))
 (zlf pc 32 (s_gI 3 0 35)))))))
 (znd pc 52
 (znd pc 43
 (znd pc 39
 (znd pc 38
 (zlf pc 35 (s_cmpeq 70 38))
 (zlf pc 38 (s_aload 0 39)))
 (znd pc 40
 (zlf pc 39 (s_iload 2 40))
 (zlf pc 40 (s_cN (zpV 5) 63 2 [zU, zU, zU] zx0 43))))
 (znd pc 47
 (znd pc 45
 (zlf pc 43 (s_astore 4 45))
 (zlf pc 45 (s_aload 4 47)))
 (znd pc 50
 (zlf pc 47 (s_nonnull 51 50))
 (znd pc 51
 (zlf pc 50 (s_rV))
 (zlf pc 51 (s_aload 1 52))))))
 (znd pc 60
 (znd pc 57
 (znd pc 54
 (zlf pc 52 (s_aload 4 54))
 (zlf pc 54 (s_cV (zpV 11) 64 2 [] zx0 57)))
 (znd pc 59
 (zlf pc 57 (s_aload 4 59))
 (zlf pc 59 (s_iload 2 60))))
 (znd pc 64
 (znd pc 63
 (zlf pc 60 (s_cI (zpV 2) 56 2 [] zx0 63))
 (zlf pc 63 (s_istore 2 64)))
 (znd pc 67
 (zlf pc 64 (s_iinc 3 1 67))
 (znd pc 70
 (zlf pc 67 (s_goto 21))
 (zlf pc 70 (s_rV)))))))
theorem zm_X4_layAlong (G : Nat × Nat) (pc : Nat) : zMon (zc_X4_layAlong G pc) := (mo_d (mo_d (mo_d (mo_d (mo_d (mo_l (mo_aload _ _)) (mo_l (mo_aload _ _))) (mo_d (mo_l (mo_gR _ _ _)) (mo_l (mo_gI _ _ _)))) (mo_d (mo_d (mo_l (mo_cV _ _ _ _ (zPre_V _) zHm_0)) (mo_l (mo_aload _ _))) (mo_d (mo_l (mo_gR _ _ _)) (mo_d (mo_l (mo_gI _ _ _)) (mo_l (mo_istore _ _)))))) (mo_d (mo_d (mo_d (mo_l (mo_ic _ _)) (mo_l (mo_istore _ _))) (mo_d (mo_l (mo_iload _ _)) (mo_l (mo_ic _ _)))) (mo_d (mo_d (mo_l (mo_cmpge _ _)) (mo_l (mo_iload _ _))) (mo_d (mo_l (mo_aload _ _)) (mo_d (mo_l (mo_gR _ _ _)) (mo_l (mo_gI _ _ _))))))) (mo_d (mo_d (mo_d (mo_d (mo_l (mo_cmpeq _ _)) (mo_l (mo_aload _ _))) (mo_d (mo_l (mo_iload _ _)) (mo_l (mo_cN _ _ _ _ (zPre_V _) zHm_0)))) (mo_d (mo_d (mo_l (mo_astore _ _)) (mo_l (mo_aload _ _))) (mo_d (mo_l (mo_nonnull _ _)) (mo_d (mo_l (mo_rV)) (mo_l (mo_aload _ _)))))) (mo_d (mo_d (mo_d (mo_l (mo_aload _ _)) (mo_l (mo_cV _ _ _ _ (zPre_V _) zHm_0))) (mo_d (mo_l (mo_aload _ _)) (mo_l (mo_iload _ _)))) (mo_d (mo_d (mo_l (mo_cI _ _ _ _ (zPre_V _) zHm_0)) (mo_l (mo_istore _ _))) (mo_d (mo_l (mo_iinc _ _ _)) (mo_d (mo_l (mo_goto _)) (mo_l (mo_rV))))))))
def zc_X4_addWire (G : Nat × Nat) : Nat → zSem := fun pc =>
 znd pc 14
 (znd pc 6
 (znd pc 4
 (znd pc 1
 (zlf pc 0 (s_aload 1 1))
 (zlf pc 1 (s_cV (zpV 11) 62 1 [] zx0 4)))
 (znd pc 5
 (zlf pc 4 (s_aload 0 5))
 (zlf pc 5 (s_aload 1 6))))
 (znd pc 10
 (znd pc 9
 (zlf pc 6 (s_cV (zpV 5) 65 2 [zU, zU, zU] zx0 9))
 (zlf pc 9 (s_aload 0 10)))
 (znd pc 13
 (zlf pc 10 (s_gR 5 2 13))
 (zlf pc 13 (s_aload 1 14)))))
 (znd pc 22
 (znd pc 18
 (znd pc 17
 (zlf pc 14 (s_cI (zpV 0) 27 2 [] zx0 17))
 (zlf pc 17 (s_pop 18)))
 (znd pc 19
 (zlf pc 18 (s_aload 0 19))
 (zlf pc 19 (s_gR 5 2 22))))
 (znd pc 26
 (znd pc 25
 (zlf pc 22 (s_cI (zpV 0) 16 1 [] zx0 25))
 (zlf pc 25 (s_ic 1 26)))
 (znd pc 27
 (zlf pc 26 (s_isub 27))
 (zlf pc 27 (s_rI)))))
theorem zm_X4_addWire (G : Nat × Nat) (pc : Nat) : zMon (zc_X4_addWire G pc) := (mo_d (mo_d (mo_d (mo_d (mo_l (mo_aload _ _)) (mo_l (mo_cV _ _ _ _ (zPre_V _) zHm_0))) (mo_d (mo_l (mo_aload _ _)) (mo_l (mo_aload _ _)))) (mo_d (mo_d (mo_l (mo_cV _ _ _ _ (zPre_V _) zHm_0)) (mo_l (mo_aload _ _))) (mo_d (mo_l (mo_gR _ _ _)) (mo_l (mo_aload _ _))))) (mo_d (mo_d (mo_d (mo_l (mo_cI _ _ _ _ (zPre_V _) zHm_0)) (mo_l (mo_pop _))) (mo_d (mo_l (mo_aload _ _)) (mo_l (mo_gR _ _ _)))) (mo_d (mo_d (mo_l (mo_cI _ _ _ _ (zPre_V _) zHm_0)) (mo_l (mo_ic _ _))) (mo_d (mo_l (mo_isub _)) (mo_l (mo_rI))))))
def zc_X11_wire (G : Nat × Nat) : Nat → zSem := fun pc =>
 znd pc 79
 (znd pc 39
 (znd pc 15
 (znd pc 7
 (znd pc 2
 (znd pc 1
 (zlf pc 0 (s_aload 0 1))
 (zlf pc 1 (s_iload 1 2)))
 (znd pc 5
 (zlf pc 2 (s_cR (zpV 12) 45 2 [] zx0 5))
 (zlf pc 5 (s_astore 6 7))))
 (znd pc 9
 (znd pc 8
 (zlf pc 7 (s_aload 0 8))
 (zlf pc 8 (s_iload 3 9)))
 (znd pc 12
 (zlf pc 9 (s_cR (zpV 12) 45 2 [] zx0 12))
 (znd pc 14
 (zlf pc 12 (s_astore 7 14))
 (zlf pc 14 (s_iload 2 15))))))
 (znd pc 26
 (znd pc 20
 (znd pc 17
 (zlf pc 15 (s_aload 6 17))
 (zlf pc 17 (s_gI 3 1 20)))
 (znd pc 23
 (zlf pc 20 (s_cI zpS 12 2 [] zx0 23))
 (zlf pc 23 (s_ifeq 43 26))))
 (znd pc 30
 (znd pc 28
 (zlf pc 26 (s_iload 4 28))
 (zlf pc 28 (s_aload 7 30)))
 (znd pc 33
 (zlf pc 30 (s_gI 3 1 33))
 (znd pc 36
 (zlf pc 33 (s_cI zpS 12 2 [] zx0 36))
 (zlf pc 36 (s_ifeq 43 39)))))))
 (znd pc 56
 (znd pc 47
 (znd pc 43
 (znd pc 40
 (zlf pc 39 (s_ic 1 40))
 (zlf pc 40 (s_goto 44)))
 (znd pc 44
 (zlf pc 43 (s_ic 0 44))
 (zlf pc 44 (s_cV zpS 13 1 [] zx0 47))))
 (znd pc 49
 (znd pc 48
 (zlf pc 47 (s_iload 1 48))
 (zlf pc 48 (s_iload 3 49)))
 (znd pc 52
 (zlf pc 49 (s_cmpeq 66 52))
 (znd pc 54
 (zlf pc 52 (s_iload 5 54))
 (zlf pc 54 (s_ic 8 56))))))
 (znd pc 67
 (znd pc 62
 (znd pc 59
 (zlf pc 56 (s_cI zpS 12 2 [] zx0 59))
 (zlf pc 59 (s_ifeq 66 62)))
 (znd pc 63
 (zlf pc 62 (s_ic 1 63))
 (znd pc 66
 (zlf pc 63 (s_goto 67))
 (zlf pc 66 (s_ic 0 67)))))
 (znd pc 72
 (znd pc 70
 (zlf pc 67 (s_cV zpS 15 1 [] zx0 70))
 (zlf pc 70 (s_aload 6 72)))
 (znd pc 73
 (zlf pc 72 (s_iload 2 73))
 (znd pc 76
 (zlf pc 73 (s_cI (zpV 3) 53 2 [] zx0 76))
 (zlf pc 76 (s_ifeq 93 79))))))))
 (znd pc 123
 (znd pc 98
 (znd pc 89
 (znd pc 83
 (znd pc 81
 (zlf pc 79 (s_aload 7 81))
 (zlf pc 81 (s_iload 4 83)))
 (znd pc 86
 (zlf pc 83 (s_cI (zpV 3) 53 2 [] zx0 86))
 (zlf pc 86 (s_ifeq 93 89))))
 (znd pc 93
 (znd pc 90
 (zlf pc 89 (s_ic 1 90))
 (zlf pc 90 (s_goto 94)))
 (znd pc 94
 (zlf pc 93 (s_ic 0 94))
 (znd pc 97
 (zlf pc 94 (s_cV zpS 17 1 [] zx0 97))
 (zlf pc 97 (s_aload 0 98))))))
 (znd pc 112
 (znd pc 104
 (znd pc 101
 (zlf pc 98 (s_gR 12 0 101))
 (zlf pc 101 (s_gR 5 2 104)))
 (znd pc 107
 (zlf pc 104 (s_cI (zpV 0) 16 1 [] zx0 107))
 (znd pc 109
 (zlf pc 107 (s_ic 24 109))
 (zlf pc 109 (s_cmpge 136 112)))))
 (znd pc 116
 (znd pc 113
 (zlf pc 112 (s_aload 0 113))
 (zlf pc 113 (s_gR 12 0 116)))
 (znd pc 118
 (zlf pc 116 (s_aload 6 118))
 (znd pc 121
 (zlf pc 118 (s_gI 3 0 121))
 (zlf pc 121 (s_aload 7 123)))))))
 (znd pc 144
 (znd pc 133
 (znd pc 129
 (znd pc 126
 (zlf pc 123 (s_gI 3 0 126))
 (zlf pc 126 (s_cI (zpV 5) 59 3 [] zx0 129)))
 (znd pc 132
 (zlf pc 129 (s_ifeq 136 132))
 (zlf pc 132 (s_ic 1 133))))
 (znd pc 137
 (znd pc 136
 (zlf pc 133 (s_goto 137))
 (zlf pc 136 (s_ic 0 137)))
 (znd pc 140
 (zlf pc 137 (s_cV zpS 17 1 [] zx0 140))
 (znd pc 141
 (zlf pc 140 (s_aload 0 141))
 (zlf pc 141 (s_gR 12 0 144))))))
 (znd pc 153
 (znd pc 148
 (znd pc 147
 (zlf pc 144 (s_new 11 8 [.null, .int 0, .null, .int 0, .int 0, .int 0, .int 0, .null] 147))
 (zlf pc 147 (s_dup 148)))
 (znd pc 150
 (zlf pc 148 (s_aload 6 150))
 (znd pc 151
 (zlf pc 150 (s_iload 2 151))
 (zlf pc 151 (s_aload 7 153)))))
 (znd pc 157
 (znd pc 155
 (zlf pc 153 (s_iload 4 155))
 (zlf pc 155 (s_iload 5 157)))
 (znd pc 160
 (zlf pc 157 (s_cV zpI 60 6 [] zx0 160))
 (znd pc 163
 (zlf pc 160 (s_cI (zpV 5) 66 2 [] zx0 163))
 (zlf pc 163 (s_rI))))))))
theorem zm_X11_wire (G : Nat × Nat) (pc : Nat) : zMon (zc_X11_wire G pc) := (mo_d (mo_d (mo_d (mo_d (mo_d (mo_d (mo_l (mo_aload _ _)) (mo_l (mo_iload _ _))) (mo_d (mo_l (mo_cR _ _ _ _ (zPre_V _) zHm_0)) (mo_l (mo_astore _ _)))) (mo_d (mo_d (mo_l (mo_aload _ _)) (mo_l (mo_iload _ _))) (mo_d (mo_l (mo_cR _ _ _ _ (zPre_V _) zHm_0)) (mo_d (mo_l (mo_astore _ _)) (mo_l (mo_iload _ _)))))) (mo_d (mo_d (mo_d (mo_l (mo_aload _ _)) (mo_l (mo_gI _ _ _))) (mo_d (mo_l (mo_cI _ _ _ _ zPre_S zHm_0)) (mo_l (mo_ifeq _ _)))) (mo_d (mo_d (mo_l (mo_iload _ _)) (mo_l (mo_aload _ _))) (mo_d (mo_l (mo_gI _ _ _)) (mo_d (mo_l (mo_cI _ _ _ _ zPre_S zHm_0)) (mo_l (mo_ifeq _ _))))))) (mo_d (mo_d (mo_d (mo_d (mo_l (mo_ic _ _)) (mo_l (mo_goto _))) (mo_d (mo_l (mo_ic _ _)) (mo_l (mo_cV _ _ _ _ zPre_S zHm_0)))) (mo_d (mo_d (mo_l (mo_iload _ _)) (mo_l (mo_iload _ _))) (mo_d (mo_l (mo_cmpeq _ _)) (mo_d (mo_l (mo_iload _ _)) (mo_l (mo_ic _ _)))))) (mo_d (mo_d (mo_d (mo_l (mo_cI _ _ _ _ zPre_S zHm_0)) (mo_l (mo_ifeq _ _))) (mo_d (mo_l (mo_ic _ _)) (mo_d (mo_l (mo_goto _)) (mo_l (mo_ic _ _))))) (mo_d (mo_d (mo_l (mo_cV _ _ _ _ zPre_S zHm_0)) (mo_l (mo_aload _ _))) (mo_d (mo_l (mo_iload _ _)) (mo_d (mo_l (mo_cI _ _ _ _ (zPre_V _) zHm_0)) (mo_l (mo_ifeq _ _)))))))) (mo_d (mo_d (mo_d (mo_d (mo_d (mo_l (mo_aload _ _)) (mo_l (mo_iload _ _))) (mo_d (mo_l (mo_cI _ _ _ _ (zPre_V _) zHm_0)) (mo_l (mo_ifeq _ _)))) (mo_d (mo_d (mo_l (mo_ic _ _)) (mo_l (mo_goto _))) (mo_d (mo_l (mo_ic _ _)) (mo_d (mo_l (mo_cV _ _ _ _ zPre_S zHm_0)) (mo_l (mo_aload _ _)))))) (mo_d (mo_d (mo_d (mo_l (mo_gR _ _ _)) (mo_l (mo_gR _ _ _))) (mo_d (mo_l (mo_cI _ _ _ _ (zPre_V _) zHm_0)) (mo_d (mo_l (mo_ic _ _)) (mo_l (mo_cmpge _ _))))) (mo_d (mo_d (mo_l (mo_aload _ _)) (mo_l (mo_gR _ _ _))) (mo_d (mo_l (mo_aload _ _)) (mo_d (mo_l (mo_gI _ _ _)) (mo_l (mo_aload _ _))))))) (mo_d (mo_d (mo_d (mo_d (mo_l (mo_gI _ _ _)) (mo_l (mo_cI _ _ _ _ (zPre_V _) zHm_0))) (mo_d (mo_l (mo_ifeq _ _)) (mo_l (mo_ic _ _)))) (mo_d (mo_d (mo_l (mo_goto _)) (mo_l (mo_ic _ _))) (mo_d (mo_l (mo_cV _ _ _ _ zPre_S zHm_0)) (mo_d (mo_l (mo_aload _ _)) (mo_l (mo_gR _ _ _)))))) (mo_d (mo_d (mo_d (mo_l (mo_new _ _ _ _)) (mo_l (mo_dup _))) (mo_d (mo_l (mo_aload _ _)) (mo_d (mo_l (mo_iload _ _)) (mo_l (mo_aload _ _))))) (mo_d (mo_d (mo_l (mo_iload _ _)) (mo_l (mo_iload _ _))) (mo_d (mo_l (mo_cV _ _ _ _ zPre_I zHm_0)) (mo_d (mo_l (mo_cI _ _ _ _ (zPre_V _) zHm_0)) (mo_l (mo_rI)))))))))
def zc_X11_wireAt (G : Nat × Nat) : Nat → zSem := fun pc =>
 znd pc 17
 (znd pc 5
 (znd pc 1
 (zlf pc 0 (s_iload 1 1))
 (znd pc 2
 (zlf pc 1 (s_aload 0 2))
 (zlf pc 2 (s_gR 12 0 5))))
 (znd pc 11
 (znd pc 8
 (zlf pc 5 (s_gR 5 2 8))
 (zlf pc 8 (s_cI (zpV 0) 16 1 [] zx0 11)))
 (znd pc 14
 (zlf pc 11 (s_cI zpS 12 2 [] zx0 14))
 (zlf pc 14 (s_ifne 25 17)))))
 (znd pc 32
 (znd pc 26
 (znd pc 25
 (zlf pc 17 (s_thr 0))
 (zlf pc 25 (s_aload 0 26)))
 (znd pc 29
 (zlf pc 26 (s_gR 12 0 29))
 (zlf pc 29 (s_gR 5 2 32))))
 (znd pc 36
 (znd pc 33
 (zlf pc 32 (s_iload 1 33))
 (zlf pc 33 (s_cR (zpV 0) 44 2 [] zx0 36)))
 (znd pc 39
 (zlf pc 36 (s_cast 11 39))
 (zlf pc 39 (s_rR)))))
theorem zm_X11_wireAt (G : Nat × Nat) (pc : Nat) : zMon (zc_X11_wireAt G pc) := (mo_d (mo_d (mo_d (mo_l (mo_iload _ _)) (mo_d (mo_l (mo_aload _ _)) (mo_l (mo_gR _ _ _)))) (mo_d (mo_d (mo_l (mo_gR _ _ _)) (mo_l (mo_cI _ _ _ _ (zPre_V _) zHm_0))) (mo_d (mo_l (mo_cI _ _ _ _ zPre_S zHm_0)) (mo_l (mo_ifne _ _))))) (mo_d (mo_d (mo_d (mo_l (mo_thr _)) (mo_l (mo_aload _ _))) (mo_d (mo_l (mo_gR _ _ _)) (mo_l (mo_gR _ _ _)))) (mo_d (mo_d (mo_l (mo_iload _ _)) (mo_l (mo_cR _ _ _ _ (zPre_V _) zHm_0))) (mo_d (mo_l (mo_cast _ _)) (mo_l (mo_rR))))))
def zc_X2_release (G : Nat × Nat) : Nat → zSem := fun pc =>
 znd pc 7
 (znd pc 2
 (znd pc 1
 (zlf pc 0 (s_aload 0 1))
 (zlf pc 1 (s_dup 2)))
 (znd pc 5
 (zlf pc 2 (s_gI 3 4 5))
 (znd pc 6
 (zlf pc 5 (s_ic 1 6))
 (zlf pc 6 (s_iload 1 7)))))
 (znd pc 10
 (znd pc 8
 (zlf pc 7 (s_ishl 8))
 (znd pc 9
 (zlf pc 8 (s_ic (-1) 9))
 (zlf pc 9 (s_ixor 10))))
 (znd pc 11
 (zlf pc 10 (s_iand 11))
 (znd pc 14
 (zlf pc 11 (s_pI 3 4 14))
 (zlf pc 14 (s_rV)))))
theorem zm_X2_release (G : Nat × Nat) (pc : Nat) : zMon (zc_X2_release G pc) := (mo_d (mo_d (mo_d (mo_l (mo_aload _ _)) (mo_l (mo_dup _))) (mo_d (mo_l (mo_gI _ _ _)) (mo_d (mo_l (mo_ic _ _)) (mo_l (mo_iload _ _))))) (mo_d (mo_d (mo_l (mo_ishl _)) (mo_d (mo_l (mo_ic _ _)) (mo_l (mo_ixor _)))) (mo_d (mo_l (mo_iand _)) (mo_d (mo_l (mo_pI _ _ _)) (mo_l (mo_rV))))))
def zc_X10_takeOut (G : Nat × Nat) : Nat → zSem := fun pc =>
 znd pc 30
 (znd pc 16
 (znd pc 6
 (znd pc 2
 (znd pc 1
 (zlf pc 0 (s_aload 0 1))
 (zlf pc 1 (s_ic 1 2)))
 (znd pc 5
 (zlf pc 2 (s_pZ 11 6 5))
 (zlf pc 5 (s_aload 0 6))))
 (znd pc 10
 (znd pc 9
 (zlf pc 6 (s_gR 11 0 9))
 (zlf pc 9 (s_aload 0 10)))
 (znd pc 13
 (zlf pc 10 (s_gI 11 1 13))
 (zlf pc 13 (s_cV (zpV 3) 77 2 [] zx0 16)))))
 (znd pc 24
 (znd pc 20
 (znd pc 17
 (zlf pc 16 (s_aload 0 17))
 (zlf pc 17 (s_gR 11 2 20)))
 (znd pc 21
 (zlf pc 20 (s_aload 0 21))
 (zlf pc 21 (s_gI 11 3 24))))
 (znd pc 28
 (znd pc 27
 (zlf pc 24 (s_cV (zpV 3) 77 2 [] zx0 27))
 (zlf pc 27 (s_ic 0 28)))
 (znd pc 29
 (zlf pc 28 (s_istore 1 29))
 (zlf pc 29 (s_iload 1 30))))))
 (znd pc 48
 (znd pc 40
 (znd pc 34
 (znd pc 31
 (zlf pc 30 (s_aload 0 31))
 (zlf pc 31 (s_gR 11 7 34)))
 (znd pc 37
 (zlf pc 34 (s_cI (zpV 0) 16 1 [] zx0 37))
 (zlf pc 37 (s_cmpge 66 40))))
 (znd pc 44
 (znd pc 41
 (zlf pc 40 (s_aload 0 41))
 (zlf pc 41 (s_gR 11 7 44)))
 (znd pc 45
 (zlf pc 44 (s_iload 1 45))
 (zlf pc 45 (s_cR (zpV 0) 44 2 [] zx0 48)))))
 (znd pc 56
 (znd pc 52
 (znd pc 51
 (zlf pc 48 (s_cast 2 51))
 (zlf pc 51 (s_dup 52)))
 (znd pc 55
 (zlf pc 52 (s_gI 2 4 55))
 (zlf pc 55 (s_ic 1 56))))
 (znd pc 60
 (znd pc 57
 (zlf pc 56 (s_iadd 57))
 (zlf pc 57 (s_pI 2 4 60)))
 (znd pc 63
 (zlf pc 60 (s_iinc 1 1 63))
 (znd pc 66
 (zlf pc 63 (s_goto 29))
 (zlf pc 66 (s_rV)))))))
theorem zm_X10_takeOut (G : Nat × Nat) (pc : Nat) : zMon (zc_X10_takeOut G pc) := (mo_d (mo_d (mo_d (mo_d (mo_d (mo_l (mo_aload _ _)) (mo_l (mo_ic _ _))) (mo_d (mo_l (mo_pZ _ _ _)) (mo_l (mo_aload _ _)))) (mo_d (mo_d (mo_l (mo_gR _ _ _)) (mo_l (mo_aload _ _))) (mo_d (mo_l (mo_gI _ _ _)) (mo_l (mo_cV _ _ _ _ (zPre_V _) zHm_0))))) (mo_d (mo_d (mo_d (mo_l (mo_aload _ _)) (mo_l (mo_gR _ _ _))) (mo_d (mo_l (mo_aload _ _)) (mo_l (mo_gI _ _ _)))) (mo_d (mo_d (mo_l (mo_cV _ _ _ _ (zPre_V _) zHm_0)) (mo_l (mo_ic _ _))) (mo_d (mo_l (mo_istore _ _)) (mo_l (mo_iload _ _)))))) (mo_d (mo_d (mo_d (mo_d (mo_l (mo_aload _ _)) (mo_l (mo_gR _ _ _))) (mo_d (mo_l (mo_cI _ _ _ _ (zPre_V _) zHm_0)) (mo_l (mo_cmpge _ _)))) (mo_d (mo_d (mo_l (mo_aload _ _)) (mo_l (mo_gR _ _ _))) (mo_d (mo_l (mo_iload _ _)) (mo_l (mo_cR _ _ _ _ (zPre_V _) zHm_0))))) (mo_d (mo_d (mo_d (mo_l (mo_cast _ _)) (mo_l (mo_dup _))) (mo_d (mo_l (mo_gI _ _ _)) (mo_l (mo_ic _ _)))) (mo_d (mo_d (mo_l (mo_iadd _)) (mo_l (mo_pI _ _ _))) (mo_d (mo_l (mo_iinc _ _ _)) (mo_d (mo_l (mo_goto _)) (mo_l (mo_rV))))))))
def zc_X11_pull (G : Nat × Nat) : Nat → zSem := fun pc =>
 znd pc 14
 (znd pc 6
 (znd pc 2
 (znd pc 1
 (zlf pc 0 (s_aload 0 1))
 (zlf pc 1 (s_iload 1 2)))
 (znd pc 5
 (zlf pc 2 (s_cR (zpV 12) 76 2 [] zx0 5))
 (zlf pc 5 (s_astore 2 6))))
 (znd pc 10
 (znd pc 7
 (zlf pc 6 (s_aload 2 7))
 (zlf pc 7 (s_gI 11 6 10)))
 (znd pc 13
 (zlf pc 10 (s_ifne 17 13))
 (zlf pc 13 (s_ic 1 14)))))
 (znd pc 22
 (znd pc 18
 (znd pc 17
 (zlf pc 14 (s_goto 18))
 (zlf pc 17 (s_ic 0 18)))
 (znd pc 21
 (zlf pc 18 (s_cV zpS 17 1 [] zx0 21))
 (zlf pc 21 (s_aload 2 22))))
 (znd pc 26
 (znd pc 25
 (zlf pc 22 (s_cV (zpV 11) 78 1 [zU] zx0 25))
 (zlf pc 25 (s_aload 2 26)))
 (znd pc 29
 (zlf pc 26 (s_gI 11 5 29))
 (zlf pc 29 (s_rI)))))
theorem zm_X11_pull (G : Nat × Nat) (pc : Nat) : zMon (zc_X11_pull G pc) := (mo_d (mo_d (mo_d (mo_d (mo_l (mo_aload _ _)) (mo_l (mo_iload _ _))) (mo_d (mo_l (mo_cR _ _ _ _ (zPre_V _) zHm_0)) (mo_l (mo_astore _ _)))) (mo_d (mo_d (mo_l (mo_aload _ _)) (mo_l (mo_gI _ _ _))) (mo_d (mo_l (mo_ifne _ _)) (mo_l (mo_ic _ _))))) (mo_d (mo_d (mo_d (mo_l (mo_goto _)) (mo_l (mo_ic _ _))) (mo_d (mo_l (mo_cV _ _ _ _ zPre_S zHm_0)) (mo_l (mo_aload _ _)))) (mo_d (mo_d (mo_l (mo_cV _ _ _ _ (zPre_V _) zHm_0)) (mo_l (mo_aload _ _))) (mo_d (mo_l (mo_gI _ _ _)) (mo_l (mo_rI))))))
def zc_X10_bundleAt (G : Nat × Nat) : Nat → zSem := fun pc =>
 znd pc 16
 (znd pc 6
 (znd pc 4
 (znd pc 1
 (zlf pc 0 (s_iload 1 1))
 (zlf pc 1 (s_iflt 32 4)))
 (znd pc 5
 (zlf pc 4 (s_iload 1 5))
 (zlf pc 5 (s_aload 0 6))))
 (znd pc 12
 (znd pc 9
 (zlf pc 6 (s_gR 11 7 9))
 (zlf pc 9 (s_cI (zpV 0) 16 1 [] zx0 12)))
 (znd pc 15
 (zlf pc 12 (s_cmpge 32 15))
 (zlf pc 15 (s_aload 0 16)))))
 (znd pc 26
 (znd pc 20
 (znd pc 19
 (zlf pc 16 (s_gR 11 7 19))
 (zlf pc 19 (s_iload 1 20)))
 (znd pc 23
 (zlf pc 20 (s_cR (zpV 0) 44 2 [] zx0 23))
 (zlf pc 23 (s_cast 2 26))))
 (znd pc 32
 (znd pc 29
 (zlf pc 26 (s_gI 2 0 29))
 (zlf pc 29 (s_goto 33)))
 (znd pc 33
 (zlf pc 32 (s_ic (-1) 33))
 (zlf pc 33 (s_rI)))))
theorem zm_X10_bundleAt (G : Nat × Nat) (pc : Nat) : zMon (zc_X10_bundleAt G pc) := (mo_d (mo_d (mo_d (mo_d (mo_l (mo_iload _ _)) (mo_l (mo_iflt _ _))) (mo_d (mo_l (mo_iload _ _)) (mo_l (mo_aload _ _)))) (mo_d (mo_d (mo_l (mo_gR _ _ _)) (mo_l (mo_cI _ _ _ _ (zPre_V _) zHm_0))) (mo_d (mo_l (mo_cmpge _ _)) (mo_l (mo_aload _ _))))) (mo_d (mo_d (mo_d (mo_l (mo_gR _ _ _)) (mo_l (mo_iload _ _))) (mo_d (mo_l (mo_cR _ _ _ _ (zPre_V _) zHm_0)) (mo_l (mo_cast _ _)))) (mo_d (mo_d (mo_l (mo_gI _ _ _)) (mo_l (mo_goto _))) (mo_d (mo_l (mo_ic _ _)) (mo_l (mo_rI))))))
def zc_X11_ofWire (G : Nat × Nat) : Nat → zSem := fun pc =>
 znd pc 25
 (znd pc 11
 (znd pc 5
 (znd pc 1
 (zlf pc 0 (s_aload 0 1))
 (znd pc 2
 (zlf pc 1 (s_iload 1 2))
 (zlf pc 2 (s_cR (zpV 12) 76 2 [] zx0 5))))
 (znd pc 7
 (znd pc 6
 (zlf pc 5 (s_astore 3 6))
 (zlf pc 6 (s_iload 2 7)))
 (znd pc 8
 (zlf pc 7 (s_ic (-1) 8))
 (zlf pc 8 (s_cmplt 15 11)))))
 (znd pc 19
 (znd pc 15
 (znd pc 12
 (zlf pc 11 (s_ic 1 12))
 (zlf pc 12 (s_goto 16)))
 (znd pc 16
 (zlf pc 15 (s_ic 0 16))
 (zlf pc 16 (s_cV zpS 13 1 [] zx0 19))))
 (znd pc 21
 (znd pc 20
 (zlf pc 19 (s_iload 2 20))
 (zlf pc 20 (s_ic (-1) 21)))
 (znd pc 24
 (zlf pc 21 (s_cmpne 40 24))
 (zlf pc 24 (s_aload 3 25))))))
 (znd pc 41
 (znd pc 35
 (znd pc 31
 (znd pc 28
 (zlf pc 25 (s_gI 11 6 28))
 (zlf pc 28 (s_ifeq 35 31)))
 (znd pc 32
 (zlf pc 31 (s_ic 0 32))
 (zlf pc 32 (s_goto 39))))
 (znd pc 39
 (znd pc 36
 (zlf pc 35 (s_aload 3 36))
 (zlf pc 36 (s_gI 11 5 39)))
 (znd pc 40
 (zlf pc 39 (s_rI))
 (zlf pc 40 (s_aload 3 41)))))
 (znd pc 51
 (znd pc 47
 (znd pc 44
 (zlf pc 41 (s_gI 11 6 44))
 (zlf pc 44 (s_ifeq 51 47)))
 (znd pc 48
 (zlf pc 47 (s_ic (-1) 48))
 (zlf pc 48 (s_goto 56))))
 (znd pc 53
 (znd pc 52
 (zlf pc 51 (s_aload 3 52))
 (zlf pc 52 (s_iload 2 53)))
 (znd pc 56
 (zlf pc 53 (s_cI (zpV 11) 84 2 [] zx0 56))
 (zlf pc 56 (s_rI))))))
theorem zm_X11_ofWire (G : Nat × Nat) (pc : Nat) : zMon (zc_X11_ofWire G pc) := (mo_d (mo_d (mo_d (mo_d (mo_l (mo_aload _ _)) (mo_d (mo_l (mo_iload _ _)) (mo_l (mo_cR _ _ _ _ (zPre_V _) zHm_0)))) (mo_d (mo_d (mo_l (mo_astore _ _)) (mo_l (mo_iload _ _))) (mo_d (mo_l (mo_ic _ _)) (mo_l (mo_cmplt _ _))))) (mo_d (mo_d (mo_d (mo_l (mo_ic _ _)) (mo_l (mo_goto _))) (mo_d (mo_l (mo_ic _ _)) (mo_l (mo_cV _ _ _ _ zPre_S zHm_0)))) (mo_d (mo_d (mo_l (mo_iload _ _)) (mo_l (mo_ic _ _))) (mo_d (mo_l (mo_cmpne _ _)) (mo_l (mo_aload _ _)))))) (mo_d (mo_d (mo_d (mo_d (mo_l (mo_gI _ _ _)) (mo_l (mo_ifeq _ _))) (mo_d (mo_l (mo_ic _ _)) (mo_l (mo_goto _)))) (mo_d (mo_d (mo_l (mo_aload _ _)) (mo_l (mo_gI _ _ _))) (mo_d (mo_l (mo_rI)) (mo_l (mo_aload _ _))))) (mo_d (mo_d (mo_d (mo_l (mo_gI _ _ _)) (mo_l (mo_ifeq _ _))) (mo_d (mo_l (mo_ic _ _)) (mo_l (mo_goto _)))) (mo_d (mo_d (mo_l (mo_aload _ _)) (mo_l (mo_iload _ _))) (mo_d (mo_l (mo_cI _ _ _ _ (zPre_V _) zHm_0)) (mo_l (mo_rI)))))))
def zc_X5_add (G : Nat × Nat) : Nat → zSem := fun pc =>
 znd pc 21
 (znd pc 9
 (znd pc 4
 (znd pc 1
 (zlf pc 0 (s_aload 0 1))
 (zlf pc 1 (s_gR 6 0 4)))
 (znd pc 5
 (zlf pc 4 (s_aload 0 5))
 (znd pc 8
 (zlf pc 5 (s_gI 6 4 8))
 (zlf pc 8 (s_iload 1 9)))))
 (znd pc 16
 (znd pc 12
 (zlf pc 9 (s_cV (zpV 9) 7 3 [] zx0 12))
 (znd pc 13
 (zlf pc 12 (s_aload 0 13))
 (zlf pc 13 (s_gR 6 1 16))))
 (znd pc 17
 (zlf pc 16 (s_aload 0 17))
 (znd pc 20
 (zlf pc 17 (s_gI 6 4 20))
 (zlf pc 20 (s_iload 2 21))))))
 (znd pc 31
 (znd pc 26
 (znd pc 24
 (zlf pc 21 (s_cV (zpV 9) 7 3 [] zx0 24))
 (znd pc 25
 (zlf pc 24 (s_aload 0 25))
 (zlf pc 25 (s_dup 26))))
 (znd pc 29
 (zlf pc 26 (s_gI 6 4 29))
 (znd pc 30
 (zlf pc 29 (s_ic 1 30))
 (zlf pc 30 (s_iadd 31)))))
 (znd pc 38
 (znd pc 34
 (zlf pc 31 (s_pI 6 4 34))
 (znd pc 35
 (zlf pc 34 (s_aload 0 35))
 (zlf pc 35 (s_gI 6 4 38))))
 (znd pc 39
 (zlf pc 38 (s_ic 1 39))
 (znd pc 40
 (zlf pc 39 (s_isub 40))
 (zlf pc 40 (s_rI))))))
theorem zm_X5_add (G : Nat × Nat) (pc : Nat) : zMon (zc_X5_add G pc) := (mo_d (mo_d (mo_d (mo_d (mo_l (mo_aload _ _)) (mo_l (mo_gR _ _ _))) (mo_d (mo_l (mo_aload _ _)) (mo_d (mo_l (mo_gI _ _ _)) (mo_l (mo_iload _ _))))) (mo_d (mo_d (mo_l (mo_cV _ _ _ _ (zPre_V _) zHm_0)) (mo_d (mo_l (mo_aload _ _)) (mo_l (mo_gR _ _ _)))) (mo_d (mo_l (mo_aload _ _)) (mo_d (mo_l (mo_gI _ _ _)) (mo_l (mo_iload _ _)))))) (mo_d (mo_d (mo_d (mo_l (mo_cV _ _ _ _ (zPre_V _) zHm_0)) (mo_d (mo_l (mo_aload _ _)) (mo_l (mo_dup _)))) (mo_d (mo_l (mo_gI _ _ _)) (mo_d (mo_l (mo_ic _ _)) (mo_l (mo_iadd _))))) (mo_d (mo_d (mo_l (mo_pI _ _ _)) (mo_d (mo_l (mo_aload _ _)) (mo_l (mo_gI _ _ _)))) (mo_d (mo_l (mo_ic _ _)) (mo_d (mo_l (mo_isub _)) (mo_l (mo_rI)))))))
def zc_X11_order (G : Nat × Nat) : Nat → zSem := fun pc =>
 znd pc 29
 (znd pc 13
 (znd pc 5
 (znd pc 1
 (zlf pc 0 (s_iload 1 1))
 (znd pc 2
 (zlf pc 1 (s_ic 0 2))
 (zlf pc 2 (s_ic 255 5))))
 (znd pc 11
 (znd pc 8
 (zlf pc 5 (s_cI zpS 14 3 [] zx0 8))
 (zlf pc 8 (s_ifeq 25 11)))
 (znd pc 12
 (zlf pc 11 (s_iload 2 12))
 (zlf pc 12 (s_ic 1 13)))))
 (znd pc 21
 (znd pc 15
 (zlf pc 13 (s_ic 99 15))
 (znd pc 18
 (zlf pc 15 (s_cI zpS 14 3 [] zx0 18))
 (zlf pc 18 (s_ifeq 25 21))))
 (znd pc 25
 (znd pc 22
 (zlf pc 21 (s_ic 1 22))
 (zlf pc 22 (s_goto 26)))
 (znd pc 26
 (zlf pc 25 (s_ic 0 26))
 (zlf pc 26 (s_cV zpS 15 1 [] zx0 29))))))
 (znd pc 44
 (znd pc 36
 (znd pc 30
 (zlf pc 29 (s_aload 0 30))
 (znd pc 33
 (zlf pc 30 (s_gR 12 1 33))
 (zlf pc 33 (s_gI 6 4 36))))
 (znd pc 40
 (znd pc 37
 (zlf pc 36 (s_ic 5 37))
 (zlf pc 37 (s_cmpge 44 40)))
 (znd pc 41
 (zlf pc 40 (s_ic 1 41))
 (zlf pc 41 (s_goto 45)))))
 (znd pc 52
 (znd pc 48
 (znd pc 45
 (zlf pc 44 (s_ic 0 45))
 (zlf pc 45 (s_cV zpS 17 1 [] zx0 48)))
 (znd pc 49
 (zlf pc 48 (s_aload 0 49))
 (zlf pc 49 (s_gR 12 1 52))))
 (znd pc 54
 (znd pc 53
 (zlf pc 52 (s_iload 1 53))
 (zlf pc 53 (s_iload 2 54)))
 (znd pc 57
 (zlf pc 54 (s_cI (zpV 6) 94 3 [] zx0 57))
 (zlf pc 57 (s_rI))))))
theorem zm_X11_order (G : Nat × Nat) (pc : Nat) : zMon (zc_X11_order G pc) := (mo_d (mo_d (mo_d (mo_d (mo_l (mo_iload _ _)) (mo_d (mo_l (mo_ic _ _)) (mo_l (mo_ic _ _)))) (mo_d (mo_d (mo_l (mo_cI _ _ _ _ zPre_S zHm_0)) (mo_l (mo_ifeq _ _))) (mo_d (mo_l (mo_iload _ _)) (mo_l (mo_ic _ _))))) (mo_d (mo_d (mo_l (mo_ic _ _)) (mo_d (mo_l (mo_cI _ _ _ _ zPre_S zHm_0)) (mo_l (mo_ifeq _ _)))) (mo_d (mo_d (mo_l (mo_ic _ _)) (mo_l (mo_goto _))) (mo_d (mo_l (mo_ic _ _)) (mo_l (mo_cV _ _ _ _ zPre_S zHm_0)))))) (mo_d (mo_d (mo_d (mo_l (mo_aload _ _)) (mo_d (mo_l (mo_gR _ _ _)) (mo_l (mo_gI _ _ _)))) (mo_d (mo_d (mo_l (mo_ic _ _)) (mo_l (mo_cmpge _ _))) (mo_d (mo_l (mo_ic _ _)) (mo_l (mo_goto _))))) (mo_d (mo_d (mo_d (mo_l (mo_ic _ _)) (mo_l (mo_cV _ _ _ _ zPre_S zHm_0))) (mo_d (mo_l (mo_aload _ _)) (mo_l (mo_gR _ _ _)))) (mo_d (mo_d (mo_l (mo_iload _ _)) (mo_l (mo_iload _ _))) (mo_d (mo_l (mo_cI _ _ _ _ (zPre_V _) zHm_0)) (mo_l (mo_rI)))))))
def zc_J9_floorDiv_7cf53 (G : Nat × Nat) : Nat → zSem := fun pc =>
 znd pc 11
 (znd pc 4
 (znd pc 2
 (znd pc 1
 (zlf pc 0 (s_iload 0 1))
 (zlf pc 1 (s_iload 1 2)))
 (znd pc 3
 (zlf pc 2 (s_idiv 3))
 (zlf pc 3 (s_istore 2 4))))
 (znd pc 6
 (znd pc 5
 (zlf pc 4 (s_iload 0 5))
 (zlf pc 5 (s_iload 1 6)))
 (znd pc 7
 (zlf pc 6 (s_ixor 7))
 (znd pc 10
 (zlf pc 7 (s_ifge 21 10))
 (zlf pc 10 (s_iload 2 11))))))
 (znd pc 18
 (znd pc 13
 (znd pc 12
 (zlf pc 11 (s_iload 1 12))
 (zlf pc 12 (s_imul 13)))
 (znd pc 14
 (zlf pc 13 (s_iload 0 14))
 (znd pc 17
 (zlf pc 14 (s_cmpeq 21 17))
 (zlf pc 17 (s_iload 2 18)))))
 (znd pc 20
 (znd pc 19
 (zlf pc 18 (s_ic 1 19))
 (zlf pc 19 (s_isub 20)))
 (znd pc 21
 (zlf pc 20 (s_rI))
 (znd pc 22
 (zlf pc 21 (s_iload 2 22))
 (zlf pc 22 (s_rI))))))
theorem zm_J9_floorDiv_7cf53 (G : Nat × Nat) (pc : Nat) : zMon (zc_J9_floorDiv_7cf53 G pc) := (mo_d (mo_d (mo_d (mo_d (mo_l (mo_iload _ _)) (mo_l (mo_iload _ _))) (mo_d (mo_l (mo_idiv _)) (mo_l (mo_istore _ _)))) (mo_d (mo_d (mo_l (mo_iload _ _)) (mo_l (mo_iload _ _))) (mo_d (mo_l (mo_ixor _)) (mo_d (mo_l (mo_ifge _ _)) (mo_l (mo_iload _ _)))))) (mo_d (mo_d (mo_d (mo_l (mo_iload _ _)) (mo_l (mo_imul _))) (mo_d (mo_l (mo_iload _ _)) (mo_d (mo_l (mo_cmpeq _ _)) (mo_l (mo_iload _ _))))) (mo_d (mo_d (mo_l (mo_ic _ _)) (mo_l (mo_isub _))) (mo_d (mo_l (mo_rI)) (mo_d (mo_l (mo_iload _ _)) (mo_l (mo_rI)))))))
def zc_X11_divideDown (G : Nat × Nat) : Nat → zSem := fun pc =>
 znd pc 6
 (znd pc 2
 (znd pc 1
 (zlf pc 0 (s_iload 1 1))
 (zlf pc 1 (s_ic 1 2)))
 (znd pc 5
 (zlf pc 2 (s_cmpge 9 5))
 (zlf pc 5 (s_ic 0 6))))
 (znd pc 10
 (znd pc 9
 (zlf pc 6 (s_goto 14))
 (zlf pc 9 (s_iload 0 10)))
 (znd pc 11
 (zlf pc 10 (s_iload 1 11))
 (znd pc 14
 (zlf pc 11 (s_cI zpS 114 2 [zU] zx0 14))
 (zlf pc 14 (s_rI)))))
theorem zm_X11_divideDown (G : Nat × Nat) (pc : Nat) : zMon (zc_X11_divideDown G pc) := (mo_d (mo_d (mo_d (mo_l (mo_iload _ _)) (mo_l (mo_ic _ _))) (mo_d (mo_l (mo_cmpge _ _)) (mo_l (mo_ic _ _)))) (mo_d (mo_d (mo_l (mo_goto _)) (mo_l (mo_iload _ _))) (mo_d (mo_l (mo_iload _ _)) (mo_d (mo_l (mo_cI _ _ _ _ zPre_S zHm_0)) (mo_l (mo_rI))))))
def zc_X3_window (G : Nat × Nat) : Nat → zSem := fun pc =>
 znd pc 21
 (znd pc 11
 (znd pc 5
 (znd pc 1
 (zlf pc 0 (s_aload 0 1))
 (znd pc 4
 (zlf pc 1 (s_gI 4 1 4))
 (zlf pc 4 (s_ic 3 5))))
 (znd pc 9
 (znd pc 8
 (zlf pc 5 (s_cmpge 10 8))
 (zlf pc 8 (s_ic 0 9)))
 (znd pc 10
 (zlf pc 9 (s_rI))
 (zlf pc 10 (s_ic 0 11)))))
 (znd pc 14
 (znd pc 12
 (zlf pc 11 (s_istore 1 12))
 (znd pc 13
 (zlf pc 12 (s_ic 0 13))
 (zlf pc 13 (s_istore 2 14))))
 (znd pc 17
 (znd pc 15
 (zlf pc 14 (s_iload 2 15))
 (zlf pc 15 (s_ic 8 17)))
 (znd pc 20
 (zlf pc 17 (s_cmpge 37 20))
 (zlf pc 20 (s_iload 1 21))))))
 (znd pc 34
 (znd pc 26
 (znd pc 22
 (zlf pc 21 (s_aload 0 22))
 (znd pc 25
 (zlf pc 22 (s_gR 4 2 25))
 (zlf pc 25 (s_iload 2 26))))
 (znd pc 30
 (znd pc 29
 (zlf pc 26 (s_cI (zpV 9) 54 2 [] zx0 29))
 (zlf pc 29 (s_iadd 30)))
 (znd pc 31
 (zlf pc 30 (s_istore 1 31))
 (zlf pc 31 (s_iinc 2 1 34)))))
 (znd pc 42
 (znd pc 38
 (znd pc 37
 (zlf pc 34 (s_goto 14))
 (zlf pc 37 (s_iload 1 38)))
 (znd pc 39
 (zlf pc 38 (s_aload 0 39))
 (zlf pc 39 (s_gI 4 1 42))))
 (znd pc 47
 (znd pc 44
 (zlf pc 42 (s_ic 8 44))
 (zlf pc 44 (s_cI zpS 21 2 [] zx0 47)))
 (znd pc 50
 (zlf pc 47 (s_cI zpS 115 2 [] zx0 50))
 (zlf pc 50 (s_rI))))))
theorem zm_X3_window (G : Nat × Nat) (pc : Nat) : zMon (zc_X3_window G pc) := (mo_d (mo_d (mo_d (mo_d (mo_l (mo_aload _ _)) (mo_d (mo_l (mo_gI _ _ _)) (mo_l (mo_ic _ _)))) (mo_d (mo_d (mo_l (mo_cmpge _ _)) (mo_l (mo_ic _ _))) (mo_d (mo_l (mo_rI)) (mo_l (mo_ic _ _))))) (mo_d (mo_d (mo_l (mo_istore _ _)) (mo_d (mo_l (mo_ic _ _)) (mo_l (mo_istore _ _)))) (mo_d (mo_d (mo_l (mo_iload _ _)) (mo_l (mo_ic _ _))) (mo_d (mo_l (mo_cmpge _ _)) (mo_l (mo_iload _ _)))))) (mo_d (mo_d (mo_d (mo_l (mo_aload _ _)) (mo_d (mo_l (mo_gR _ _ _)) (mo_l (mo_iload _ _)))) (mo_d (mo_d (mo_l (mo_cI _ _ _ _ (zPre_V _) zHm_0)) (mo_l (mo_iadd _))) (mo_d (mo_l (mo_istore _ _)) (mo_l (mo_iinc _ _ _))))) (mo_d (mo_d (mo_d (mo_l (mo_goto _)) (mo_l (mo_iload _ _))) (mo_d (mo_l (mo_aload _ _)) (mo_l (mo_gI _ _ _)))) (mo_d (mo_d (mo_l (mo_ic _ _)) (mo_l (mo_cI _ _ _ _ zPre_S zHm_0))) (mo_d (mo_l (mo_cI _ _ _ _ zPre_S zHm_0)) (mo_l (mo_rI)))))))
def zc_J9_abs_0f7a4 (G : Nat × Nat) : Nat → zSem := fun pc =>
 znd pc 5
 (znd pc 1
 (zlf pc 0 (s_iload 0 1))
 (znd pc 4
 (zlf pc 1 (s_ifge 9 4))
 (zlf pc 4 (s_iload 0 5))))
 (znd pc 9
 (znd pc 6
 (zlf pc 5 (s_ineg 6))
 (zlf pc 6 (s_goto 10)))
 (znd pc 10
 (zlf pc 9 (s_iload 0 10))
 (zlf pc 10 (s_rI))))
theorem zm_J9_abs_0f7a4 (G : Nat × Nat) (pc : Nat) : zMon (zc_J9_abs_0f7a4 G pc) := (mo_d (mo_d (mo_l (mo_iload _ _)) (mo_d (mo_l (mo_ifge _ _)) (mo_l (mo_iload _ _)))) (mo_d (mo_d (mo_l (mo_ineg _)) (mo_l (mo_goto _))) (mo_d (mo_l (mo_iload _ _)) (mo_l (mo_rI)))))
def zc_X3_judge (G : Nat × Nat) : Nat → zSem := fun pc =>
 znd pc 48
 (znd pc 24
 (znd pc 10
 (znd pc 5
 (znd pc 1
 (zlf pc 0 (s_aload 0 1))
 (znd pc 4
 (zlf pc 1 (s_gI 4 1 4))
 (zlf pc 4 (s_ic 3 5))))
 (znd pc 8
 (zlf pc 5 (s_cmplt 27 8))
 (znd pc 9
 (zlf pc 8 (s_iload 1 9))
 (zlf pc 9 (s_aload 0 10)))))
 (znd pc 17
 (znd pc 13
 (zlf pc 10 (s_cI (zpV 4) 116 1 [zU, zU] zx0 13))
 (znd pc 14
 (zlf pc 13 (s_isub 14))
 (zlf pc 14 (s_cI zpS 117 1 [] zx0 17))))
 (znd pc 20
 (znd pc 19
 (zlf pc 17 (s_ic 10 19))
 (zlf pc 19 (s_imul 20)))
 (znd pc 21
 (zlf pc 20 (s_aload 0 21))
 (zlf pc 21 (s_cI (zpV 4) 116 1 [zU, zU] zx0 24))))))
 (znd pc 35
 (znd pc 31
 (znd pc 27
 (zlf pc 24 (s_cmpgt 31 27))
 (znd pc 28
 (zlf pc 27 (s_ic 1 28))
 (zlf pc 28 (s_goto 32))))
 (znd pc 33
 (znd pc 32
 (zlf pc 31 (s_ic 0 32))
 (zlf pc 32 (s_istore 2 33)))
 (znd pc 34
 (zlf pc 33 (s_aload 0 34))
 (zlf pc 34 (s_dup 35)))))
 (znd pc 40
 (znd pc 38
 (zlf pc 35 (s_gI 4 0 38))
 (znd pc 39
 (zlf pc 38 (s_ic 1 39))
 (zlf pc 39 (s_iadd 40))))
 (znd pc 44
 (znd pc 43
 (zlf pc 40 (s_pI 4 0 43))
 (zlf pc 43 (s_iload 2 44)))
 (znd pc 47
 (zlf pc 44 (s_ifeq 94 47))
 (zlf pc 47 (s_aload 0 48)))))))
 (znd pc 71
 (znd pc 58
 (znd pc 53
 (znd pc 49
 (zlf pc 48 (s_dup 49))
 (znd pc 52
 (zlf pc 49 (s_gI 4 1 52))
 (zlf pc 52 (s_ic 1 53))))
 (znd pc 54
 (zlf pc 53 (s_iadd 54))
 (znd pc 57
 (zlf pc 54 (s_pI 4 1 57))
 (zlf pc 57 (s_aload 0 58)))))
 (znd pc 65
 (znd pc 61
 (zlf pc 58 (s_gR 4 2 61))
 (znd pc 62
 (zlf pc 61 (s_aload 0 62))
 (zlf pc 62 (s_gI 4 3 65))))
 (znd pc 69
 (znd pc 66
 (zlf pc 65 (s_iload 1 66))
 (zlf pc 66 (s_cV (zpV 9) 7 3 [] zx0 69)))
 (znd pc 70
 (zlf pc 69 (s_aload 0 70))
 (zlf pc 70 (s_aload 0 71))))))
 (znd pc 85
 (znd pc 76
 (znd pc 74
 (zlf pc 71 (s_gI 4 3 74))
 (znd pc 75
 (zlf pc 74 (s_ic 1 75))
 (zlf pc 75 (s_iadd 76))))
 (znd pc 81
 (znd pc 78
 (zlf pc 76 (s_ic 8 78))
 (zlf pc 78 (s_cmpge 90 81)))
 (znd pc 82
 (zlf pc 81 (s_aload 0 82))
 (zlf pc 82 (s_gI 4 3 85)))))
 (znd pc 90
 (znd pc 86
 (zlf pc 85 (s_ic 1 86))
 (znd pc 87
 (zlf pc 86 (s_iadd 87))
 (zlf pc 87 (s_goto 91))))
 (znd pc 94
 (znd pc 91
 (zlf pc 90 (s_ic 0 91))
 (zlf pc 91 (s_pI 4 3 94)))
 (znd pc 95
 (zlf pc 94 (s_iload 2 95))
 (zlf pc 95 (s_rZ)))))))
theorem zm_X3_judge (G : Nat × Nat) (pc : Nat) : zMon (zc_X3_judge G pc) := (mo_d (mo_d (mo_d (mo_d (mo_d (mo_l (mo_aload _ _)) (mo_d (mo_l (mo_gI _ _ _)) (mo_l (mo_ic _ _)))) (mo_d (mo_l (mo_cmplt _ _)) (mo_d (mo_l (mo_iload _ _)) (mo_l (mo_aload _ _))))) (mo_d (mo_d (mo_l (mo_cI _ _ _ _ (zPre_V _) zHm_0)) (mo_d (mo_l (mo_isub _)) (mo_l (mo_cI _ _ _ _ zPre_S zHm_0)))) (mo_d (mo_d (mo_l (mo_ic _ _)) (mo_l (mo_imul _))) (mo_d (mo_l (mo_aload _ _)) (mo_l (mo_cI _ _ _ _ (zPre_V _) zHm_0)))))) (mo_d (mo_d (mo_d (mo_l (mo_cmpgt _ _)) (mo_d (mo_l (mo_ic _ _)) (mo_l (mo_goto _)))) (mo_d (mo_d (mo_l (mo_ic _ _)) (mo_l (mo_istore _ _))) (mo_d (mo_l (mo_aload _ _)) (mo_l (mo_dup _))))) (mo_d (mo_d (mo_l (mo_gI _ _ _)) (mo_d (mo_l (mo_ic _ _)) (mo_l (mo_iadd _)))) (mo_d (mo_d (mo_l (mo_pI _ _ _)) (mo_l (mo_iload _ _))) (mo_d (mo_l (mo_ifeq _ _)) (mo_l (mo_aload _ _))))))) (mo_d (mo_d (mo_d (mo_d (mo_l (mo_dup _)) (mo_d (mo_l (mo_gI _ _ _)) (mo_l (mo_ic _ _)))) (mo_d (mo_l (mo_iadd _)) (mo_d (mo_l (mo_pI _ _ _)) (mo_l (mo_aload _ _))))) (mo_d (mo_d (mo_l (mo_gR _ _ _)) (mo_d (mo_l (mo_aload _ _)) (mo_l (mo_gI _ _ _)))) (mo_d (mo_d (mo_l (mo_iload _ _)) (mo_l (mo_cV _ _ _ _ (zPre_V _) zHm_0))) (mo_d (mo_l (mo_aload _ _)) (mo_l (mo_aload _ _)))))) (mo_d (mo_d (mo_d (mo_l (mo_gI _ _ _)) (mo_d (mo_l (mo_ic _ _)) (mo_l (mo_iadd _)))) (mo_d (mo_d (mo_l (mo_ic _ _)) (mo_l (mo_cmpge _ _))) (mo_d (mo_l (mo_aload _ _)) (mo_l (mo_gI _ _ _))))) (mo_d (mo_d (mo_l (mo_ic _ _)) (mo_d (mo_l (mo_iadd _)) (mo_l (mo_goto _)))) (mo_d (mo_d (mo_l (mo_ic _ _)) (mo_l (mo_pI _ _ _))) (mo_d (mo_l (mo_iload _ _)) (mo_l (mo_rZ))))))))
def zc_X11_crimp (G : Nat × Nat) : Nat → zSem := fun pc =>
 znd pc 11
 (znd pc 2
 (znd pc 1
 (zlf pc 0 (s_iload 1 1))
 (zlf pc 1 (s_ic 1 2)))
 (znd pc 5
 (zlf pc 2 (s_ic 9999 5))
 (znd pc 8
 (zlf pc 5 (s_cI zpS 14 3 [] zx0 8))
 (zlf pc 8 (s_cV zpS 15 1 [] zx0 11)))))
 (znd pc 15
 (znd pc 12
 (zlf pc 11 (s_aload 0 12))
 (zlf pc 12 (s_gR 12 2 15)))
 (znd pc 16
 (zlf pc 15 (s_iload 1 16))
 (znd pc 19
 (zlf pc 16 (s_cI (zpV 4) 118 2 [zU] zx0 19))
 (zlf pc 19 (s_rZ)))))
theorem zm_X11_crimp (G : Nat × Nat) (pc : Nat) : zMon (zc_X11_crimp G pc) := (mo_d (mo_d (mo_d (mo_l (mo_iload _ _)) (mo_l (mo_ic _ _))) (mo_d (mo_l (mo_ic _ _)) (mo_d (mo_l (mo_cI _ _ _ _ zPre_S zHm_0)) (mo_l (mo_cV _ _ _ _ zPre_S zHm_0))))) (mo_d (mo_d (mo_l (mo_aload _ _)) (mo_l (mo_gR _ _ _))) (mo_d (mo_l (mo_iload _ _)) (mo_d (mo_l (mo_cI _ _ _ _ (zPre_V _) zHm_0)) (mo_l (mo_rZ))))))
def zc_X7_init (G : Nat × Nat) : Nat → zSem := fun pc =>
 znd pc 10
 (znd pc 5
 (znd pc 1
 (zlf pc 0 (s_aload 0 1))
 (znd pc 4
 (zlf pc 1 (s_obj 4))
 (zlf pc 4 (s_aload 0 5))))
 (znd pc 6
 (zlf pc 5 (s_iload 1 6))
 (znd pc 9
 (zlf pc 6 (s_pI 8 0 9))
 (zlf pc 9 (s_aload 0 10)))))
 (znd pc 15
 (znd pc 11
 (zlf pc 10 (s_iload 3 11))
 (znd pc 14
 (zlf pc 11 (s_pI 8 1 14))
 (zlf pc 14 (s_aload 0 15))))
 (znd pc 16
 (zlf pc 15 (s_iload 2 16))
 (znd pc 19
 (zlf pc 16 (s_pI 8 2 19))
 (zlf pc 19 (s_rV)))))
theorem zm_X7_init (G : Nat × Nat) (pc : Nat) : zMon (zc_X7_init G pc) := (mo_d (mo_d (mo_d (mo_l (mo_aload _ _)) (mo_d (mo_l (mo_obj _)) (mo_l (mo_aload _ _)))) (mo_d (mo_l (mo_iload _ _)) (mo_d (mo_l (mo_pI _ _ _)) (mo_l (mo_aload _ _))))) (mo_d (mo_d (mo_l (mo_iload _ _)) (mo_d (mo_l (mo_pI _ _ _)) (mo_l (mo_aload _ _)))) (mo_d (mo_l (mo_iload _ _)) (mo_d (mo_l (mo_pI _ _ _)) (mo_l (mo_rV))))))
def zc_X11_reel (G : Nat × Nat) : Nat → zSem := fun pc =>
 znd pc 45
 (znd pc 20
 (znd pc 10
 (znd pc 3
 (znd pc 1
 (zlf pc 0 (s_iload 1 1))
 (zlf pc 1 (s_ic 6 3)))
 (znd pc 6
 (zlf pc 3 (s_cI zpS 12 2 [] zx0 6))
 (znd pc 9
 (zlf pc 6 (s_cV zpS 13 1 [] zx0 9))
 (zlf pc 9 (s_iload 2 10)))))
 (znd pc 13
 (znd pc 11
 (zlf pc 10 (s_ic 1 11))
 (zlf pc 11 (s_ic 99 13)))
 (znd pc 16
 (zlf pc 13 (s_cI zpS 14 3 [] zx0 16))
 (znd pc 19
 (zlf pc 16 (s_ifeq 34 19))
 (zlf pc 19 (s_iload 3 20))))))
 (znd pc 31
 (znd pc 24
 (znd pc 21
 (zlf pc 20 (s_ic 1 21))
 (zlf pc 21 (s_ic 5000 24)))
 (znd pc 27
 (zlf pc 24 (s_cI zpS 14 3 [] zx0 27))
 (znd pc 30
 (zlf pc 27 (s_ifeq 34 30))
 (zlf pc 30 (s_ic 1 31)))))
 (znd pc 38
 (znd pc 34
 (zlf pc 31 (s_goto 35))
 (znd pc 35
 (zlf pc 34 (s_ic 0 35))
 (zlf pc 35 (s_cV zpS 15 1 [] zx0 38))))
 (znd pc 39
 (zlf pc 38 (s_aload 0 39))
 (znd pc 42
 (zlf pc 39 (s_gR 12 4 42))
 (zlf pc 42 (s_cI (zpV 0) 16 1 [] zx0 45)))))))
 (znd pc 67
 (znd pc 55
 (znd pc 50
 (znd pc 47
 (zlf pc 45 (s_ic 12 47))
 (zlf pc 47 (s_cmpge 54 50)))
 (znd pc 51
 (zlf pc 50 (s_ic 1 51))
 (znd pc 54
 (zlf pc 51 (s_goto 55))
 (zlf pc 54 (s_ic 0 55)))))
 (znd pc 62
 (znd pc 58
 (zlf pc 55 (s_cV zpS 17 1 [] zx0 58))
 (znd pc 59
 (zlf pc 58 (s_aload 0 59))
 (zlf pc 59 (s_gR 12 4 62))))
 (znd pc 65
 (zlf pc 62 (s_new 8 5 [.int 0, .int 0, .int 0, .int 0, .int 0] 65))
 (znd pc 66
 (zlf pc 65 (s_dup 66))
 (zlf pc 66 (s_iload 1 67))))))
 (znd pc 76
 (znd pc 69
 (znd pc 68
 (zlf pc 67 (s_iload 2 68))
 (zlf pc 68 (s_iload 3 69)))
 (znd pc 72
 (zlf pc 69 (s_cV zpI 126 4 [] zx0 72))
 (znd pc 75
 (zlf pc 72 (s_cI (zpV 0) 27 2 [] zx0 75))
 (zlf pc 75 (s_pop 76)))))
 (znd pc 83
 (znd pc 77
 (zlf pc 76 (s_aload 0 77))
 (znd pc 80
 (zlf pc 77 (s_gR 12 4 80))
 (zlf pc 80 (s_cI (zpV 0) 16 1 [] zx0 83))))
 (znd pc 84
 (zlf pc 83 (s_ic 1 84))
 (znd pc 85
 (zlf pc 84 (s_isub 85))
 (zlf pc 85 (s_rI)))))))
theorem zm_X11_reel (G : Nat × Nat) (pc : Nat) : zMon (zc_X11_reel G pc) := (mo_d (mo_d (mo_d (mo_d (mo_d (mo_l (mo_iload _ _)) (mo_l (mo_ic _ _))) (mo_d (mo_l (mo_cI _ _ _ _ zPre_S zHm_0)) (mo_d (mo_l (mo_cV _ _ _ _ zPre_S zHm_0)) (mo_l (mo_iload _ _))))) (mo_d (mo_d (mo_l (mo_ic _ _)) (mo_l (mo_ic _ _))) (mo_d (mo_l (mo_cI _ _ _ _ zPre_S zHm_0)) (mo_d (mo_l (mo_ifeq _ _)) (mo_l (mo_iload _ _)))))) (mo_d (mo_d (mo_d (mo_l (mo_ic _ _)) (mo_l (mo_ic _ _))) (mo_d (mo_l (mo_cI _ _ _ _ zPre_S zHm_0)) (mo_d (mo_l (mo_ifeq _ _)) (mo_l (mo_ic _ _))))) (mo_d (mo_d (mo_l (mo_goto _)) (mo_d (mo_l (mo_ic _ _)) (mo_l (mo_cV _ _ _ _ zPre_S zHm_0)))) (mo_d (mo_l (mo_aload _ _)) (mo_d (mo_l (mo_gR _ _ _)) (mo_l (mo_cI _ _ _ _ (zPre_V _) zHm_0))))))) (mo_d (mo_d (mo_d (mo_d (mo_l (mo_ic _ _)) (mo_l (mo_cmpge _ _))) (mo_d (mo_l (mo_ic _ _)) (mo_d (mo_l (mo_goto _)) (mo_l (mo_ic _ _))))) (mo_d (mo_d (mo_l (mo_cV _ _ _ _ zPre_S zHm_0)) (mo_d (mo_l (mo_aload _ _)) (mo_l (mo_gR _ _ _)))) (mo_d (mo_l (mo_new _ _ _ _)) (mo_d (mo_l (mo_dup _)) (mo_l (mo_iload _ _)))))) (mo_d (mo_d (mo_d (mo_l (mo_iload _ _)) (mo_l (mo_iload _ _))) (mo_d (mo_l (mo_cV _ _ _ _ zPre_I zHm_0)) (mo_d (mo_l (mo_cI _ _ _ _ (zPre_V _) zHm_0)) (mo_l (mo_pop _))))) (mo_d (mo_d (mo_l (mo_aload _ _)) (mo_d (mo_l (mo_gR _ _ _)) (mo_l (mo_cI _ _ _ _ (zPre_V _) zHm_0)))) (mo_d (mo_l (mo_ic _ _)) (mo_d (mo_l (mo_isub _)) (mo_l (mo_rI))))))))
def zc_X11_reelAt (G : Nat × Nat) : Nat → zSem := fun pc =>
 znd pc 14
 (znd pc 5
 (znd pc 1
 (zlf pc 0 (s_iload 1 1))
 (znd pc 2
 (zlf pc 1 (s_aload 0 2))
 (zlf pc 2 (s_gR 12 4 5))))
 (znd pc 8
 (zlf pc 5 (s_cI (zpV 0) 16 1 [] zx0 8))
 (znd pc 11
 (zlf pc 8 (s_cI zpS 12 2 [] zx0 11))
 (zlf pc 11 (s_ifne 22 14)))))
 (znd pc 26
 (znd pc 22
 (zlf pc 14 (s_thr 0))
 (znd pc 23
 (zlf pc 22 (s_aload 0 23))
 (zlf pc 23 (s_gR 12 4 26))))
 (znd pc 30
 (znd pc 27
 (zlf pc 26 (s_iload 1 27))
 (zlf pc 27 (s_cR (zpV 0) 44 2 [] zx0 30)))
 (znd pc 33
 (zlf pc 30 (s_cast 8 33))
 (zlf pc 33 (s_rR)))))
theorem zm_X11_reelAt (G : Nat × Nat) (pc : Nat) : zMon (zc_X11_reelAt G pc) := (mo_d (mo_d (mo_d (mo_l (mo_iload _ _)) (mo_d (mo_l (mo_aload _ _)) (mo_l (mo_gR _ _ _)))) (mo_d (mo_l (mo_cI _ _ _ _ (zPre_V _) zHm_0)) (mo_d (mo_l (mo_cI _ _ _ _ zPre_S zHm_0)) (mo_l (mo_ifne _ _))))) (mo_d (mo_d (mo_l (mo_thr _)) (mo_d (mo_l (mo_aload _ _)) (mo_l (mo_gR _ _ _)))) (mo_d (mo_d (mo_l (mo_iload _ _)) (mo_l (mo_cR _ _ _ _ (zPre_V _) zHm_0))) (mo_d (mo_l (mo_cast _ _)) (mo_l (mo_rR))))))
def zc_X7_beginClock (G : Nat × Nat) : Nat → zSem := fun pc =>
 znd pc 5
 (znd pc 1
 (zlf pc 0 (s_aload 0 1))
 (znd pc 2
 (zlf pc 1 (s_ic 1 2))
 (zlf pc 2 (s_pZ 8 3 5))))
 (znd pc 7
 (znd pc 6
 (zlf pc 5 (s_aload 0 6))
 (zlf pc 6 (s_iload 1 7)))
 (znd pc 10
 (zlf pc 7 (s_pI 8 4 10))
 (zlf pc 10 (s_rV))))
theorem zm_X7_beginClock (G : Nat × Nat) (pc : Nat) : zMon (zc_X7_beginClock G pc) := (mo_d (mo_d (mo_l (mo_aload _ _)) (mo_d (mo_l (mo_ic _ _)) (mo_l (mo_pZ _ _ _)))) (mo_d (mo_d (mo_l (mo_aload _ _)) (mo_l (mo_iload _ _))) (mo_d (mo_l (mo_pI _ _ _)) (mo_l (mo_rV)))))
def zc_X7_clockAt (G : Nat × Nat) : Nat → zSem := fun pc =>
 znd pc 12
 (znd pc 6
 (znd pc 4
 (znd pc 1
 (zlf pc 0 (s_aload 0 1))
 (zlf pc 1 (s_gI 8 1 4)))
 (znd pc 5
 (zlf pc 4 (s_iload 1 5))
 (zlf pc 5 (s_aload 0 6))))
 (znd pc 10
 (znd pc 9
 (zlf pc 6 (s_gI 8 4 9))
 (zlf pc 9 (s_isub 10)))
 (znd pc 11
 (zlf pc 10 (s_isub 11))
 (zlf pc 11 (s_istore 2 12)))))
 (znd pc 20
 (znd pc 16
 (znd pc 13
 (zlf pc 12 (s_aload 0 13))
 (zlf pc 13 (s_gI 8 3 16)))
 (znd pc 19
 (zlf pc 16 (s_ifeq 27 19))
 (zlf pc 19 (s_iload 2 20))))
 (znd pc 24
 (znd pc 23
 (zlf pc 20 (s_iflt 27 23))
 (zlf pc 23 (s_iload 2 24)))
 (znd pc 27
 (zlf pc 24 (s_goto 28))
 (znd pc 28
 (zlf pc 27 (s_ic (-1) 28))
 (zlf pc 28 (s_rI))))))
theorem zm_X7_clockAt (G : Nat × Nat) (pc : Nat) : zMon (zc_X7_clockAt G pc) := (mo_d (mo_d (mo_d (mo_d (mo_l (mo_aload _ _)) (mo_l (mo_gI _ _ _))) (mo_d (mo_l (mo_iload _ _)) (mo_l (mo_aload _ _)))) (mo_d (mo_d (mo_l (mo_gI _ _ _)) (mo_l (mo_isub _))) (mo_d (mo_l (mo_isub _)) (mo_l (mo_istore _ _))))) (mo_d (mo_d (mo_d (mo_l (mo_aload _ _)) (mo_l (mo_gI _ _ _))) (mo_d (mo_l (mo_ifeq _ _)) (mo_l (mo_iload _ _)))) (mo_d (mo_d (mo_l (mo_iflt _ _)) (mo_l (mo_iload _ _))) (mo_d (mo_l (mo_goto _)) (mo_d (mo_l (mo_ic _ _)) (mo_l (mo_rI)))))))
def zc_X11_open (G : Nat × Nat) : Nat → zSem := fun pc =>
 znd pc 21
 (znd pc 7
 (znd pc 2
 (znd pc 1
 (zlf pc 0 (s_aload 0 1))
 (zlf pc 1 (s_iload 1 2)))
 (znd pc 5
 (zlf pc 2 (s_cR (zpV 12) 130 2 [] zx0 5))
 (znd pc 6
 (zlf pc 5 (s_astore 3 6))
 (zlf pc 6 (s_iload 2 7)))))
 (znd pc 14
 (znd pc 10
 (zlf pc 7 (s_ifne 17 10))
 (znd pc 11
 (zlf pc 10 (s_aload 3 11))
 (zlf pc 11 (s_gI 8 3 14))))
 (znd pc 17
 (zlf pc 14 (s_ifne 21 17))
 (znd pc 18
 (zlf pc 17 (s_ic 1 18))
 (zlf pc 18 (s_goto 22))))))
 (znd pc 30
 (znd pc 25
 (znd pc 22
 (zlf pc 21 (s_ic 0 22))
 (zlf pc 22 (s_cV zpS 17 1 [] zx0 25)))
 (znd pc 26
 (zlf pc 25 (s_aload 3 26))
 (znd pc 27
 (zlf pc 26 (s_aload 0 27))
 (zlf pc 27 (s_gI 12 7 30)))))
 (znd pc 35
 (znd pc 33
 (zlf pc 30 (s_cV (zpV 8) 131 2 [] zx0 33))
 (znd pc 34
 (zlf pc 33 (s_aload 3 34))
 (zlf pc 34 (s_aload 0 35))))
 (znd pc 38
 (zlf pc 35 (s_gI 12 7 38))
 (znd pc 41
 (zlf pc 38 (s_cI (zpV 8) 132 2 [zU] zx0 41))
 (zlf pc 41 (s_rI))))))
theorem zm_X11_open (G : Nat × Nat) (pc : Nat) : zMon (zc_X11_open G pc) := (mo_d (mo_d (mo_d (mo_d (mo_l (mo_aload _ _)) (mo_l (mo_iload _ _))) (mo_d (mo_l (mo_cR _ _ _ _ (zPre_V _) zHm_0)) (mo_d (mo_l (mo_astore _ _)) (mo_l (mo_iload _ _))))) (mo_d (mo_d (mo_l (mo_ifne _ _)) (mo_d (mo_l (mo_aload _ _)) (mo_l (mo_gI _ _ _)))) (mo_d (mo_l (mo_ifne _ _)) (mo_d (mo_l (mo_ic _ _)) (mo_l (mo_goto _)))))) (mo_d (mo_d (mo_d (mo_l (mo_ic _ _)) (mo_l (mo_cV _ _ _ _ zPre_S zHm_0))) (mo_d (mo_l (mo_aload _ _)) (mo_d (mo_l (mo_aload _ _)) (mo_l (mo_gI _ _ _))))) (mo_d (mo_d (mo_l (mo_cV _ _ _ _ (zPre_V _) zHm_0)) (mo_d (mo_l (mo_aload _ _)) (mo_l (mo_aload _ _)))) (mo_d (mo_l (mo_gI _ _ _)) (mo_d (mo_l (mo_cI _ _ _ _ (zPre_V _) zHm_0)) (mo_l (mo_rI)))))))
def zc_X11_ofReel (G : Nat × Nat) : Nat → zSem := fun pc =>
 znd pc 20
 (znd pc 8
 (znd pc 5
 (znd pc 1
 (zlf pc 0 (s_aload 0 1))
 (znd pc 2
 (zlf pc 1 (s_iload 1 2))
 (zlf pc 2 (s_cR (zpV 12) 130 2 [] zx0 5))))
 (znd pc 6
 (zlf pc 5 (s_astore 3 6))
 (znd pc 7
 (zlf pc 6 (s_iload 2 7))
 (zlf pc 7 (s_ic 0 8)))))
 (znd pc 15
 (znd pc 9
 (zlf pc 8 (s_ic 2 9))
 (znd pc 12
 (zlf pc 9 (s_cI zpS 14 3 [] zx0 12))
 (zlf pc 12 (s_cV zpS 13 1 [] zx0 15))))
 (znd pc 16
 (zlf pc 15 (s_iload 2 16))
 (znd pc 19
 (zlf pc 16 (s_ifne 24 19))
 (zlf pc 19 (s_aload 3 20))))))
 (znd pc 30
 (znd pc 25
 (znd pc 23
 (zlf pc 20 (s_gI 8 0 23))
 (znd pc 24
 (zlf pc 23 (s_rI))
 (zlf pc 24 (s_iload 2 25))))
 (znd pc 26
 (zlf pc 25 (s_ic 1 26))
 (znd pc 29
 (zlf pc 26 (s_cmpne 36 29))
 (zlf pc 29 (s_aload 3 30)))))
 (znd pc 37
 (znd pc 33
 (zlf pc 30 (s_gI 8 2 33))
 (znd pc 36
 (zlf pc 33 (s_goto 44))
 (zlf pc 36 (s_aload 3 37))))
 (znd pc 41
 (znd pc 38
 (zlf pc 37 (s_aload 0 38))
 (zlf pc 38 (s_gI 12 7 41)))
 (znd pc 44
 (zlf pc 41 (s_cI (zpV 8) 132 2 [zU] zx0 44))
 (zlf pc 44 (s_rI))))))
theorem zm_X11_ofReel (G : Nat × Nat) (pc : Nat) : zMon (zc_X11_ofReel G pc) := (mo_d (mo_d (mo_d (mo_d (mo_l (mo_aload _ _)) (mo_d (mo_l (mo_iload _ _)) (mo_l (mo_cR _ _ _ _ (zPre_V _) zHm_0)))) (mo_d (mo_l (mo_astore _ _)) (mo_d (mo_l (mo_iload _ _)) (mo_l (mo_ic _ _))))) (mo_d (mo_d (mo_l (mo_ic _ _)) (mo_d (mo_l (mo_cI _ _ _ _ zPre_S zHm_0)) (mo_l (mo_cV _ _ _ _ zPre_S zHm_0)))) (mo_d (mo_l (mo_iload _ _)) (mo_d (mo_l (mo_ifne _ _)) (mo_l (mo_aload _ _)))))) (mo_d (mo_d (mo_d (mo_l (mo_gI _ _ _)) (mo_d (mo_l (mo_rI)) (mo_l (mo_iload _ _)))) (mo_d (mo_l (mo_ic _ _)) (mo_d (mo_l (mo_cmpne _ _)) (mo_l (mo_aload _ _))))) (mo_d (mo_d (mo_l (mo_gI _ _ _)) (mo_d (mo_l (mo_goto _)) (mo_l (mo_aload _ _)))) (mo_d (mo_d (mo_l (mo_aload _ _)) (mo_l (mo_gI _ _ _))) (mo_d (mo_l (mo_cI _ _ _ _ (zPre_V _) zHm_0)) (mo_l (mo_rI)))))))
def zc_X9_init (G : Nat × Nat) : Nat → zSem := fun pc =>
 znd pc 11
 (znd pc 5
 (znd pc 1
 (zlf pc 0 (s_aload 0 1))
 (znd pc 4
 (zlf pc 1 (s_obj 4))
 (zlf pc 4 (s_aload 0 5))))
 (znd pc 9
 (znd pc 6
 (zlf pc 5 (s_ic (-1) 6))
 (zlf pc 6 (s_pI 10 0 9)))
 (znd pc 10
 (zlf pc 9 (s_aload 0 10))
 (zlf pc 10 (s_ic (-1) 11)))))
 (znd pc 19
 (znd pc 15
 (znd pc 14
 (zlf pc 11 (s_pI 10 1 14))
 (zlf pc 14 (s_aload 0 15)))
 (znd pc 16
 (zlf pc 15 (s_ic (-1) 16))
 (zlf pc 16 (s_pI 10 2 19))))
 (znd pc 21
 (znd pc 20
 (zlf pc 19 (s_aload 0 20))
 (zlf pc 20 (s_ic 0 21)))
 (znd pc 24
 (zlf pc 21 (s_pI 10 3 24))
 (zlf pc 24 (s_rV)))))
theorem zm_X9_init (G : Nat × Nat) (pc : Nat) : zMon (zc_X9_init G pc) := (mo_d (mo_d (mo_d (mo_l (mo_aload _ _)) (mo_d (mo_l (mo_obj _)) (mo_l (mo_aload _ _)))) (mo_d (mo_d (mo_l (mo_ic _ _)) (mo_l (mo_pI _ _ _))) (mo_d (mo_l (mo_aload _ _)) (mo_l (mo_ic _ _))))) (mo_d (mo_d (mo_d (mo_l (mo_pI _ _ _)) (mo_l (mo_aload _ _))) (mo_d (mo_l (mo_ic _ _)) (mo_l (mo_pI _ _ _)))) (mo_d (mo_d (mo_l (mo_aload _ _)) (mo_l (mo_ic _ _))) (mo_d (mo_l (mo_pI _ _ _)) (mo_l (mo_rV))))))
def zc_X0_init (G : Nat × Nat) : Nat → zSem := fun pc =>
 znd pc 28
 (znd pc 15
 (znd pc 5
 (znd pc 1
 (zlf pc 0 (s_aload 0 1))
 (znd pc 4
 (zlf pc 1 (s_obj 4))
 (zlf pc 4 (s_aload 0 5))))
 (znd pc 9
 (znd pc 8
 (zlf pc 5 (s_new 0 3 [.int 0, .null, .int 0] 8))
 (zlf pc 8 (s_dup 9)))
 (znd pc 12
 (zlf pc 9 (s_cV zpI 2 1 [] zx0 12))
 (zlf pc 12 (s_pR 1 3 15)))))
 (znd pc 20
 (znd pc 16
 (zlf pc 15 (s_aload 0 16))
 (znd pc 19
 (zlf pc 16 (s_new 9 1 [.null] 19))
 (zlf pc 19 (s_dup 20))))
 (znd pc 24
 (znd pc 21
 (zlf pc 20 (s_ic 4 21))
 (zlf pc 21 (s_cV zpI 3 2 [] zx0 24)))
 (znd pc 27
 (zlf pc 24 (s_pR 1 4 27))
 (zlf pc 27 (s_ic 0 28))))))
 (znd pc 42
 (znd pc 32
 (znd pc 29
 (zlf pc 28 (s_istore 1 29))
 (znd pc 30
 (zlf pc 29 (s_iload 1 30))
 (zlf pc 30 (s_ic 8 32))))
 (znd pc 36
 (znd pc 35
 (zlf pc 32 (s_cmpge 56 35))
 (zlf pc 35 (s_aload 0 36)))
 (znd pc 39
 (zlf pc 36 (s_gR 1 3 39))
 (zlf pc 39 (s_new 10 8 [.int 0, .int 0, .int 0, .int 0, .int 0, .int 0, .int 0, .int 0] 42)))))
 (znd pc 49
 (znd pc 43
 (zlf pc 42 (s_dup 43))
 (znd pc 46
 (zlf pc 43 (s_cV zpI 141 1 [] zx0 46))
 (zlf pc 46 (s_cI (zpV 0) 27 2 [] zx0 49))))
 (znd pc 53
 (znd pc 50
 (zlf pc 49 (s_pop 50))
 (zlf pc 50 (s_iinc 1 1 53)))
 (znd pc 56
 (zlf pc 53 (s_goto 29))
 (zlf pc 56 (s_rV))))))
theorem zm_X0_init (G : Nat × Nat) (pc : Nat) : zMon (zc_X0_init G pc) := (mo_d (mo_d (mo_d (mo_d (mo_l (mo_aload _ _)) (mo_d (mo_l (mo_obj _)) (mo_l (mo_aload _ _)))) (mo_d (mo_d (mo_l (mo_new _ _ _ _)) (mo_l (mo_dup _))) (mo_d (mo_l (mo_cV _ _ _ _ zPre_I zHm_0)) (mo_l (mo_pR _ _ _))))) (mo_d (mo_d (mo_l (mo_aload _ _)) (mo_d (mo_l (mo_new _ _ _ _)) (mo_l (mo_dup _)))) (mo_d (mo_d (mo_l (mo_ic _ _)) (mo_l (mo_cV _ _ _ _ zPre_I zHm_0))) (mo_d (mo_l (mo_pR _ _ _)) (mo_l (mo_ic _ _)))))) (mo_d (mo_d (mo_d (mo_l (mo_istore _ _)) (mo_d (mo_l (mo_iload _ _)) (mo_l (mo_ic _ _)))) (mo_d (mo_d (mo_l (mo_cmpge _ _)) (mo_l (mo_aload _ _))) (mo_d (mo_l (mo_gR _ _ _)) (mo_l (mo_new _ _ _ _))))) (mo_d (mo_d (mo_l (mo_dup _)) (mo_d (mo_l (mo_cV _ _ _ _ zPre_I zHm_0)) (mo_l (mo_cI _ _ _ _ (zPre_V _) zHm_0)))) (mo_d (mo_d (mo_l (mo_pop _)) (mo_l (mo_iinc _ _ _))) (mo_d (mo_l (mo_goto _)) (mo_l (mo_rV)))))))
def zc_X11_board (G : Nat × Nat) : Nat → zSem := fun pc =>
 znd pc 24
 (znd pc 12
 (znd pc 4
 (znd pc 1
 (zlf pc 0 (s_aload 0 1))
 (zlf pc 1 (s_gR 12 5 4)))
 (znd pc 7
 (zlf pc 4 (s_cI (zpV 0) 16 1 [] zx0 7))
 (znd pc 9
 (zlf pc 7 (s_ic 12 9))
 (zlf pc 9 (s_cmpge 16 12)))))
 (znd pc 17
 (znd pc 13
 (zlf pc 12 (s_ic 1 13))
 (znd pc 16
 (zlf pc 13 (s_goto 17))
 (zlf pc 16 (s_ic 0 17))))
 (znd pc 20
 (zlf pc 17 (s_cV zpS 17 1 [] zx0 20))
 (znd pc 21
 (zlf pc 20 (s_aload 0 21))
 (zlf pc 21 (s_gR 12 5 24))))))
 (znd pc 35
 (znd pc 28
 (znd pc 27
 (zlf pc 24 (s_new 1 5 [.int 0, .int 0, .int 0, .null, .null] 27))
 (zlf pc 27 (s_dup 28)))
 (znd pc 31
 (zlf pc 28 (s_cV zpI 142 1 [zU] zx0 31))
 (znd pc 34
 (zlf pc 31 (s_cI (zpV 0) 27 2 [] zx0 34))
 (zlf pc 34 (s_pop 35)))))
 (znd pc 42
 (znd pc 36
 (zlf pc 35 (s_aload 0 36))
 (znd pc 39
 (zlf pc 36 (s_gR 12 5 39))
 (zlf pc 39 (s_cI (zpV 0) 16 1 [] zx0 42))))
 (znd pc 43
 (zlf pc 42 (s_ic 1 43))
 (znd pc 44
 (zlf pc 43 (s_isub 44))
 (zlf pc 44 (s_rI))))))
theorem zm_X11_board (G : Nat × Nat) (pc : Nat) : zMon (zc_X11_board G pc) := (mo_d (mo_d (mo_d (mo_d (mo_l (mo_aload _ _)) (mo_l (mo_gR _ _ _))) (mo_d (mo_l (mo_cI _ _ _ _ (zPre_V _) zHm_0)) (mo_d (mo_l (mo_ic _ _)) (mo_l (mo_cmpge _ _))))) (mo_d (mo_d (mo_l (mo_ic _ _)) (mo_d (mo_l (mo_goto _)) (mo_l (mo_ic _ _)))) (mo_d (mo_l (mo_cV _ _ _ _ zPre_S zHm_0)) (mo_d (mo_l (mo_aload _ _)) (mo_l (mo_gR _ _ _)))))) (mo_d (mo_d (mo_d (mo_l (mo_new _ _ _ _)) (mo_l (mo_dup _))) (mo_d (mo_l (mo_cV _ _ _ _ zPre_I zHm_0)) (mo_d (mo_l (mo_cI _ _ _ _ (zPre_V _) zHm_0)) (mo_l (mo_pop _))))) (mo_d (mo_d (mo_l (mo_aload _ _)) (mo_d (mo_l (mo_gR _ _ _)) (mo_l (mo_cI _ _ _ _ (zPre_V _) zHm_0)))) (mo_d (mo_l (mo_ic _ _)) (mo_d (mo_l (mo_isub _)) (mo_l (mo_rI)))))))
def zc_X11_boardAt (G : Nat × Nat) : Nat → zSem := fun pc =>
 znd pc 14
 (znd pc 5
 (znd pc 1
 (zlf pc 0 (s_iload 1 1))
 (znd pc 2
 (zlf pc 1 (s_aload 0 2))
 (zlf pc 2 (s_gR 12 5 5))))
 (znd pc 8
 (zlf pc 5 (s_cI (zpV 0) 16 1 [] zx0 8))
 (znd pc 11
 (zlf pc 8 (s_cI zpS 12 2 [] zx0 11))
 (zlf pc 11 (s_ifne 22 14)))))
 (znd pc 26
 (znd pc 22
 (zlf pc 14 (s_thr 0))
 (znd pc 23
 (zlf pc 22 (s_aload 0 23))
 (zlf pc 23 (s_gR 12 5 26))))
 (znd pc 30
 (znd pc 27
 (zlf pc 26 (s_iload 1 27))
 (zlf pc 27 (s_cR (zpV 0) 44 2 [] zx0 30)))
 (znd pc 33
 (zlf pc 30 (s_cast 1 33))
 (zlf pc 33 (s_rR)))))
theorem zm_X11_boardAt (G : Nat × Nat) (pc : Nat) : zMon (zc_X11_boardAt G pc) := (mo_d (mo_d (mo_d (mo_l (mo_iload _ _)) (mo_d (mo_l (mo_aload _ _)) (mo_l (mo_gR _ _ _)))) (mo_d (mo_l (mo_cI _ _ _ _ (zPre_V _) zHm_0)) (mo_d (mo_l (mo_cI _ _ _ _ zPre_S zHm_0)) (mo_l (mo_ifne _ _))))) (mo_d (mo_d (mo_l (mo_thr _)) (mo_d (mo_l (mo_aload _ _)) (mo_l (mo_gR _ _ _)))) (mo_d (mo_d (mo_l (mo_iload _ _)) (mo_l (mo_cR _ _ _ _ (zPre_V _) zHm_0))) (mo_d (mo_l (mo_cast _ _)) (mo_l (mo_rR))))))
def zc_X0_slotAt (G : Nat × Nat) : Nat → zSem := fun pc =>
 znd pc 14
 (znd pc 5
 (znd pc 1
 (zlf pc 0 (s_iload 1 1))
 (znd pc 2
 (zlf pc 1 (s_aload 0 2))
 (zlf pc 2 (s_gR 1 3 5))))
 (znd pc 8
 (zlf pc 5 (s_cI (zpV 0) 16 1 [] zx0 8))
 (znd pc 11
 (zlf pc 8 (s_cI zpS 12 2 [] zx0 11))
 (zlf pc 11 (s_ifne 22 14)))))
 (znd pc 26
 (znd pc 22
 (zlf pc 14 (s_thr 0))
 (znd pc 23
 (zlf pc 22 (s_aload 0 23))
 (zlf pc 23 (s_gR 1 3 26))))
 (znd pc 30
 (znd pc 27
 (zlf pc 26 (s_iload 1 27))
 (zlf pc 27 (s_cR (zpV 0) 44 2 [] zx0 30)))
 (znd pc 33
 (zlf pc 30 (s_cast 10 33))
 (zlf pc 33 (s_rR)))))
theorem zm_X0_slotAt (G : Nat × Nat) (pc : Nat) : zMon (zc_X0_slotAt G pc) := (mo_d (mo_d (mo_d (mo_l (mo_iload _ _)) (mo_d (mo_l (mo_aload _ _)) (mo_l (mo_gR _ _ _)))) (mo_d (mo_l (mo_cI _ _ _ _ (zPre_V _) zHm_0)) (mo_d (mo_l (mo_cI _ _ _ _ zPre_S zHm_0)) (mo_l (mo_ifne _ _))))) (mo_d (mo_d (mo_l (mo_thr _)) (mo_d (mo_l (mo_aload _ _)) (mo_l (mo_gR _ _ _)))) (mo_d (mo_d (mo_l (mo_iload _ _)) (mo_l (mo_cR _ _ _ _ (zPre_V _) zHm_0))) (mo_d (mo_l (mo_cast _ _)) (mo_l (mo_rR))))))
def zc_X9_hasPart (G : Nat × Nat) : Nat → zSem := fun pc =>
 znd pc 8
 (znd pc 4
 (znd pc 1
 (zlf pc 0 (s_aload 0 1))
 (zlf pc 1 (s_gI 10 0 4)))
 (znd pc 5
 (zlf pc 4 (s_ic (-1) 5))
 (zlf pc 5 (s_cmpeq 12 8))))
 (znd pc 12
 (znd pc 9
 (zlf pc 8 (s_ic 1 9))
 (zlf pc 9 (s_goto 13)))
 (znd pc 13
 (zlf pc 12 (s_ic 0 13))
 (zlf pc 13 (s_rZ))))
theorem zm_X9_hasPart (G : Nat × Nat) (pc : Nat) : zMon (zc_X9_hasPart G pc) := (mo_d (mo_d (mo_d (mo_l (mo_aload _ _)) (mo_l (mo_gI _ _ _))) (mo_d (mo_l (mo_ic _ _)) (mo_l (mo_cmpeq _ _)))) (mo_d (mo_d (mo_l (mo_ic _ _)) (mo_l (mo_goto _))) (mo_d (mo_l (mo_ic _ _)) (mo_l (mo_rZ)))))
def zc_X7_gives (G : Nat × Nat) : Nat → zSem := fun pc =>
 znd pc 12
 (znd pc 7
 (znd pc 1
 (zlf pc 0 (s_aload 0 1))
 (znd pc 4
 (zlf pc 1 (s_gI 8 2 4))
 (zlf pc 4 (s_ifle 20 7))))
 (znd pc 8
 (zlf pc 7 (s_aload 0 8))
 (znd pc 9
 (zlf pc 8 (s_iload 1 9))
 (zlf pc 9 (s_cI (zpV 8) 132 2 [zU] zx0 12)))))
 (znd pc 17
 (znd pc 13
 (zlf pc 12 (s_ic (-1) 13))
 (znd pc 16
 (zlf pc 13 (s_cmpeq 20 16))
 (zlf pc 16 (s_ic 1 17))))
 (znd pc 20
 (zlf pc 17 (s_goto 21))
 (znd pc 21
 (zlf pc 20 (s_ic 0 21))
 (zlf pc 21 (s_rZ)))))
theorem zm_X7_gives (G : Nat × Nat) (pc : Nat) : zMon (zc_X7_gives G pc) := (mo_d (mo_d (mo_d (mo_l (mo_aload _ _)) (mo_d (mo_l (mo_gI _ _ _)) (mo_l (mo_ifle _ _)))) (mo_d (mo_l (mo_aload _ _)) (mo_d (mo_l (mo_iload _ _)) (mo_l (mo_cI _ _ _ _ (zPre_V _) zHm_0))))) (mo_d (mo_d (mo_l (mo_ic _ _)) (mo_d (mo_l (mo_cmpeq _ _)) (mo_l (mo_ic _ _)))) (mo_d (mo_l (mo_goto _)) (mo_d (mo_l (mo_ic _ _)) (mo_l (mo_rZ))))))
def zc_X9_fill (G : Nat × Nat) : Nat → zSem := fun pc =>
 znd pc 12
 (znd pc 6
 (znd pc 2
 (znd pc 1
 (zlf pc 0 (s_aload 2 1))
 (zlf pc 1 (s_dup 2)))
 (znd pc 5
 (zlf pc 2 (s_gI 8 2 5))
 (zlf pc 5 (s_ic 1 6))))
 (znd pc 10
 (znd pc 7
 (zlf pc 6 (s_isub 7))
 (zlf pc 7 (s_pI 8 2 10)))
 (znd pc 11
 (zlf pc 10 (s_aload 0 11))
 (zlf pc 11 (s_aload 2 12)))))
 (znd pc 20
 (znd pc 18
 (znd pc 15
 (zlf pc 12 (s_gI 8 0 15))
 (zlf pc 15 (s_pI 10 0 18)))
 (znd pc 19
 (zlf pc 18 (s_aload 0 19))
 (zlf pc 19 (s_iload 1 20))))
 (znd pc 24
 (znd pc 23
 (zlf pc 20 (s_pI 10 1 23))
 (zlf pc 23 (s_aload 0 24)))
 (znd pc 25
 (zlf pc 24 (s_iload 3 25))
 (znd pc 28
 (zlf pc 25 (s_pI 10 2 28))
 (zlf pc 28 (s_rV))))))
theorem zm_X9_fill (G : Nat × Nat) (pc : Nat) : zMon (zc_X9_fill G pc) := (mo_d (mo_d (mo_d (mo_d (mo_l (mo_aload _ _)) (mo_l (mo_dup _))) (mo_d (mo_l (mo_gI _ _ _)) (mo_l (mo_ic _ _)))) (mo_d (mo_d (mo_l (mo_isub _)) (mo_l (mo_pI _ _ _))) (mo_d (mo_l (mo_aload _ _)) (mo_l (mo_aload _ _))))) (mo_d (mo_d (mo_d (mo_l (mo_gI _ _ _)) (mo_l (mo_pI _ _ _))) (mo_d (mo_l (mo_aload _ _)) (mo_l (mo_iload _ _)))) (mo_d (mo_d (mo_l (mo_pI _ _ _)) (mo_l (mo_aload _ _))) (mo_d (mo_l (mo_iload _ _)) (mo_d (mo_l (mo_pI _ _ _)) (mo_l (mo_rV)))))))
def zc_X11_place (G : Nat × Nat) : Nat → zSem := fun pc =>
 znd pc 38
 (znd pc 16
 (znd pc 7
 (znd pc 2
 (znd pc 1
 (zlf pc 0 (s_aload 0 1))
 (zlf pc 1 (s_iload 1 2)))
 (znd pc 5
 (zlf pc 2 (s_cR (zpV 12) 146 2 [] zx0 5))
 (zlf pc 5 (s_astore 4 7))))
 (znd pc 10
 (znd pc 9
 (zlf pc 7 (s_aload 4 9))
 (zlf pc 9 (s_iload 2 10)))
 (znd pc 13
 (zlf pc 10 (s_cR (zpV 1) 147 2 [] zx0 13))
 (znd pc 15
 (zlf pc 13 (s_astore 5 15))
 (zlf pc 15 (s_aload 0 16))))))
 (znd pc 24
 (znd pc 20
 (znd pc 17
 (zlf pc 16 (s_iload 3 17))
 (zlf pc 17 (s_cR (zpV 12) 130 2 [] zx0 20)))
 (znd pc 22
 (zlf pc 20 (s_astore 6 22))
 (zlf pc 22 (s_aload 4 24))))
 (znd pc 30
 (znd pc 27
 (zlf pc 24 (s_gI 1 0 27))
 (zlf pc 27 (s_ifne 54 30)))
 (znd pc 32
 (zlf pc 30 (s_aload 5 32))
 (znd pc 35
 (zlf pc 32 (s_cI (zpV 10) 148 1 [] zx0 35))
 (zlf pc 35 (s_ifne 54 38)))))))
 (znd pc 58
 (znd pc 47
 (znd pc 41
 (znd pc 40
 (zlf pc 38 (s_aload 6 40))
 (zlf pc 40 (s_aload 0 41)))
 (znd pc 44
 (zlf pc 41 (s_gI 12 7 44))
 (zlf pc 44 (s_cI (zpV 8) 149 2 [] zx0 47))))
 (znd pc 51
 (znd pc 50
 (zlf pc 47 (s_ifeq 54 50))
 (zlf pc 50 (s_ic 1 51)))
 (znd pc 54
 (zlf pc 51 (s_goto 55))
 (znd pc 55
 (zlf pc 54 (s_ic 0 55))
 (zlf pc 55 (s_cV zpS 17 1 [] zx0 58))))))
 (znd pc 64
 (znd pc 61
 (znd pc 60
 (zlf pc 58 (s_aload 5 60))
 (zlf pc 60 (s_iload 3 61)))
 (znd pc 63
 (zlf pc 61 (s_aload 6 63))
 (zlf pc 63 (s_aload 0 64))))
 (znd pc 70
 (znd pc 67
 (zlf pc 64 (s_gI 12 7 67))
 (zlf pc 67 (s_cV (zpV 10) 150 4 [] zx0 70)))
 (znd pc 72
 (zlf pc 70 (s_aload 6 72))
 (znd pc 75
 (zlf pc 72 (s_gI 8 2 75))
 (zlf pc 75 (s_rI)))))))
theorem zm_X11_place (G : Nat × Nat) (pc : Nat) : zMon (zc_X11_place G pc) := (mo_d (mo_d (mo_d (mo_d (mo_d (mo_l (mo_aload _ _)) (mo_l (mo_iload _ _))) (mo_d (mo_l (mo_cR _ _ _ _ (zPre_V _) zHm_0)) (mo_l (mo_astore _ _)))) (mo_d (mo_d (mo_l (mo_aload _ _)) (mo_l (mo_iload _ _))) (mo_d (mo_l (mo_cR _ _ _ _ (zPre_V _) zHm_0)) (mo_d (mo_l (mo_astore _ _)) (mo_l (mo_aload _ _)))))) (mo_d (mo_d (mo_d (mo_l (mo_iload _ _)) (mo_l (mo_cR _ _ _ _ (zPre_V _) zHm_0))) (mo_d (mo_l (mo_astore _ _)) (mo_l (mo_aload _ _)))) (mo_d (mo_d (mo_l (mo_gI _ _ _)) (mo_l (mo_ifne _ _))) (mo_d (mo_l (mo_aload _ _)) (mo_d (mo_l (mo_cI _ _ _ _ (zPre_V _) zHm_0)) (mo_l (mo_ifne _ _))))))) (mo_d (mo_d (mo_d (mo_d (mo_l (mo_aload _ _)) (mo_l (mo_aload _ _))) (mo_d (mo_l (mo_gI _ _ _)) (mo_l (mo_cI _ _ _ _ (zPre_V _) zHm_0)))) (mo_d (mo_d (mo_l (mo_ifeq _ _)) (mo_l (mo_ic _ _))) (mo_d (mo_l (mo_goto _)) (mo_d (mo_l (mo_ic _ _)) (mo_l (mo_cV _ _ _ _ zPre_S zHm_0)))))) (mo_d (mo_d (mo_d (mo_l (mo_aload _ _)) (mo_l (mo_iload _ _))) (mo_d (mo_l (mo_aload _ _)) (mo_l (mo_aload _ _)))) (mo_d (mo_d (mo_l (mo_gI _ _ _)) (mo_l (mo_cV _ _ _ _ (zPre_V _) zHm_0))) (mo_d (mo_l (mo_aload _ _)) (mo_d (mo_l (mo_gI _ _ _)) (mo_l (mo_rI))))))))
def zc_X11_limits (G : Nat × Nat) : Nat → zSem := fun pc =>
 znd pc 49
 (znd pc 22
 (znd pc 9
 (znd pc 2
 (znd pc 1
 (zlf pc 0 (s_iload 2 1))
 (zlf pc 1 (s_iload 1 2)))
 (znd pc 5
 (zlf pc 2 (s_ifeq 9 5))
 (znd pc 6
 (zlf pc 5 (s_ic 4 6))
 (zlf pc 6 (s_goto 11)))))
 (znd pc 17
 (znd pc 11
 (zlf pc 9 (s_ic 6 11))
 (znd pc 14
 (zlf pc 11 (s_cI zpS 12 2 [] zx0 14))
 (zlf pc 14 (s_cV zpS 13 1 [] zx0 17))))
 (znd pc 18
 (zlf pc 17 (s_iload 3 18))
 (znd pc 19
 (zlf pc 18 (s_ic 0 19))
 (zlf pc 19 (s_ic 400 22))))))
 (znd pc 35
 (znd pc 29
 (znd pc 25
 (zlf pc 22 (s_cI zpS 14 3 [] zx0 25))
 (znd pc 28
 (zlf pc 25 (s_ifeq 48 28))
 (zlf pc 28 (s_iload 1 29))))
 (znd pc 32
 (zlf pc 29 (s_ifne 44 32))
 (znd pc 34
 (zlf pc 32 (s_iload 4 34))
 (zlf pc 34 (s_iload 3 35)))))
 (znd pc 44
 (znd pc 38
 (zlf pc 35 (s_ic 400 38))
 (znd pc 41
 (zlf pc 38 (s_cI zpS 14 3 [] zx0 41))
 (zlf pc 41 (s_ifeq 48 44))))
 (znd pc 45
 (zlf pc 44 (s_ic 1 45))
 (znd pc 48
 (zlf pc 45 (s_goto 49))
 (zlf pc 48 (s_ic 0 49)))))))
 (znd pc 72
 (znd pc 60
 (znd pc 53
 (znd pc 52
 (zlf pc 49 (s_cV zpS 15 1 [] zx0 52))
 (zlf pc 52 (s_iload 1 53)))
 (znd pc 56
 (zlf pc 53 (s_ifeq 71 56))
 (znd pc 57
 (zlf pc 56 (s_aload 0 57))
 (zlf pc 57 (s_gR 12 3 60)))))
 (znd pc 65
 (znd pc 63
 (zlf pc 60 (s_gR 7 0 63))
 (znd pc 64
 (zlf pc 63 (s_iload 2 64))
 (zlf pc 64 (s_iload 3 65))))
 (znd pc 68
 (zlf pc 65 (s_cV (zpV 9) 7 3 [] zx0 68))
 (znd pc 71
 (zlf pc 68 (s_goto 96))
 (zlf pc 71 (s_aload 0 72))))))
 (znd pc 84
 (znd pc 79
 (znd pc 75
 (zlf pc 72 (s_gR 12 3 75))
 (znd pc 78
 (zlf pc 75 (s_gR 7 1 78))
 (zlf pc 78 (s_iload 2 79))))
 (znd pc 80
 (zlf pc 79 (s_iload 3 80))
 (znd pc 83
 (zlf pc 80 (s_cV (zpV 9) 7 3 [] zx0 83))
 (zlf pc 83 (s_aload 0 84)))))
 (znd pc 91
 (znd pc 87
 (zlf pc 84 (s_gR 12 3 87))
 (znd pc 90
 (zlf pc 87 (s_gR 7 2 90))
 (zlf pc 90 (s_iload 2 91))))
 (znd pc 93
 (zlf pc 91 (s_iload 4 93))
 (znd pc 96
 (zlf pc 93 (s_cV (zpV 9) 7 3 [] zx0 96))
 (zlf pc 96 (s_rV)))))))
theorem zm_X11_limits (G : Nat × Nat) (pc : Nat) : zMon (zc_X11_limits G pc) := (mo_d (mo_d (mo_d (mo_d (mo_d (mo_l (mo_iload _ _)) (mo_l (mo_iload _ _))) (mo_d (mo_l (mo_ifeq _ _)) (mo_d (mo_l (mo_ic _ _)) (mo_l (mo_goto _))))) (mo_d (mo_d (mo_l (mo_ic _ _)) (mo_d (mo_l (mo_cI _ _ _ _ zPre_S zHm_0)) (mo_l (mo_cV _ _ _ _ zPre_S zHm_0)))) (mo_d (mo_l (mo_iload _ _)) (mo_d (mo_l (mo_ic _ _)) (mo_l (mo_ic _ _)))))) (mo_d (mo_d (mo_d (mo_l (mo_cI _ _ _ _ zPre_S zHm_0)) (mo_d (mo_l (mo_ifeq _ _)) (mo_l (mo_iload _ _)))) (mo_d (mo_l (mo_ifne _ _)) (mo_d (mo_l (mo_iload _ _)) (mo_l (mo_iload _ _))))) (mo_d (mo_d (mo_l (mo_ic _ _)) (mo_d (mo_l (mo_cI _ _ _ _ zPre_S zHm_0)) (mo_l (mo_ifeq _ _)))) (mo_d (mo_l (mo_ic _ _)) (mo_d (mo_l (mo_goto _)) (mo_l (mo_ic _ _))))))) (mo_d (mo_d (mo_d (mo_d (mo_l (mo_cV _ _ _ _ zPre_S zHm_0)) (mo_l (mo_iload _ _))) (mo_d (mo_l (mo_ifeq _ _)) (mo_d (mo_l (mo_aload _ _)) (mo_l (mo_gR _ _ _))))) (mo_d (mo_d (mo_l (mo_gR _ _ _)) (mo_d (mo_l (mo_iload _ _)) (mo_l (mo_iload _ _)))) (mo_d (mo_l (mo_cV _ _ _ _ (zPre_V _) zHm_0)) (mo_d (mo_l (mo_goto _)) (mo_l (mo_aload _ _)))))) (mo_d (mo_d (mo_d (mo_l (mo_gR _ _ _)) (mo_d (mo_l (mo_gR _ _ _)) (mo_l (mo_iload _ _)))) (mo_d (mo_l (mo_iload _ _)) (mo_d (mo_l (mo_cV _ _ _ _ (zPre_V _) zHm_0)) (mo_l (mo_aload _ _))))) (mo_d (mo_d (mo_l (mo_gR _ _ _)) (mo_d (mo_l (mo_gR _ _ _)) (mo_l (mo_iload _ _)))) (mo_d (mo_l (mo_iload _ _)) (mo_d (mo_l (mo_cV _ _ _ _ (zPre_V _) zHm_0)) (mo_l (mo_rV))))))))
def zc_L_limited (G : Nat × Nat) : Nat → zSem := fun pc =>
 znd pc 10
 (znd pc 3
 (znd pc 1
 (zlf pc 0 (s_aload 0 1))
 (znd pc 2
 (zlf pc 1 (s_iload 1 2))
 (zlf pc 2 (s_ic 1 3))))
 (znd pc 6
 (zlf pc 3 (s_cmpne 10 6))
 (znd pc 7
 (zlf pc 6 (s_ic 1 7))
 (zlf pc 7 (s_goto 11)))))
 (znd pc 13
 (znd pc 11
 (zlf pc 10 (s_ic 0 11))
 (znd pc 12
 (zlf pc 11 (s_iload 2 12))
 (zlf pc 12 (s_iload 3 13))))
 (znd pc 18
 (znd pc 15
 (zlf pc 13 (s_iload 4 15))
 (zlf pc 15 (s_cV (zpV 12) 157 5 [] zx0 18)))
 (znd pc 19
 (zlf pc 18 (s_ic 0 19))
 (zlf pc 19 (s_rI)))))
theorem zm_L_limited (G : Nat × Nat) (pc : Nat) : zMon (zc_L_limited G pc) := (mo_d (mo_d (mo_d (mo_l (mo_aload _ _)) (mo_d (mo_l (mo_iload _ _)) (mo_l (mo_ic _ _)))) (mo_d (mo_l (mo_cmpne _ _)) (mo_d (mo_l (mo_ic _ _)) (mo_l (mo_goto _))))) (mo_d (mo_d (mo_l (mo_ic _ _)) (mo_d (mo_l (mo_iload _ _)) (mo_l (mo_iload _ _)))) (mo_d (mo_d (mo_l (mo_iload _ _)) (mo_l (mo_cV _ _ _ _ (zPre_V _) zHm_0))) (mo_d (mo_l (mo_ic _ _)) (mo_l (mo_rI))))))
def zc_X8_copyFrom (G : Nat × Nat) : Nat → zSem := fun pc =>
 znd pc 12
 (znd pc 4
 (znd pc 2
 (znd pc 1
 (zlf pc 0 (s_ic 0 1))
 (zlf pc 1 (s_istore 2 2)))
 (znd pc 3
 (zlf pc 2 (s_iload 2 3))
 (zlf pc 3 (s_aload 0 4))))
 (znd pc 8
 (znd pc 7
 (zlf pc 4 (s_gR 9 0 7))
 (zlf pc 7 (s_alen 8)))
 (znd pc 11
 (zlf pc 8 (s_cmpge 28 11))
 (zlf pc 11 (s_aload 0 12)))))
 (znd pc 18
 (znd pc 16
 (znd pc 15
 (zlf pc 12 (s_gR 9 0 15))
 (zlf pc 15 (s_iload 2 16)))
 (znd pc 17
 (zlf pc 16 (s_aload 1 17))
 (zlf pc 17 (s_iload 2 18))))
 (znd pc 22
 (znd pc 21
 (zlf pc 18 (s_cI (zpV 9) 54 2 [] zx0 21))
 (zlf pc 21 (s_iast 22)))
 (znd pc 25
 (zlf pc 22 (s_iinc 2 1 25))
 (znd pc 28
 (zlf pc 25 (s_goto 2))
 (zlf pc 28 (s_rV))))))
theorem zm_X8_copyFrom (G : Nat × Nat) (pc : Nat) : zMon (zc_X8_copyFrom G pc) := (mo_d (mo_d (mo_d (mo_d (mo_l (mo_ic _ _)) (mo_l (mo_istore _ _))) (mo_d (mo_l (mo_iload _ _)) (mo_l (mo_aload _ _)))) (mo_d (mo_d (mo_l (mo_gR _ _ _)) (mo_l (mo_alen _))) (mo_d (mo_l (mo_cmpge _ _)) (mo_l (mo_aload _ _))))) (mo_d (mo_d (mo_d (mo_l (mo_gR _ _ _)) (mo_l (mo_iload _ _))) (mo_d (mo_l (mo_aload _ _)) (mo_l (mo_iload _ _)))) (mo_d (mo_d (mo_l (mo_cI _ _ _ _ (zPre_V _) zHm_0)) (mo_l (mo_iast _))) (mo_d (mo_l (mo_iinc _ _ _)) (mo_d (mo_l (mo_goto _)) (mo_l (mo_rV)))))))
def zc_X0_mass (G : Nat × Nat) : Nat → zSem := fun pc =>
 znd pc 16
 (znd pc 5
 (znd pc 2
 (znd pc 1
 (zlf pc 0 (s_ic 2 1))
 (zlf pc 1 (s_istore 1 2)))
 (znd pc 3
 (zlf pc 2 (s_ic 0 3))
 (znd pc 4
 (zlf pc 3 (s_istore 2 4))
 (zlf pc 4 (s_iload 2 5)))))
 (znd pc 9
 (znd pc 6
 (zlf pc 5 (s_aload 0 6))
 (zlf pc 6 (s_gR 1 3 9)))
 (znd pc 12
 (zlf pc 9 (s_cI (zpV 0) 16 1 [] zx0 12))
 (znd pc 15
 (zlf pc 12 (s_cmpge 41 15))
 (zlf pc 15 (s_aload 0 16))))))
 (znd pc 29
 (znd pc 20
 (znd pc 19
 (zlf pc 16 (s_gR 1 3 19))
 (zlf pc 19 (s_iload 2 20)))
 (znd pc 23
 (zlf pc 20 (s_cR (zpV 0) 44 2 [] zx0 23))
 (znd pc 26
 (zlf pc 23 (s_cast 10 26))
 (zlf pc 26 (s_cI (zpV 10) 148 1 [] zx0 29)))))
 (znd pc 38
 (znd pc 32
 (zlf pc 29 (s_ifeq 35 32))
 (znd pc 35
 (zlf pc 32 (s_iinc 1 1 35))
 (zlf pc 35 (s_iinc 2 1 38))))
 (znd pc 41
 (zlf pc 38 (s_goto 4))
 (znd pc 42
 (zlf pc 41 (s_iload 1 42))
 (zlf pc 42 (s_rI))))))
theorem zm_X0_mass (G : Nat × Nat) (pc : Nat) : zMon (zc_X0_mass G pc) := (mo_d (mo_d (mo_d (mo_d (mo_l (mo_ic _ _)) (mo_l (mo_istore _ _))) (mo_d (mo_l (mo_ic _ _)) (mo_d (mo_l (mo_istore _ _)) (mo_l (mo_iload _ _))))) (mo_d (mo_d (mo_l (mo_aload _ _)) (mo_l (mo_gR _ _ _))) (mo_d (mo_l (mo_cI _ _ _ _ (zPre_V _) zHm_0)) (mo_d (mo_l (mo_cmpge _ _)) (mo_l (mo_aload _ _)))))) (mo_d (mo_d (mo_d (mo_l (mo_gR _ _ _)) (mo_l (mo_iload _ _))) (mo_d (mo_l (mo_cR _ _ _ _ (zPre_V _) zHm_0)) (mo_d (mo_l (mo_cast _ _)) (mo_l (mo_cI _ _ _ _ (zPre_V _) zHm_0))))) (mo_d (mo_d (mo_l (mo_ifeq _ _)) (mo_d (mo_l (mo_iinc _ _ _)) (mo_l (mo_iinc _ _ _)))) (mo_d (mo_l (mo_goto _)) (mo_d (mo_l (mo_iload _ _)) (mo_l (mo_rI)))))))
def zc_X6_peakOf (G : Nat × Nat) : Nat → zSem := fun pc =>
 znd pc 27
 (znd pc 11
 (znd pc 5
 (znd pc 3
 (znd pc 2
 (zlf pc 0 (s_ic 25 2))
 (zlf pc 2 (s_istore 2 3)))
 (znd pc 4
 (zlf pc 3 (s_ic 0 4))
 (zlf pc 4 (s_istore 3 5))))
 (znd pc 8
 (znd pc 6
 (zlf pc 5 (s_ic 0 6))
 (zlf pc 6 (s_istore 4 8)))
 (znd pc 10
 (zlf pc 8 (s_iload 4 10))
 (zlf pc 10 (s_ic 4 11)))))
 (znd pc 19
 (znd pc 15
 (znd pc 14
 (zlf pc 11 (s_cmpge 56 14))
 (zlf pc 14 (s_ic 0 15)))
 (znd pc 17
 (zlf pc 15 (s_istore 5 17))
 (zlf pc 17 (s_iload 5 19))))
 (znd pc 23
 (znd pc 20
 (zlf pc 19 (s_ic 3 20))
 (zlf pc 20 (s_cmpge 50 23)))
 (znd pc 24
 (zlf pc 23 (s_iload 2 24))
 (znd pc 25
 (zlf pc 24 (s_aload 0 25))
 (zlf pc 25 (s_iload 4 27)))))))
 (znd pc 39
 (znd pc 33
 (znd pc 31
 (znd pc 30
 (zlf pc 27 (s_cI (zpV 9) 54 2 [] zx0 30))
 (zlf pc 30 (s_iload 2 31)))
 (znd pc 32
 (zlf pc 31 (s_isub 32))
 (zlf pc 32 (s_iload 1 33))))
 (znd pc 37
 (znd pc 36
 (zlf pc 33 (s_cI zpS 115 2 [] zx0 36))
 (zlf pc 36 (s_iadd 37)))
 (znd pc 38
 (zlf pc 37 (s_istore 2 38))
 (zlf pc 38 (s_iload 3 39)))))
 (znd pc 47
 (znd pc 43
 (znd pc 40
 (zlf pc 39 (s_iload 2 40))
 (zlf pc 40 (s_cI zpS 19 2 [] zx0 43)))
 (znd pc 44
 (zlf pc 43 (s_istore 3 44))
 (zlf pc 44 (s_iinc 5 1 47))))
 (znd pc 53
 (znd pc 50
 (zlf pc 47 (s_goto 17))
 (zlf pc 50 (s_iinc 4 1 53)))
 (znd pc 56
 (zlf pc 53 (s_goto 8))
 (znd pc 57
 (zlf pc 56 (s_iload 3 57))
 (zlf pc 57 (s_rI)))))))
theorem zm_X6_peakOf (G : Nat × Nat) (pc : Nat) : zMon (zc_X6_peakOf G pc) := (mo_d (mo_d (mo_d (mo_d (mo_d (mo_l (mo_ic _ _)) (mo_l (mo_istore _ _))) (mo_d (mo_l (mo_ic _ _)) (mo_l (mo_istore _ _)))) (mo_d (mo_d (mo_l (mo_ic _ _)) (mo_l (mo_istore _ _))) (mo_d (mo_l (mo_iload _ _)) (mo_l (mo_ic _ _))))) (mo_d (mo_d (mo_d (mo_l (mo_cmpge _ _)) (mo_l (mo_ic _ _))) (mo_d (mo_l (mo_istore _ _)) (mo_l (mo_iload _ _)))) (mo_d (mo_d (mo_l (mo_ic _ _)) (mo_l (mo_cmpge _ _))) (mo_d (mo_l (mo_iload _ _)) (mo_d (mo_l (mo_aload _ _)) (mo_l (mo_iload _ _))))))) (mo_d (mo_d (mo_d (mo_d (mo_l (mo_cI _ _ _ _ (zPre_V _) zHm_0)) (mo_l (mo_iload _ _))) (mo_d (mo_l (mo_isub _)) (mo_l (mo_iload _ _)))) (mo_d (mo_d (mo_l (mo_cI _ _ _ _ zPre_S zHm_0)) (mo_l (mo_iadd _))) (mo_d (mo_l (mo_istore _ _)) (mo_l (mo_iload _ _))))) (mo_d (mo_d (mo_d (mo_l (mo_iload _ _)) (mo_l (mo_cI _ _ _ _ zPre_S zHm_0))) (mo_d (mo_l (mo_istore _ _)) (mo_l (mo_iinc _ _ _)))) (mo_d (mo_d (mo_l (mo_goto _)) (mo_l (mo_iinc _ _ _))) (mo_d (mo_l (mo_goto _)) (mo_d (mo_l (mo_iload _ _)) (mo_l (mo_rI))))))))
def zc_X0_peak (G : Nat × Nat) : Nat → zSem := fun pc =>
 znd pc 5
 (znd pc 1
 (zlf pc 0 (s_aload 0 1))
 (znd pc 4
 (zlf pc 1 (s_gR 1 4 4))
 (zlf pc 4 (s_aload 0 5))))
 (znd pc 8
 (zlf pc 5 (s_cI (zpV 1) 161 1 [zU, zU] zx0 8))
 (znd pc 11
 (zlf pc 8 (s_cI zpS 162 2 [zU, zU, zU, zU] zx0 11))
 (zlf pc 11 (s_rI))))
theorem zm_X0_peak (G : Nat × Nat) (pc : Nat) : zMon (zc_X0_peak G pc) := (mo_d (mo_d (mo_l (mo_aload _ _)) (mo_d (mo_l (mo_gR _ _ _)) (mo_l (mo_aload _ _)))) (mo_d (mo_l (mo_cI _ _ _ _ (zPre_V _) zHm_0)) (mo_d (mo_l (mo_cI _ _ _ _ zPre_S zHm_0)) (mo_l (mo_rI)))))
def zc_X9_jointFor (G : Nat × Nat) : Nat → zSem := fun pc =>
 znd pc 11
 (znd pc 5
 (znd pc 1
 (zlf pc 0 (s_aload 0 1))
 (znd pc 4
 (zlf pc 1 (s_gI 10 6 4))
 (zlf pc 4 (s_iload 1 5))))
 (znd pc 9
 (znd pc 8
 (zlf pc 5 (s_cmple 10 8))
 (zlf pc 8 (s_ic 1 9)))
 (znd pc 10
 (zlf pc 9 (s_rI))
 (zlf pc 10 (s_aload 0 11)))))
 (znd pc 18
 (znd pc 14
 (zlf pc 11 (s_gI 10 7 14))
 (znd pc 15
 (zlf pc 14 (s_iload 1 15))
 (zlf pc 15 (s_cmpge 22 18))))
 (znd pc 22
 (znd pc 19
 (zlf pc 18 (s_ic 2 19))
 (zlf pc 19 (s_goto 23)))
 (znd pc 23
 (zlf pc 22 (s_ic 0 23))
 (zlf pc 23 (s_rI)))))
theorem zm_X9_jointFor (G : Nat × Nat) (pc : Nat) : zMon (zc_X9_jointFor G pc) := (mo_d (mo_d (mo_d (mo_l (mo_aload _ _)) (mo_d (mo_l (mo_gI _ _ _)) (mo_l (mo_iload _ _)))) (mo_d (mo_d (mo_l (mo_cmple _ _)) (mo_l (mo_ic _ _))) (mo_d (mo_l (mo_rI)) (mo_l (mo_aload _ _))))) (mo_d (mo_d (mo_l (mo_gI _ _ _)) (mo_d (mo_l (mo_iload _ _)) (mo_l (mo_cmpge _ _)))) (mo_d (mo_d (mo_l (mo_ic _ _)) (mo_l (mo_goto _))) (mo_d (mo_l (mo_ic _ _)) (mo_l (mo_rI))))))
def zc_X9_join (G : Nat × Nat) : Nat → zSem := fun pc =>
 znd pc 20
 (znd pc 9
 (znd pc 2
 (znd pc 1
 (zlf pc 0 (s_aload 0 1))
 (zlf pc 1 (s_aload 1 2)))
 (znd pc 5
 (zlf pc 2 (s_gR 7 1 5))
 (znd pc 6
 (zlf pc 5 (s_aload 0 6))
 (zlf pc 6 (s_gI 10 0 9)))))
 (znd pc 15
 (znd pc 12
 (zlf pc 9 (s_cI (zpV 9) 54 2 [] zx0 12))
 (zlf pc 12 (s_pI 10 6 15)))
 (znd pc 16
 (zlf pc 15 (s_aload 0 16))
 (znd pc 17
 (zlf pc 16 (s_aload 1 17))
 (zlf pc 17 (s_gR 7 2 20))))))
 (znd pc 31
 (znd pc 24
 (znd pc 21
 (zlf pc 20 (s_aload 0 21))
 (zlf pc 21 (s_gI 10 0 24)))
 (znd pc 27
 (zlf pc 24 (s_cI (zpV 9) 54 2 [] zx0 27))
 (znd pc 30
 (zlf pc 27 (s_pI 10 7 30))
 (zlf pc 30 (s_aload 0 31)))))
 (znd pc 33
 (znd pc 32
 (zlf pc 31 (s_aload 0 32))
 (zlf pc 32 (s_iload 2 33)))
 (znd pc 36
 (zlf pc 33 (s_cI (zpV 10) 164 2 [] zx0 36))
 (znd pc 39
 (zlf pc 36 (s_pI 10 3 39))
 (zlf pc 39 (s_rV))))))
theorem zm_X9_join (G : Nat × Nat) (pc : Nat) : zMon (zc_X9_join G pc) := (mo_d (mo_d (mo_d (mo_d (mo_l (mo_aload _ _)) (mo_l (mo_aload _ _))) (mo_d (mo_l (mo_gR _ _ _)) (mo_d (mo_l (mo_aload _ _)) (mo_l (mo_gI _ _ _))))) (mo_d (mo_d (mo_l (mo_cI _ _ _ _ (zPre_V _) zHm_0)) (mo_l (mo_pI _ _ _))) (mo_d (mo_l (mo_aload _ _)) (mo_d (mo_l (mo_aload _ _)) (mo_l (mo_gR _ _ _)))))) (mo_d (mo_d (mo_d (mo_l (mo_aload _ _)) (mo_l (mo_gI _ _ _))) (mo_d (mo_l (mo_cI _ _ _ _ (zPre_V _) zHm_0)) (mo_d (mo_l (mo_pI _ _ _)) (mo_l (mo_aload _ _))))) (mo_d (mo_d (mo_l (mo_aload _ _)) (mo_l (mo_iload _ _))) (mo_d (mo_l (mo_cI _ _ _ _ (zPre_V _) zHm_0)) (mo_d (mo_l (mo_pI _ _ _)) (mo_l (mo_rV)))))))
def zc_X0_goThrough (G : Nat × Nat) : Nat → zSem := fun pc =>
 znd pc 31
 (znd pc 16
 (znd pc 8
 (znd pc 4
 (znd pc 1
 (zlf pc 0 (s_aload 0 1))
 (zlf pc 1 (s_gR 1 4 4)))
 (znd pc 5
 (zlf pc 4 (s_aload 1 5))
 (zlf pc 5 (s_gR 7 0 8))))
 (znd pc 12
 (znd pc 11
 (zlf pc 8 (s_cV (zpV 9) 160 2 [zU] zx0 11))
 (zlf pc 11 (s_aload 0 12)))
 (znd pc 13
 (zlf pc 12 (s_ic 1 13))
 (zlf pc 13 (s_pZ 1 0 16)))))
 (znd pc 22
 (znd pc 20
 (znd pc 17
 (zlf pc 16 (s_aload 0 17))
 (zlf pc 17 (s_cI (zpV 1) 163 1 [] zx0 20)))
 (znd pc 21
 (zlf pc 20 (s_istore 2 21))
 (zlf pc 21 (s_ic 0 22))))
 (znd pc 24
 (znd pc 23
 (zlf pc 22 (s_istore 3 23))
 (zlf pc 23 (s_iload 3 24)))
 (znd pc 25
 (zlf pc 24 (s_aload 0 25))
 (znd pc 28
 (zlf pc 25 (s_gR 1 3 28))
 (zlf pc 28 (s_cI (zpV 0) 16 1 [] zx0 31)))))))
 (znd pc 52
 (znd pc 39
 (znd pc 35
 (znd pc 34
 (zlf pc 31 (s_cmpge 68 34))
 (zlf pc 34 (s_aload 0 35)))
 (znd pc 38
 (zlf pc 35 (s_gR 1 3 38))
 (zlf pc 38 (s_iload 3 39))))
 (znd pc 45
 (znd pc 42
 (zlf pc 39 (s_cR (zpV 0) 44 2 [] zx0 42))
 (zlf pc 42 (s_cast 10 45)))
 (znd pc 47
 (zlf pc 45 (s_astore 4 47))
 (znd pc 49
 (zlf pc 47 (s_aload 4 49))
 (zlf pc 49 (s_cI (zpV 10) 148 1 [] zx0 52))))))
 (znd pc 59
 (znd pc 57
 (znd pc 55
 (zlf pc 52 (s_ifeq 62 55))
 (zlf pc 55 (s_aload 4 57)))
 (znd pc 58
 (zlf pc 57 (s_aload 1 58))
 (zlf pc 58 (s_iload 2 59))))
 (znd pc 65
 (znd pc 62
 (zlf pc 59 (s_cV (zpV 10) 165 3 [] zx0 62))
 (zlf pc 62 (s_iinc 3 1 65)))
 (znd pc 68
 (zlf pc 65 (s_goto 23))
 (znd pc 69
 (zlf pc 68 (s_iload 2 69))
 (zlf pc 69 (s_rI)))))))
theorem zm_X0_goThrough (G : Nat × Nat) (pc : Nat) : zMon (zc_X0_goThrough G pc) := (mo_d (mo_d (mo_d (mo_d (mo_d (mo_l (mo_aload _ _)) (mo_l (mo_gR _ _ _))) (mo_d (mo_l (mo_aload _ _)) (mo_l (mo_gR _ _ _)))) (mo_d (mo_d (mo_l (mo_cV _ _ _ _ (zPre_V _) zHm_0)) (mo_l (mo_aload _ _))) (mo_d (mo_l (mo_ic _ _)) (mo_l (mo_pZ _ _ _))))) (mo_d (mo_d (mo_d (mo_l (mo_aload _ _)) (mo_l (mo_cI _ _ _ _ (zPre_V _) zHm_0))) (mo_d (mo_l (mo_istore _ _)) (mo_l (mo_ic _ _)))) (mo_d (mo_d (mo_l (mo_istore _ _)) (mo_l (mo_iload _ _))) (mo_d (mo_l (mo_aload _ _)) (mo_d (mo_l (mo_gR _ _ _)) (mo_l (mo_cI _ _ _ _ (zPre_V _) zHm_0))))))) (mo_d (mo_d (mo_d (mo_d (mo_l (mo_cmpge _ _)) (mo_l (mo_aload _ _))) (mo_d (mo_l (mo_gR _ _ _)) (mo_l (mo_iload _ _)))) (mo_d (mo_d (mo_l (mo_cR _ _ _ _ (zPre_V _) zHm_0)) (mo_l (mo_cast _ _))) (mo_d (mo_l (mo_astore _ _)) (mo_d (mo_l (mo_aload _ _)) (mo_l (mo_cI _ _ _ _ (zPre_V _) zHm_0)))))) (mo_d (mo_d (mo_d (mo_l (mo_ifeq _ _)) (mo_l (mo_aload _ _))) (mo_d (mo_l (mo_aload _ _)) (mo_l (mo_iload _ _)))) (mo_d (mo_d (mo_l (mo_cV _ _ _ _ (zPre_V _) zHm_0)) (mo_l (mo_iinc _ _ _))) (mo_d (mo_l (mo_goto _)) (mo_d (mo_l (mo_iload _ _)) (mo_l (mo_rI))))))))
def zc_X11_solder (G : Nat × Nat) : Nat → zSem := fun pc =>
 znd pc 14
 (znd pc 6
 (znd pc 2
 (znd pc 1
 (zlf pc 0 (s_aload 0 1))
 (zlf pc 1 (s_iload 1 2)))
 (znd pc 5
 (zlf pc 2 (s_cR (zpV 12) 146 2 [] zx0 5))
 (zlf pc 5 (s_astore 2 6))))
 (znd pc 10
 (znd pc 7
 (zlf pc 6 (s_aload 2 7))
 (zlf pc 7 (s_gI 1 0 10)))
 (znd pc 13
 (zlf pc 10 (s_ifne 17 13))
 (zlf pc 13 (s_ic 1 14)))))
 (znd pc 22
 (znd pc 18
 (znd pc 17
 (zlf pc 14 (s_goto 18))
 (zlf pc 17 (s_ic 0 18)))
 (znd pc 21
 (zlf pc 18 (s_cV zpS 17 1 [] zx0 21))
 (zlf pc 21 (s_aload 2 22))))
 (znd pc 26
 (znd pc 23
 (zlf pc 22 (s_aload 0 23))
 (zlf pc 23 (s_gR 12 3 26)))
 (znd pc 29
 (zlf pc 26 (s_cI (zpV 1) 166 2 [zU, zU, zU] zx0 29))
 (zlf pc 29 (s_rI)))))
theorem zm_X11_solder (G : Nat × Nat) (pc : Nat) : zMon (zc_X11_solder G pc) := (mo_d (mo_d (mo_d (mo_d (mo_l (mo_aload _ _)) (mo_l (mo_iload _ _))) (mo_d (mo_l (mo_cR _ _ _ _ (zPre_V _) zHm_0)) (mo_l (mo_astore _ _)))) (mo_d (mo_d (mo_l (mo_aload _ _)) (mo_l (mo_gI _ _ _))) (mo_d (mo_l (mo_ifne _ _)) (mo_l (mo_ic _ _))))) (mo_d (mo_d (mo_d (mo_l (mo_goto _)) (mo_l (mo_ic _ _))) (mo_d (mo_l (mo_cV _ _ _ _ zPre_S zHm_0)) (mo_l (mo_aload _ _)))) (mo_d (mo_d (mo_l (mo_aload _ _)) (mo_l (mo_gR _ _ _))) (mo_d (mo_l (mo_cI _ _ _ _ (zPre_V _) zHm_0)) (mo_l (mo_rI))))))
def zc_X11_flaw (G : Nat × Nat) : Nat → zSem := fun pc =>
 znd pc 27
 (znd pc 11
 (znd pc 5
 (znd pc 1
 (zlf pc 0 (s_aload 0 1))
 (znd pc 2
 (zlf pc 1 (s_iload 1 2))
 (zlf pc 2 (s_cR (zpV 12) 146 2 [] zx0 5))))
 (znd pc 7
 (znd pc 6
 (zlf pc 5 (s_astore 3 6))
 (zlf pc 6 (s_aload 3 7)))
 (znd pc 8
 (zlf pc 7 (s_iload 2 8))
 (zlf pc 8 (s_cR (zpV 1) 147 2 [] zx0 11)))))
 (znd pc 17
 (znd pc 13
 (zlf pc 11 (s_astore 4 13))
 (znd pc 14
 (zlf pc 13 (s_aload 3 14))
 (zlf pc 14 (s_gI 1 0 17))))
 (znd pc 21
 (znd pc 20
 (zlf pc 17 (s_ifeq 39 20))
 (zlf pc 20 (s_aload 3 21)))
 (znd pc 24
 (zlf pc 21 (s_gI 1 2 24))
 (zlf pc 24 (s_ifne 39 27))))))
 (znd pc 43
 (znd pc 35
 (znd pc 29
 (zlf pc 27 (s_aload 4 29))
 (znd pc 32
 (zlf pc 29 (s_cI (zpV 10) 148 1 [] zx0 32))
 (zlf pc 32 (s_ifeq 39 35))))
 (znd pc 39
 (znd pc 36
 (zlf pc 35 (s_ic 1 36))
 (zlf pc 36 (s_goto 40)))
 (znd pc 40
 (zlf pc 39 (s_ic 0 40))
 (zlf pc 40 (s_cV zpS 17 1 [] zx0 43)))))
 (znd pc 49
 (znd pc 45
 (zlf pc 43 (s_aload 4 45))
 (znd pc 46
 (zlf pc 45 (s_ic 3 46))
 (zlf pc 46 (s_pI 10 3 49))))
 (znd pc 52
 (znd pc 51
 (zlf pc 49 (s_aload 4 51))
 (zlf pc 51 (s_ic 0 52)))
 (znd pc 55
 (zlf pc 52 (s_pZ 10 4 55))
 (zlf pc 55 (s_rV))))))
theorem zm_X11_flaw (G : Nat × Nat) (pc : Nat) : zMon (zc_X11_flaw G pc) := (mo_d (mo_d (mo_d (mo_d (mo_l (mo_aload _ _)) (mo_d (mo_l (mo_iload _ _)) (mo_l (mo_cR _ _ _ _ (zPre_V _) zHm_0)))) (mo_d (mo_d (mo_l (mo_astore _ _)) (mo_l (mo_aload _ _))) (mo_d (mo_l (mo_iload _ _)) (mo_l (mo_cR _ _ _ _ (zPre_V _) zHm_0))))) (mo_d (mo_d (mo_l (mo_astore _ _)) (mo_d (mo_l (mo_aload _ _)) (mo_l (mo_gI _ _ _)))) (mo_d (mo_d (mo_l (mo_ifeq _ _)) (mo_l (mo_aload _ _))) (mo_d (mo_l (mo_gI _ _ _)) (mo_l (mo_ifne _ _)))))) (mo_d (mo_d (mo_d (mo_l (mo_aload _ _)) (mo_d (mo_l (mo_cI _ _ _ _ (zPre_V _) zHm_0)) (mo_l (mo_ifeq _ _)))) (mo_d (mo_d (mo_l (mo_ic _ _)) (mo_l (mo_goto _))) (mo_d (mo_l (mo_ic _ _)) (mo_l (mo_cV _ _ _ _ zPre_S zHm_0))))) (mo_d (mo_d (mo_l (mo_aload _ _)) (mo_d (mo_l (mo_ic _ _)) (mo_l (mo_pI _ _ _)))) (mo_d (mo_d (mo_l (mo_aload _ _)) (mo_l (mo_ic _ _))) (mo_d (mo_l (mo_pZ _ _ _)) (mo_l (mo_rV)))))))
def zc_L_flawed (G : Nat × Nat) : Nat → zSem := fun pc =>
 znd pc 3
 (znd pc 1
 (zlf pc 0 (s_aload 0 1))
 (znd pc 2
 (zlf pc 1 (s_iload 1 2))
 (zlf pc 2 (s_iload 2 3))))
 (znd pc 6
 (zlf pc 3 (s_cV (zpV 12) 172 3 [zU, zU] zx0 6))
 (znd pc 7
 (zlf pc 6 (s_ic 0 7))
 (zlf pc 7 (s_rI))))
theorem zm_L_flawed (G : Nat × Nat) (pc : Nat) : zMon (zc_L_flawed G pc) := (mo_d (mo_d (mo_l (mo_aload _ _)) (mo_d (mo_l (mo_iload _ _)) (mo_l (mo_iload _ _)))) (mo_d (mo_l (mo_cV _ _ _ _ (zPre_V _) zHm_0)) (mo_d (mo_l (mo_ic _ _)) (mo_l (mo_rI)))))
def zc_J6_bitCount_0f7a4 (G : Nat × Nat) : Nat → zSem := fun pc =>
 znd pc 27
 (znd pc 14
 (znd pc 7
 (znd pc 2
 (znd pc 1
 (zlf pc 0 (s_iload 0 1))
 (zlf pc 1 (s_iload 0 2)))
 (znd pc 3
 (zlf pc 2 (s_ic 1 3))
 (znd pc 4
 (zlf pc 3 (s_iushr 4))
 (zlf pc 4 (s_ic 1431655765 7)))))
 (znd pc 9
 (znd pc 8
 (zlf pc 7 (s_iand 8))
 (zlf pc 8 (s_isub 9)))
 (znd pc 10
 (zlf pc 9 (s_istore 0 10))
 (znd pc 11
 (zlf pc 10 (s_iload 0 11))
 (zlf pc 11 (s_ic 858993459 14))))))
 (znd pc 21
 (znd pc 16
 (znd pc 15
 (zlf pc 14 (s_iand 15))
 (zlf pc 15 (s_iload 0 16)))
 (znd pc 17
 (zlf pc 16 (s_ic 2 17))
 (znd pc 18
 (zlf pc 17 (s_iushr 18))
 (zlf pc 18 (s_ic 858993459 21)))))
 (znd pc 24
 (znd pc 22
 (zlf pc 21 (s_iand 22))
 (znd pc 23
 (zlf pc 22 (s_iadd 23))
 (zlf pc 23 (s_istore 0 24))))
 (znd pc 25
 (zlf pc 24 (s_iload 0 25))
 (znd pc 26
 (zlf pc 25 (s_iload 0 26))
 (zlf pc 26 (s_ic 4 27)))))))
 (znd pc 40
 (znd pc 34
 (znd pc 29
 (znd pc 28
 (zlf pc 27 (s_iushr 28))
 (zlf pc 28 (s_iadd 29)))
 (znd pc 32
 (zlf pc 29 (s_ic 252645135 32))
 (znd pc 33
 (zlf pc 32 (s_iand 33))
 (zlf pc 33 (s_istore 0 34)))))
 (znd pc 36
 (znd pc 35
 (zlf pc 34 (s_iload 0 35))
 (zlf pc 35 (s_iload 0 36)))
 (znd pc 38
 (zlf pc 36 (s_ic 8 38))
 (znd pc 39
 (zlf pc 38 (s_iushr 39))
 (zlf pc 39 (s_iadd 40))))))
 (znd pc 46
 (znd pc 42
 (znd pc 41
 (zlf pc 40 (s_istore 0 41))
 (zlf pc 41 (s_iload 0 42)))
 (znd pc 43
 (zlf pc 42 (s_iload 0 43))
 (znd pc 45
 (zlf pc 43 (s_ic 16 45))
 (zlf pc 45 (s_iushr 46)))))
 (znd pc 49
 (znd pc 47
 (zlf pc 46 (s_iadd 47))
 (znd pc 48
 (zlf pc 47 (s_istore 0 48))
 (zlf pc 48 (s_iload 0 49))))
 (znd pc 51
 (zlf pc 49 (s_ic 63 51))
 (znd pc 52
 (zlf pc 51 (s_iand 52))
 (zlf pc 52 (s_rI)))))))
theorem zm_J6_bitCount_0f7a4 (G : Nat × Nat) (pc : Nat) : zMon (zc_J6_bitCount_0f7a4 G pc) := (mo_d (mo_d (mo_d (mo_d (mo_d (mo_l (mo_iload _ _)) (mo_l (mo_iload _ _))) (mo_d (mo_l (mo_ic _ _)) (mo_d (mo_l (mo_iushr _)) (mo_l (mo_ic _ _))))) (mo_d (mo_d (mo_l (mo_iand _)) (mo_l (mo_isub _))) (mo_d (mo_l (mo_istore _ _)) (mo_d (mo_l (mo_iload _ _)) (mo_l (mo_ic _ _)))))) (mo_d (mo_d (mo_d (mo_l (mo_iand _)) (mo_l (mo_iload _ _))) (mo_d (mo_l (mo_ic _ _)) (mo_d (mo_l (mo_iushr _)) (mo_l (mo_ic _ _))))) (mo_d (mo_d (mo_l (mo_iand _)) (mo_d (mo_l (mo_iadd _)) (mo_l (mo_istore _ _)))) (mo_d (mo_l (mo_iload _ _)) (mo_d (mo_l (mo_iload _ _)) (mo_l (mo_ic _ _))))))) (mo_d (mo_d (mo_d (mo_d (mo_l (mo_iushr _)) (mo_l (mo_iadd _))) (mo_d (mo_l (mo_ic _ _)) (mo_d (mo_l (mo_iand _)) (mo_l (mo_istore _ _))))) (mo_d (mo_d (mo_l (mo_iload _ _)) (mo_l (mo_iload _ _))) (mo_d (mo_l (mo_ic _ _)) (mo_d (mo_l (mo_iushr _)) (mo_l (mo_iadd _)))))) (mo_d (mo_d (mo_d (mo_l (mo_istore _ _)) (mo_l (mo_iload _ _))) (mo_d (mo_l (mo_iload _ _)) (mo_d (mo_l (mo_ic _ _)) (mo_l (mo_iushr _))))) (mo_d (mo_d (mo_l (mo_iadd _)) (mo_d (mo_l (mo_istore _ _)) (mo_l (mo_iload _ _)))) (mo_d (mo_l (mo_ic _ _)) (mo_d (mo_l (mo_iand _)) (mo_l (mo_rI))))))))
def zc_X11_cover (G : Nat × Nat) : Nat → zSem := fun pc =>
 znd pc 22
 (znd pc 11
 (znd pc 6
 (znd pc 1
 (zlf pc 0 (s_iload 1 1))
 (znd pc 3
 (zlf pc 1 (s_ic 8 3))
 (zlf pc 3 (s_cI zpS 12 2 [] zx0 6))))
 (znd pc 9
 (zlf pc 6 (s_cV zpS 13 1 [] zx0 9))
 (znd pc 10
 (zlf pc 9 (s_aload 0 10))
 (zlf pc 10 (s_iload 2 11)))))
 (znd pc 18
 (znd pc 14
 (zlf pc 11 (s_ifeq 25 14))
 (znd pc 15
 (zlf pc 14 (s_aload 0 15))
 (zlf pc 15 (s_gI 12 6 18))))
 (znd pc 20
 (znd pc 19
 (zlf pc 18 (s_ic 1 19))
 (zlf pc 19 (s_iload 1 20)))
 (znd pc 21
 (zlf pc 20 (s_ishl 21))
 (zlf pc 21 (s_ior 22))))))
 (znd pc 33
 (znd pc 29
 (znd pc 25
 (zlf pc 22 (s_goto 35))
 (znd pc 26
 (zlf pc 25 (s_aload 0 26))
 (zlf pc 26 (s_gI 12 6 29))))
 (znd pc 31
 (znd pc 30
 (zlf pc 29 (s_ic 1 30))
 (zlf pc 30 (s_iload 1 31)))
 (znd pc 32
 (zlf pc 31 (s_ishl 32))
 (zlf pc 32 (s_ic (-1) 33)))))
 (znd pc 38
 (znd pc 34
 (zlf pc 33 (s_ixor 34))
 (znd pc 35
 (zlf pc 34 (s_iand 35))
 (zlf pc 35 (s_pI 12 6 38))))
 (znd pc 42
 (znd pc 39
 (zlf pc 38 (s_aload 0 39))
 (zlf pc 39 (s_gI 12 6 42)))
 (znd pc 45
 (zlf pc 42 (s_cI zpS 175 1 [] zx0 45))
 (zlf pc 45 (s_rI))))))
theorem zm_X11_cover (G : Nat × Nat) (pc : Nat) : zMon (zc_X11_cover G pc) := (mo_d (mo_d (mo_d (mo_d (mo_l (mo_iload _ _)) (mo_d (mo_l (mo_ic _ _)) (mo_l (mo_cI _ _ _ _ zPre_S zHm_0)))) (mo_d (mo_l (mo_cV _ _ _ _ zPre_S zHm_0)) (mo_d (mo_l (mo_aload _ _)) (mo_l (mo_iload _ _))))) (mo_d (mo_d (mo_l (mo_ifeq _ _)) (mo_d (mo_l (mo_aload _ _)) (mo_l (mo_gI _ _ _)))) (mo_d (mo_d (mo_l (mo_ic _ _)) (mo_l (mo_iload _ _))) (mo_d (mo_l (mo_ishl _)) (mo_l (mo_ior _)))))) (mo_d (mo_d (mo_d (mo_l (mo_goto _)) (mo_d (mo_l (mo_aload _ _)) (mo_l (mo_gI _ _ _)))) (mo_d (mo_d (mo_l (mo_ic _ _)) (mo_l (mo_iload _ _))) (mo_d (mo_l (mo_ishl _)) (mo_l (mo_ic _ _))))) (mo_d (mo_d (mo_l (mo_ixor _)) (mo_d (mo_l (mo_iand _)) (mo_l (mo_pI _ _ _)))) (mo_d (mo_d (mo_l (mo_aload _ _)) (mo_l (mo_gI _ _ _))) (mo_d (mo_l (mo_cI _ _ _ _ zPre_S zHm_0)) (mo_l (mo_rI)))))))
def zc_X0_findFaults (G : Nat × Nat) : Nat → zSem := fun pc =>
 znd pc 29
 (znd pc 9
 (znd pc 5
 (znd pc 1
 (zlf pc 0 (s_aload 0 1))
 (znd pc 2
 (zlf pc 1 (s_ic 1 2))
 (zlf pc 2 (s_pZ 1 1 5))))
 (znd pc 7
 (znd pc 6
 (zlf pc 5 (s_ic 0 6))
 (zlf pc 6 (s_istore 2 7)))
 (znd pc 8
 (zlf pc 7 (s_iload 2 8))
 (zlf pc 8 (s_aload 0 9)))))
 (znd pc 19
 (znd pc 15
 (znd pc 12
 (zlf pc 9 (s_gR 1 3 12))
 (zlf pc 12 (s_cI (zpV 0) 16 1 [] zx0 15)))
 (znd pc 18
 (zlf pc 15 (s_cmpge 56 18))
 (zlf pc 18 (s_aload 0 19))))
 (znd pc 23
 (znd pc 22
 (zlf pc 19 (s_gR 1 3 22))
 (zlf pc 22 (s_iload 2 23)))
 (znd pc 26
 (zlf pc 23 (s_cR (zpV 0) 44 2 [] zx0 26))
 (zlf pc 26 (s_cast 10 29))))))
 (znd pc 39
 (znd pc 33
 (znd pc 31
 (znd pc 30
 (zlf pc 29 (s_astore 3 30))
 (zlf pc 30 (s_iload 1 31)))
 (znd pc 32
 (zlf pc 31 (s_ic 1 32))
 (zlf pc 32 (s_iload 2 33))))
 (znd pc 35
 (znd pc 34
 (zlf pc 33 (s_ishl 34))
 (zlf pc 34 (s_iand 35)))
 (znd pc 38
 (zlf pc 35 (s_ifeq 50 38))
 (zlf pc 38 (s_aload 3 39)))))
 (znd pc 47
 (znd pc 45
 (znd pc 42
 (zlf pc 39 (s_gI 10 3 42))
 (zlf pc 42 (s_ifeq 50 45)))
 (znd pc 46
 (zlf pc 45 (s_aload 3 46))
 (zlf pc 46 (s_ic 1 47))))
 (znd pc 53
 (znd pc 50
 (zlf pc 47 (s_pZ 10 4 50))
 (zlf pc 50 (s_iinc 2 1 53)))
 (znd pc 56
 (zlf pc 53 (s_goto 7))
 (zlf pc 56 (s_rV))))))
theorem zm_X0_findFaults (G : Nat × Nat) (pc : Nat) : zMon (zc_X0_findFaults G pc) := (mo_d (mo_d (mo_d (mo_d (mo_l (mo_aload _ _)) (mo_d (mo_l (mo_ic _ _)) (mo_l (mo_pZ _ _ _)))) (mo_d (mo_d (mo_l (mo_ic _ _)) (mo_l (mo_istore _ _))) (mo_d (mo_l (mo_iload _ _)) (mo_l (mo_aload _ _))))) (mo_d (mo_d (mo_d (mo_l (mo_gR _ _ _)) (mo_l (mo_cI _ _ _ _ (zPre_V _) zHm_0))) (mo_d (mo_l (mo_cmpge _ _)) (mo_l (mo_aload _ _)))) (mo_d (mo_d (mo_l (mo_gR _ _ _)) (mo_l (mo_iload _ _))) (mo_d (mo_l (mo_cR _ _ _ _ (zPre_V _) zHm_0)) (mo_l (mo_cast _ _)))))) (mo_d (mo_d (mo_d (mo_d (mo_l (mo_astore _ _)) (mo_l (mo_iload _ _))) (mo_d (mo_l (mo_ic _ _)) (mo_l (mo_iload _ _)))) (mo_d (mo_d (mo_l (mo_ishl _)) (mo_l (mo_iand _))) (mo_d (mo_l (mo_ifeq _ _)) (mo_l (mo_aload _ _))))) (mo_d (mo_d (mo_d (mo_l (mo_gI _ _ _)) (mo_l (mo_ifeq _ _))) (mo_d (mo_l (mo_aload _ _)) (mo_l (mo_ic _ _)))) (mo_d (mo_d (mo_l (mo_pZ _ _ _)) (mo_l (mo_iinc _ _ _))) (mo_d (mo_l (mo_goto _)) (mo_l (mo_rV)))))))
def zc_X0_faultsFound (G : Nat × Nat) : Nat → zSem := fun pc =>
 znd pc 23
 (znd pc 6
 (znd pc 3
 (znd pc 1
 (zlf pc 0 (s_ic 0 1))
 (znd pc 2
 (zlf pc 1 (s_istore 2 2))
 (zlf pc 2 (s_ic 0 3))))
 (znd pc 4
 (zlf pc 3 (s_istore 3 4))
 (znd pc 5
 (zlf pc 4 (s_iload 3 5))
 (zlf pc 5 (s_aload 0 6)))))
 (znd pc 15
 (znd pc 9
 (zlf pc 6 (s_gR 1 3 9))
 (znd pc 12
 (zlf pc 9 (s_cI (zpV 0) 16 1 [] zx0 12))
 (zlf pc 12 (s_cmpge 54 15))))
 (znd pc 19
 (znd pc 16
 (zlf pc 15 (s_aload 0 16))
 (zlf pc 16 (s_gR 1 3 19)))
 (znd pc 20
 (zlf pc 19 (s_iload 3 20))
 (zlf pc 20 (s_cR (zpV 0) 44 2 [] zx0 23))))))
 (znd pc 41
 (znd pc 30
 (znd pc 26
 (zlf pc 23 (s_cast 10 26))
 (znd pc 28
 (zlf pc 26 (s_astore 4 28))
 (zlf pc 28 (s_aload 4 30))))
 (znd pc 36
 (znd pc 33
 (zlf pc 30 (s_gI 10 3 33))
 (zlf pc 33 (s_ifeq 48 36)))
 (znd pc 38
 (zlf pc 36 (s_aload 4 38))
 (zlf pc 38 (s_gI 10 4 41)))))
 (znd pc 48
 (znd pc 42
 (zlf pc 41 (s_iload 1 42))
 (znd pc 45
 (zlf pc 42 (s_cmpne 48 45))
 (zlf pc 45 (s_iinc 2 1 48))))
 (znd pc 54
 (znd pc 51
 (zlf pc 48 (s_iinc 3 1 51))
 (zlf pc 51 (s_goto 4)))
 (znd pc 55
 (zlf pc 54 (s_iload 2 55))
 (zlf pc 55 (s_rI))))))
theorem zm_X0_faultsFound (G : Nat × Nat) (pc : Nat) : zMon (zc_X0_faultsFound G pc) := (mo_d (mo_d (mo_d (mo_d (mo_l (mo_ic _ _)) (mo_d (mo_l (mo_istore _ _)) (mo_l (mo_ic _ _)))) (mo_d (mo_l (mo_istore _ _)) (mo_d (mo_l (mo_iload _ _)) (mo_l (mo_aload _ _))))) (mo_d (mo_d (mo_l (mo_gR _ _ _)) (mo_d (mo_l (mo_cI _ _ _ _ (zPre_V _) zHm_0)) (mo_l (mo_cmpge _ _)))) (mo_d (mo_d (mo_l (mo_aload _ _)) (mo_l (mo_gR _ _ _))) (mo_d (mo_l (mo_iload _ _)) (mo_l (mo_cR _ _ _ _ (zPre_V _) zHm_0)))))) (mo_d (mo_d (mo_d (mo_l (mo_cast _ _)) (mo_d (mo_l (mo_astore _ _)) (mo_l (mo_aload _ _)))) (mo_d (mo_d (mo_l (mo_gI _ _ _)) (mo_l (mo_ifeq _ _))) (mo_d (mo_l (mo_aload _ _)) (mo_l (mo_gI _ _ _))))) (mo_d (mo_d (mo_l (mo_iload _ _)) (mo_d (mo_l (mo_cmpne _ _)) (mo_l (mo_iinc _ _ _)))) (mo_d (mo_d (mo_l (mo_iinc _ _ _)) (mo_l (mo_goto _))) (mo_d (mo_l (mo_iload _ _)) (mo_l (mo_rI)))))))
def zc_X11_test (G : Nat × Nat) : Nat → zSem := fun pc =>
 znd pc 21
 (znd pc 7
 (znd pc 2
 (znd pc 1
 (zlf pc 0 (s_aload 0 1))
 (zlf pc 1 (s_iload 1 2)))
 (znd pc 5
 (zlf pc 2 (s_cR (zpV 12) 146 2 [] zx0 5))
 (znd pc 6
 (zlf pc 5 (s_astore 2 6))
 (zlf pc 6 (s_aload 2 7)))))
 (znd pc 14
 (znd pc 10
 (zlf pc 7 (s_gI 1 0 10))
 (znd pc 13
 (zlf pc 10 (s_ifeq 24 13))
 (zlf pc 13 (s_aload 2 14))))
 (znd pc 17
 (zlf pc 14 (s_gI 1 2 17))
 (znd pc 20
 (zlf pc 17 (s_ifne 24 20))
 (zlf pc 20 (s_ic 1 21))))))
 (znd pc 30
 (znd pc 25
 (znd pc 24
 (zlf pc 21 (s_goto 25))
 (zlf pc 24 (s_ic 0 25)))
 (znd pc 28
 (zlf pc 25 (s_cV zpS 17 1 [] zx0 28))
 (znd pc 29
 (zlf pc 28 (s_aload 2 29))
 (zlf pc 29 (s_aload 0 30)))))
 (znd pc 37
 (znd pc 33
 (zlf pc 30 (s_gI 12 6 33))
 (znd pc 36
 (zlf pc 33 (s_cV (zpV 1) 179 2 [zU, zU] zx0 36))
 (zlf pc 36 (s_aload 2 37))))
 (znd pc 38
 (zlf pc 37 (s_ic 1 38))
 (znd pc 41
 (zlf pc 38 (s_cI (zpV 1) 180 2 [zU, zU, zU] zx0 41))
 (zlf pc 41 (s_rI))))))
theorem zm_X11_test (G : Nat × Nat) (pc : Nat) : zMon (zc_X11_test G pc) := (mo_d (mo_d (mo_d (mo_d (mo_l (mo_aload _ _)) (mo_l (mo_iload _ _))) (mo_d (mo_l (mo_cR _ _ _ _ (zPre_V _) zHm_0)) (mo_d (mo_l (mo_astore _ _)) (mo_l (mo_aload _ _))))) (mo_d (mo_d (mo_l (mo_gI _ _ _)) (mo_d (mo_l (mo_ifeq _ _)) (mo_l (mo_aload _ _)))) (mo_d (mo_l (mo_gI _ _ _)) (mo_d (mo_l (mo_ifne _ _)) (mo_l (mo_ic _ _)))))) (mo_d (mo_d (mo_d (mo_l (mo_goto _)) (mo_l (mo_ic _ _))) (mo_d (mo_l (mo_cV _ _ _ _ zPre_S zHm_0)) (mo_d (mo_l (mo_aload _ _)) (mo_l (mo_aload _ _))))) (mo_d (mo_d (mo_l (mo_gI _ _ _)) (mo_d (mo_l (mo_cV _ _ _ _ (zPre_V _) zHm_0)) (mo_l (mo_aload _ _)))) (mo_d (mo_l (mo_ic _ _)) (mo_d (mo_l (mo_cI _ _ _ _ (zPre_V _) zHm_0)) (mo_l (mo_rI)))))))
def zc_X9_mend (G : Nat × Nat) : Nat → zSem := fun pc =>
 znd pc 7
 (znd pc 2
 (znd pc 1
 (zlf pc 0 (s_aload 0 1))
 (zlf pc 1 (s_ic 0 2)))
 (znd pc 5
 (zlf pc 2 (s_pI 10 3 5))
 (znd pc 6
 (zlf pc 5 (s_aload 0 6))
 (zlf pc 6 (s_ic 0 7)))))
 (znd pc 11
 (znd pc 10
 (zlf pc 7 (s_pZ 10 4 10))
 (zlf pc 10 (s_aload 0 11)))
 (znd pc 12
 (zlf pc 11 (s_ic 1 12))
 (znd pc 15
 (zlf pc 12 (s_pZ 10 5 15))
 (zlf pc 15 (s_rV)))))
theorem zm_X9_mend (G : Nat × Nat) (pc : Nat) : zMon (zc_X9_mend G pc) := (mo_d (mo_d (mo_d (mo_l (mo_aload _ _)) (mo_l (mo_ic _ _))) (mo_d (mo_l (mo_pI _ _ _)) (mo_d (mo_l (mo_aload _ _)) (mo_l (mo_ic _ _))))) (mo_d (mo_d (mo_l (mo_pZ _ _ _)) (mo_l (mo_aload _ _))) (mo_d (mo_l (mo_ic _ _)) (mo_d (mo_l (mo_pZ _ _ _)) (mo_l (mo_rV))))))
def zc_X11_repair (G : Nat × Nat) : Nat → zSem := fun pc =>
 znd pc 53
 (znd pc 22
 (znd pc 10
 (znd pc 5
 (znd pc 1
 (zlf pc 0 (s_aload 0 1))
 (znd pc 2
 (zlf pc 1 (s_iload 1 2))
 (zlf pc 2 (s_cR (zpV 12) 146 2 [] zx0 5))))
 (znd pc 7
 (zlf pc 5 (s_astore 4 7))
 (znd pc 9
 (zlf pc 7 (s_aload 4 9))
 (zlf pc 9 (s_iload 2 10)))))
 (znd pc 16
 (znd pc 13
 (zlf pc 10 (s_cR (zpV 1) 147 2 [] zx0 13))
 (znd pc 15
 (zlf pc 13 (s_astore 5 15))
 (zlf pc 15 (s_aload 0 16))))
 (znd pc 17
 (zlf pc 16 (s_iload 3 17))
 (znd pc 20
 (zlf pc 17 (s_cR (zpV 12) 130 2 [] zx0 20))
 (zlf pc 20 (s_astore 6 22))))))
 (znd pc 38
 (znd pc 30
 (znd pc 24
 (zlf pc 22 (s_aload 5 24))
 (znd pc 27
 (zlf pc 24 (s_gI 10 4 27))
 (zlf pc 27 (s_ifeq 42 30))))
 (znd pc 32
 (zlf pc 30 (s_aload 5 32))
 (znd pc 35
 (zlf pc 32 (s_gI 10 5 35))
 (zlf pc 35 (s_ifne 42 38)))))
 (znd pc 43
 (znd pc 39
 (zlf pc 38 (s_ic 1 39))
 (znd pc 42
 (zlf pc 39 (s_goto 43))
 (zlf pc 42 (s_ic 0 43))))
 (znd pc 48
 (znd pc 46
 (zlf pc 43 (s_cV zpS 17 1 [] zx0 46))
 (zlf pc 46 (s_aload 6 48)))
 (znd pc 51
 (zlf pc 48 (s_gI 8 0 51))
 (zlf pc 51 (s_aload 5 53)))))))
 (znd pc 82
 (znd pc 68
 (znd pc 61
 (znd pc 56
 (zlf pc 53 (s_gI 10 0 56))
 (znd pc 59
 (zlf pc 56 (s_cmpne 75 59))
 (zlf pc 59 (s_aload 6 61))))
 (znd pc 62
 (zlf pc 61 (s_aload 0 62))
 (znd pc 65
 (zlf pc 62 (s_gI 12 7 65))
 (zlf pc 65 (s_cI (zpV 8) 149 2 [] zx0 68)))))
 (znd pc 75
 (znd pc 71
 (zlf pc 68 (s_ifeq 75 71))
 (znd pc 72
 (zlf pc 71 (s_ic 1 72))
 (zlf pc 72 (s_goto 76))))
 (znd pc 79
 (znd pc 76
 (zlf pc 75 (s_ic 0 76))
 (zlf pc 76 (s_cV zpS 17 1 [] zx0 79)))
 (znd pc 81
 (zlf pc 79 (s_aload 5 81))
 (zlf pc 81 (s_iload 3 82))))))
 (znd pc 96
 (znd pc 88
 (znd pc 84
 (zlf pc 82 (s_aload 6 84))
 (znd pc 85
 (zlf pc 84 (s_aload 0 85))
 (zlf pc 85 (s_gI 12 7 88))))
 (znd pc 91
 (zlf pc 88 (s_cV (zpV 10) 150 4 [] zx0 91))
 (znd pc 93
 (zlf pc 91 (s_aload 5 93))
 (zlf pc 93 (s_cV (zpV 10) 185 1 [] zx0 96)))))
 (znd pc 102
 (znd pc 98
 (zlf pc 96 (s_aload 4 98))
 (znd pc 99
 (zlf pc 98 (s_ic 0 99))
 (zlf pc 99 (s_pZ 1 1 102))))
 (znd pc 105
 (znd pc 104
 (zlf pc 102 (s_aload 4 104))
 (zlf pc 104 (s_ic 1 105)))
 (znd pc 108
 (zlf pc 105 (s_cI (zpV 1) 180 2 [zU, zU, zU] zx0 108))
 (zlf pc 108 (s_rI)))))))
theorem zm_X11_repair (G : Nat × Nat) (pc : Nat) : zMon (zc_X11_repair G pc) := (mo_d (mo_d (mo_d (mo_d (mo_d (mo_l (mo_aload _ _)) (mo_d (mo_l (mo_iload _ _)) (mo_l (mo_cR _ _ _ _ (zPre_V _) zHm_0)))) (mo_d (mo_l (mo_astore _ _)) (mo_d (mo_l (mo_aload _ _)) (mo_l (mo_iload _ _))))) (mo_d (mo_d (mo_l (mo_cR _ _ _ _ (zPre_V _) zHm_0)) (mo_d (mo_l (mo_astore _ _)) (mo_l (mo_aload _ _)))) (mo_d (mo_l (mo_iload _ _)) (mo_d (mo_l (mo_cR _ _ _ _ (zPre_V _) zHm_0)) (mo_l (mo_astore _ _)))))) (mo_d (mo_d (mo_d (mo_l (mo_aload _ _)) (mo_d (mo_l (mo_gI _ _ _)) (mo_l (mo_ifeq _ _)))) (mo_d (mo_l (mo_aload _ _)) (mo_d (mo_l (mo_gI _ _ _)) (mo_l (mo_ifne _ _))))) (mo_d (mo_d (mo_l (mo_ic _ _)) (mo_d (mo_l (mo_goto _)) (mo_l (mo_ic _ _)))) (mo_d (mo_d (mo_l (mo_cV _ _ _ _ zPre_S zHm_0)) (mo_l (mo_aload _ _))) (mo_d (mo_l (mo_gI _ _ _)) (mo_l (mo_aload _ _))))))) (mo_d (mo_d (mo_d (mo_d (mo_l (mo_gI _ _ _)) (mo_d (mo_l (mo_cmpne _ _)) (mo_l (mo_aload _ _)))) (mo_d (mo_l (mo_aload _ _)) (mo_d (mo_l (mo_gI _ _ _)) (mo_l (mo_cI _ _ _ _ (zPre_V _) zHm_0))))) (mo_d (mo_d (mo_l (mo_ifeq _ _)) (mo_d (mo_l (mo_ic _ _)) (mo_l (mo_goto _)))) (mo_d (mo_d (mo_l (mo_ic _ _)) (mo_l (mo_cV _ _ _ _ zPre_S zHm_0))) (mo_d (mo_l (mo_aload _ _)) (mo_l (mo_iload _ _)))))) (mo_d (mo_d (mo_d (mo_l (mo_aload _ _)) (mo_d (mo_l (mo_aload _ _)) (mo_l (mo_gI _ _ _)))) (mo_d (mo_l (mo_cV _ _ _ _ (zPre_V _) zHm_0)) (mo_d (mo_l (mo_aload _ _)) (mo_l (mo_cV _ _ _ _ (zPre_V _) zHm_0))))) (mo_d (mo_d (mo_l (mo_aload _ _)) (mo_d (mo_l (mo_ic _ _)) (mo_l (mo_pZ _ _ _)))) (mo_d (mo_d (mo_l (mo_aload _ _)) (mo_l (mo_ic _ _))) (mo_d (mo_l (mo_cI _ _ _ _ (zPre_V _) zHm_0)) (mo_l (mo_rI))))))))
def zc_X11_ship (G : Nat × Nat) : Nat → zSem := fun pc =>
 znd pc 22
 (znd pc 10
 (znd pc 5
 (znd pc 1
 (zlf pc 0 (s_aload 0 1))
 (znd pc 2
 (zlf pc 1 (s_iload 1 2))
 (zlf pc 2 (s_cR (zpV 12) 146 2 [] zx0 5))))
 (znd pc 6
 (zlf pc 5 (s_astore 2 6))
 (znd pc 7
 (zlf pc 6 (s_aload 2 7))
 (zlf pc 7 (s_gI 1 2 10)))))
 (znd pc 17
 (znd pc 13
 (zlf pc 10 (s_ifne 32 13))
 (znd pc 14
 (zlf pc 13 (s_aload 2 14))
 (zlf pc 14 (s_gI 1 1 17))))
 (znd pc 20
 (zlf pc 17 (s_ifeq 32 20))
 (znd pc 21
 (zlf pc 20 (s_aload 2 21))
 (zlf pc 21 (s_ic 1 22))))))
 (znd pc 36
 (znd pc 29
 (znd pc 25
 (zlf pc 22 (s_cI (zpV 1) 180 2 [zU, zU, zU] zx0 25))
 (znd pc 28
 (zlf pc 25 (s_ifne 32 28))
 (zlf pc 28 (s_ic 1 29))))
 (znd pc 32
 (zlf pc 29 (s_goto 33))
 (znd pc 33
 (zlf pc 32 (s_ic 0 33))
 (zlf pc 33 (s_cV zpS 17 1 [] zx0 36)))))
 (znd pc 41
 (znd pc 37
 (zlf pc 36 (s_aload 2 37))
 (znd pc 38
 (zlf pc 37 (s_ic 1 38))
 (zlf pc 38 (s_pZ 1 2 41))))
 (znd pc 43
 (znd pc 42
 (zlf pc 41 (s_aload 2 42))
 (zlf pc 42 (s_ic 0 43)))
 (znd pc 46
 (zlf pc 43 (s_cI (zpV 1) 180 2 [zU, zU, zU] zx0 46))
 (zlf pc 46 (s_rI))))))
theorem zm_X11_ship (G : Nat × Nat) (pc : Nat) : zMon (zc_X11_ship G pc) := (mo_d (mo_d (mo_d (mo_d (mo_l (mo_aload _ _)) (mo_d (mo_l (mo_iload _ _)) (mo_l (mo_cR _ _ _ _ (zPre_V _) zHm_0)))) (mo_d (mo_l (mo_astore _ _)) (mo_d (mo_l (mo_aload _ _)) (mo_l (mo_gI _ _ _))))) (mo_d (mo_d (mo_l (mo_ifne _ _)) (mo_d (mo_l (mo_aload _ _)) (mo_l (mo_gI _ _ _)))) (mo_d (mo_l (mo_ifeq _ _)) (mo_d (mo_l (mo_aload _ _)) (mo_l (mo_ic _ _)))))) (mo_d (mo_d (mo_d (mo_l (mo_cI _ _ _ _ (zPre_V _) zHm_0)) (mo_d (mo_l (mo_ifne _ _)) (mo_l (mo_ic _ _)))) (mo_d (mo_l (mo_goto _)) (mo_d (mo_l (mo_ic _ _)) (mo_l (mo_cV _ _ _ _ zPre_S zHm_0))))) (mo_d (mo_d (mo_l (mo_aload _ _)) (mo_d (mo_l (mo_ic _ _)) (mo_l (mo_pZ _ _ _)))) (mo_d (mo_d (mo_l (mo_aload _ _)) (mo_l (mo_ic _ _))) (mo_d (mo_l (mo_cI _ _ _ _ (zPre_V _) zHm_0)) (mo_l (mo_rI)))))))
def zc_X11_pass (G : Nat × Nat) : Nat → zSem := fun pc =>
 znd pc 24
 (znd pc 12
 (znd pc 5
 (znd pc 1
 (zlf pc 0 (s_iload 1 1))
 (znd pc 2
 (zlf pc 1 (s_ic 1 2))
 (zlf pc 2 (s_ic 999 5))))
 (znd pc 8
 (zlf pc 5 (s_cI zpS 14 3 [] zx0 8))
 (znd pc 11
 (zlf pc 8 (s_cV zpS 15 1 [] zx0 11))
 (zlf pc 11 (s_aload 0 12)))))
 (znd pc 17
 (znd pc 15
 (zlf pc 12 (s_gI 12 7 15))
 (znd pc 16
 (zlf pc 15 (s_iload 1 16))
 (zlf pc 16 (s_iadd 17))))
 (znd pc 20
 (zlf pc 17 (s_ic 9999 20))
 (znd pc 23
 (zlf pc 20 (s_cmpgt 27 23))
 (zlf pc 23 (s_ic 1 24))))))
 (znd pc 36
 (znd pc 31
 (znd pc 27
 (zlf pc 24 (s_goto 28))
 (znd pc 28
 (zlf pc 27 (s_ic 0 28))
 (zlf pc 28 (s_cV zpS 17 1 [] zx0 31))))
 (znd pc 32
 (zlf pc 31 (s_aload 0 32))
 (znd pc 33
 (zlf pc 32 (s_dup 33))
 (zlf pc 33 (s_gI 12 7 36)))))
 (znd pc 41
 (znd pc 37
 (zlf pc 36 (s_iload 1 37))
 (znd pc 38
 (zlf pc 37 (s_iadd 38))
 (zlf pc 38 (s_pI 12 7 41))))
 (znd pc 42
 (zlf pc 41 (s_aload 0 42))
 (znd pc 45
 (zlf pc 42 (s_gI 12 7 45))
 (zlf pc 45 (s_rI))))))
theorem zm_X11_pass (G : Nat × Nat) (pc : Nat) : zMon (zc_X11_pass G pc) := (mo_d (mo_d (mo_d (mo_d (mo_l (mo_iload _ _)) (mo_d (mo_l (mo_ic _ _)) (mo_l (mo_ic _ _)))) (mo_d (mo_l (mo_cI _ _ _ _ zPre_S zHm_0)) (mo_d (mo_l (mo_cV _ _ _ _ zPre_S zHm_0)) (mo_l (mo_aload _ _))))) (mo_d (mo_d (mo_l (mo_gI _ _ _)) (mo_d (mo_l (mo_iload _ _)) (mo_l (mo_iadd _)))) (mo_d (mo_l (mo_ic _ _)) (mo_d (mo_l (mo_cmpgt _ _)) (mo_l (mo_ic _ _)))))) (mo_d (mo_d (mo_d (mo_l (mo_goto _)) (mo_d (mo_l (mo_ic _ _)) (mo_l (mo_cV _ _ _ _ zPre_S zHm_0)))) (mo_d (mo_l (mo_aload _ _)) (mo_d (mo_l (mo_dup _)) (mo_l (mo_gI _ _ _))))) (mo_d (mo_d (mo_l (mo_iload _ _)) (mo_d (mo_l (mo_iadd _)) (mo_l (mo_pI _ _ _)))) (mo_d (mo_l (mo_aload _ _)) (mo_d (mo_l (mo_gI _ _ _)) (mo_l (mo_rI)))))))
def zc_X11_ofSlot (G : Nat × Nat) : Nat → zSem := fun pc =>
 znd pc 37
 (znd pc 17
 (znd pc 9
 (znd pc 2
 (znd pc 1
 (zlf pc 0 (s_aload 0 1))
 (zlf pc 1 (s_iload 1 2)))
 (znd pc 5
 (zlf pc 2 (s_cR (zpV 12) 146 2 [] zx0 5))
 (znd pc 6
 (zlf pc 5 (s_iload 2 6))
 (zlf pc 6 (s_cR (zpV 1) 147 2 [] zx0 9)))))
 (znd pc 12
 (znd pc 11
 (zlf pc 9 (s_astore 4 11))
 (zlf pc 11 (s_iload 3 12)))
 (znd pc 13
 (zlf pc 12 (s_ic 0 13))
 (znd pc 14
 (zlf pc 13 (s_ic 3 14))
 (zlf pc 14 (s_cI zpS 14 3 [] zx0 17))))))
 (znd pc 29
 (znd pc 21
 (znd pc 20
 (zlf pc 17 (s_cV zpS 13 1 [] zx0 20))
 (zlf pc 20 (s_iload 3 21)))
 (znd pc 24
 (zlf pc 21 (s_ifne 30 24))
 (znd pc 26
 (zlf pc 24 (s_aload 4 26))
 (zlf pc 26 (s_gI 10 1 29)))))
 (znd pc 31
 (znd pc 30
 (zlf pc 29 (s_rI))
 (zlf pc 30 (s_iload 3 31)))
 (znd pc 32
 (zlf pc 31 (s_ic 1 32))
 (znd pc 35
 (zlf pc 32 (s_cmpne 41 35))
 (zlf pc 35 (s_aload 4 37)))))))
 (znd pc 59
 (znd pc 46
 (znd pc 41
 (znd pc 40
 (zlf pc 37 (s_gI 10 2 40))
 (zlf pc 40 (s_rI)))
 (znd pc 42
 (zlf pc 41 (s_iload 3 42))
 (znd pc 43
 (zlf pc 42 (s_ic 2 43))
 (zlf pc 43 (s_cmpne 64 46)))))
 (znd pc 51
 (znd pc 48
 (zlf pc 46 (s_aload 4 48))
 (zlf pc 48 (s_gI 10 4 51)))
 (znd pc 54
 (zlf pc 51 (s_ifeq 62 54))
 (znd pc 56
 (zlf pc 54 (s_aload 4 56))
 (zlf pc 56 (s_gI 10 3 59))))))
 (znd pc 69
 (znd pc 63
 (znd pc 62
 (zlf pc 59 (s_goto 63))
 (zlf pc 62 (s_ic 0 63)))
 (znd pc 64
 (zlf pc 63 (s_rI))
 (znd pc 66
 (zlf pc 64 (s_aload 4 66))
 (zlf pc 66 (s_gI 10 5 69)))))
 (znd pc 73
 (znd pc 72
 (zlf pc 69 (s_ifeq 76 72))
 (zlf pc 72 (s_ic 1 73)))
 (znd pc 76
 (zlf pc 73 (s_goto 77))
 (znd pc 77
 (zlf pc 76 (s_ic 0 77))
 (zlf pc 77 (s_rI)))))))
theorem zm_X11_ofSlot (G : Nat × Nat) (pc : Nat) : zMon (zc_X11_ofSlot G pc) := (mo_d (mo_d (mo_d (mo_d (mo_d (mo_l (mo_aload _ _)) (mo_l (mo_iload _ _))) (mo_d (mo_l (mo_cR _ _ _ _ (zPre_V _) zHm_0)) (mo_d (mo_l (mo_iload _ _)) (mo_l (mo_cR _ _ _ _ (zPre_V _) zHm_0))))) (mo_d (mo_d (mo_l (mo_astore _ _)) (mo_l (mo_iload _ _))) (mo_d (mo_l (mo_ic _ _)) (mo_d (mo_l (mo_ic _ _)) (mo_l (mo_cI _ _ _ _ zPre_S zHm_0)))))) (mo_d (mo_d (mo_d (mo_l (mo_cV _ _ _ _ zPre_S zHm_0)) (mo_l (mo_iload _ _))) (mo_d (mo_l (mo_ifne _ _)) (mo_d (mo_l (mo_aload _ _)) (mo_l (mo_gI _ _ _))))) (mo_d (mo_d (mo_l (mo_rI)) (mo_l (mo_iload _ _))) (mo_d (mo_l (mo_ic _ _)) (mo_d (mo_l (mo_cmpne _ _)) (mo_l (mo_aload _ _))))))) (mo_d (mo_d (mo_d (mo_d (mo_l (mo_gI _ _ _)) (mo_l (mo_rI))) (mo_d (mo_l (mo_iload _ _)) (mo_d (mo_l (mo_ic _ _)) (mo_l (mo_cmpne _ _))))) (mo_d (mo_d (mo_l (mo_aload _ _)) (mo_l (mo_gI _ _ _))) (mo_d (mo_l (mo_ifeq _ _)) (mo_d (mo_l (mo_aload _ _)) (mo_l (mo_gI _ _ _)))))) (mo_d (mo_d (mo_d (mo_l (mo_goto _)) (mo_l (mo_ic _ _))) (mo_d (mo_l (mo_rI)) (mo_d (mo_l (mo_aload _ _)) (mo_l (mo_gI _ _ _))))) (mo_d (mo_d (mo_l (mo_ifeq _ _)) (mo_l (mo_ic _ _))) (mo_d (mo_l (mo_goto _)) (mo_d (mo_l (mo_ic _ _)) (mo_l (mo_rI))))))))
def zc_X0_hasPartOf (G : Nat × Nat) : Nat → zSem := fun pc =>
 znd pc 18
 (znd pc 7
 (znd pc 2
 (znd pc 1
 (zlf pc 0 (s_ic 0 1))
 (zlf pc 1 (s_istore 2 2)))
 (znd pc 3
 (zlf pc 2 (s_iload 2 3))
 (znd pc 4
 (zlf pc 3 (s_aload 0 4))
 (zlf pc 4 (s_gR 1 3 7)))))
 (znd pc 13
 (znd pc 10
 (zlf pc 7 (s_cI (zpV 0) 16 1 [] zx0 10))
 (zlf pc 10 (s_cmpge 39 13)))
 (znd pc 14
 (zlf pc 13 (s_aload 0 14))
 (znd pc 17
 (zlf pc 14 (s_gR 1 3 17))
 (zlf pc 17 (s_iload 2 18))))))
 (znd pc 31
 (znd pc 24
 (znd pc 21
 (zlf pc 18 (s_cR (zpV 0) 44 2 [] zx0 21))
 (zlf pc 21 (s_cast 10 24)))
 (znd pc 27
 (zlf pc 24 (s_gI 10 1 27))
 (znd pc 28
 (zlf pc 27 (s_iload 1 28))
 (zlf pc 28 (s_cmpne 33 31)))))
 (znd pc 36
 (znd pc 32
 (zlf pc 31 (s_ic 1 32))
 (znd pc 33
 (zlf pc 32 (s_rZ))
 (zlf pc 33 (s_iinc 2 1 36))))
 (znd pc 39
 (zlf pc 36 (s_goto 2))
 (znd pc 40
 (zlf pc 39 (s_ic 0 40))
 (zlf pc 40 (s_rZ))))))
theorem zm_X0_hasPartOf (G : Nat × Nat) (pc : Nat) : zMon (zc_X0_hasPartOf G pc) := (mo_d (mo_d (mo_d (mo_d (mo_l (mo_ic _ _)) (mo_l (mo_istore _ _))) (mo_d (mo_l (mo_iload _ _)) (mo_d (mo_l (mo_aload _ _)) (mo_l (mo_gR _ _ _))))) (mo_d (mo_d (mo_l (mo_cI _ _ _ _ (zPre_V _) zHm_0)) (mo_l (mo_cmpge _ _))) (mo_d (mo_l (mo_aload _ _)) (mo_d (mo_l (mo_gR _ _ _)) (mo_l (mo_iload _ _)))))) (mo_d (mo_d (mo_d (mo_l (mo_cR _ _ _ _ (zPre_V _) zHm_0)) (mo_l (mo_cast _ _))) (mo_d (mo_l (mo_gI _ _ _)) (mo_d (mo_l (mo_iload _ _)) (mo_l (mo_cmpne _ _))))) (mo_d (mo_d (mo_l (mo_ic _ _)) (mo_d (mo_l (mo_rZ)) (mo_l (mo_iinc _ _ _)))) (mo_d (mo_l (mo_goto _)) (mo_d (mo_l (mo_ic _ _)) (mo_l (mo_rZ)))))))
def zc_X11_recall (G : Nat × Nat) : Nat → zSem := fun pc =>
 znd pc 30
 (znd pc 16
 (znd pc 8
 (znd pc 2
 (znd pc 1
 (zlf pc 0 (s_iload 1 1))
 (zlf pc 1 (s_aload 0 2)))
 (znd pc 5
 (zlf pc 2 (s_gR 12 4 5))
 (zlf pc 5 (s_cI (zpV 0) 16 1 [] zx0 8))))
 (znd pc 14
 (znd pc 11
 (zlf pc 8 (s_cI zpS 12 2 [] zx0 11))
 (zlf pc 11 (s_cV zpS 13 1 [] zx0 14)))
 (znd pc 15
 (zlf pc 14 (s_ic 0 15))
 (zlf pc 15 (s_istore 2 16)))))
 (znd pc 20
 (znd pc 18
 (znd pc 17
 (zlf pc 16 (s_ic 0 17))
 (zlf pc 17 (s_istore 3 18)))
 (znd pc 19
 (zlf pc 18 (s_iload 3 19))
 (zlf pc 19 (s_aload 0 20))))
 (znd pc 26
 (znd pc 23
 (zlf pc 20 (s_gR 12 5 23))
 (zlf pc 23 (s_cI (zpV 0) 16 1 [] zx0 26)))
 (znd pc 29
 (zlf pc 26 (s_cmpge 68 29))
 (zlf pc 29 (s_aload 0 30))))))
 (znd pc 50
 (znd pc 40
 (znd pc 34
 (znd pc 33
 (zlf pc 30 (s_gR 12 5 33))
 (zlf pc 33 (s_iload 3 34)))
 (znd pc 37
 (zlf pc 34 (s_cR (zpV 0) 44 2 [] zx0 37))
 (zlf pc 37 (s_cast 1 40))))
 (znd pc 44
 (znd pc 42
 (zlf pc 40 (s_astore 4 42))
 (zlf pc 42 (s_aload 4 44)))
 (znd pc 47
 (zlf pc 44 (s_gI 1 2 47))
 (zlf pc 47 (s_ifeq 62 50)))))
 (znd pc 59
 (znd pc 53
 (znd pc 52
 (zlf pc 50 (s_aload 4 52))
 (zlf pc 52 (s_iload 1 53)))
 (znd pc 56
 (zlf pc 53 (s_cI (zpV 1) 201 2 [zU] zx0 56))
 (zlf pc 56 (s_ifeq 62 59))))
 (znd pc 65
 (znd pc 62
 (zlf pc 59 (s_iinc 2 1 62))
 (zlf pc 62 (s_iinc 3 1 65)))
 (znd pc 68
 (zlf pc 65 (s_goto 18))
 (znd pc 69
 (zlf pc 68 (s_iload 2 69))
 (zlf pc 69 (s_rI)))))))
theorem zm_X11_recall (G : Nat × Nat) (pc : Nat) : zMon (zc_X11_recall G pc) := (mo_d (mo_d (mo_d (mo_d (mo_d (mo_l (mo_iload _ _)) (mo_l (mo_aload _ _))) (mo_d (mo_l (mo_gR _ _ _)) (mo_l (mo_cI _ _ _ _ (zPre_V _) zHm_0)))) (mo_d (mo_d (mo_l (mo_cI _ _ _ _ zPre_S zHm_0)) (mo_l (mo_cV _ _ _ _ zPre_S zHm_0))) (mo_d (mo_l (mo_ic _ _)) (mo_l (mo_istore _ _))))) (mo_d (mo_d (mo_d (mo_l (mo_ic _ _)) (mo_l (mo_istore _ _))) (mo_d (mo_l (mo_iload _ _)) (mo_l (mo_aload _ _)))) (mo_d (mo_d (mo_l (mo_gR _ _ _)) (mo_l (mo_cI _ _ _ _ (zPre_V _) zHm_0))) (mo_d (mo_l (mo_cmpge _ _)) (mo_l (mo_aload _ _)))))) (mo_d (mo_d (mo_d (mo_d (mo_l (mo_gR _ _ _)) (mo_l (mo_iload _ _))) (mo_d (mo_l (mo_cR _ _ _ _ (zPre_V _) zHm_0)) (mo_l (mo_cast _ _)))) (mo_d (mo_d (mo_l (mo_astore _ _)) (mo_l (mo_aload _ _))) (mo_d (mo_l (mo_gI _ _ _)) (mo_l (mo_ifeq _ _))))) (mo_d (mo_d (mo_d (mo_l (mo_aload _ _)) (mo_l (mo_iload _ _))) (mo_d (mo_l (mo_cI _ _ _ _ (zPre_V _) zHm_0)) (mo_l (mo_ifeq _ _)))) (mo_d (mo_d (mo_l (mo_iinc _ _ _)) (mo_l (mo_iinc _ _ _))) (mo_d (mo_l (mo_goto _)) (mo_d (mo_l (mo_iload _ _)) (mo_l (mo_rI))))))))
def zc_L_does (G : Nat × Nat) : Nat → zSem := fun pc =>
 znd pc 187
 (znd pc 88
 (znd pc 44
 (znd pc 22
 (znd pc 9
 (znd pc 5
 (znd pc 1
 (zlf pc 0 (s_iload 1 1))
 (znd pc 4
 (zlf pc 1 (s_ifne 17 4))
 (zlf pc 4 (s_aload 0 5))))
 (znd pc 6
 (zlf pc 5 (s_iload 2 6))
 (znd pc 7
 (zlf pc 6 (s_iload 3 7))
 (zlf pc 7 (s_iload 4 9)))))
 (znd pc 17
 (znd pc 11
 (zlf pc 9 (s_iload 5 11))
 (znd pc 14
 (zlf pc 11 (s_cI (zpV 12) 29 5 [] (zxc 7 [(0, 373), (1, 378), (2, 383)]) 14))
 (zlf pc 14 (s_goto 370))))
 (znd pc 18
 (zlf pc 17 (s_iload 1 18))
 (znd pc 19
 (zlf pc 18 (s_ic 1 19))
 (zlf pc 19 (s_cmpne 33 22))))))
 (znd pc 33
 (znd pc 25
 (znd pc 23
 (zlf pc 22 (s_aload 0 23))
 (znd pc 24
 (zlf pc 23 (s_iload 2 24))
 (zlf pc 24 (s_iload 3 25))))
 (znd pc 27
 (zlf pc 25 (s_iload 4 27))
 (znd pc 30
 (zlf pc 27 (s_cI (zpV 12) 38 4 [] (zxc 7 [(0, 373), (1, 378), (2, 383)]) 30))
 (zlf pc 30 (s_goto 370)))))
 (znd pc 38
 (znd pc 34
 (zlf pc 33 (s_iload 1 34))
 (znd pc 35
 (zlf pc 34 (s_ic 2 35))
 (zlf pc 35 (s_cmpne 47 38))))
 (znd pc 40
 (znd pc 39
 (zlf pc 38 (s_aload 0 39))
 (zlf pc 39 (s_iload 2 40)))
 (znd pc 41
 (zlf pc 40 (s_iload 3 41))
 (zlf pc 41 (s_cI (zpV 12) 48 3 [zU, zU] (zxc 7 [(0, 373), (1, 378), (2, 383)]) 44)))))))
 (znd pc 67
 (znd pc 54
 (znd pc 49
 (znd pc 47
 (zlf pc 44 (s_goto 370))
 (znd pc 48
 (zlf pc 47 (s_iload 1 48))
 (zlf pc 48 (s_ic 3 49))))
 (znd pc 52
 (zlf pc 49 (s_cmpne 67 52))
 (znd pc 53
 (zlf pc 52 (s_aload 0 53))
 (zlf pc 53 (s_iload 2 54)))))
 (znd pc 59
 (znd pc 55
 (zlf pc 54 (s_iload 3 55))
 (znd pc 57
 (zlf pc 55 (s_iload 4 57))
 (zlf pc 57 (s_iload 5 59))))
 (znd pc 61
 (zlf pc 59 (s_iload 6 61))
 (znd pc 64
 (zlf pc 61 (s_cI (zpV 12) 67 6 [zU, zU] (zxc 7 [(0, 373), (1, 378), (2, 383)]) 64))
 (zlf pc 64 (s_goto 370))))))
 (znd pc 77
 (znd pc 72
 (znd pc 68
 (zlf pc 67 (s_iload 1 68))
 (znd pc 69
 (zlf pc 68 (s_ic 4 69))
 (zlf pc 69 (s_cmpne 80 72))))
 (znd pc 73
 (zlf pc 72 (s_aload 0 73))
 (znd pc 74
 (zlf pc 73 (s_iload 2 74))
 (zlf pc 74 (s_cI (zpV 12) 79 2 [zU] (zxc 7 [(0, 373), (1, 378), (2, 383)]) 77)))))
 (znd pc 82
 (znd pc 80
 (zlf pc 77 (s_goto 370))
 (znd pc 81
 (zlf pc 80 (s_iload 1 81))
 (zlf pc 81 (s_ic 5 82))))
 (znd pc 86
 (znd pc 85
 (zlf pc 82 (s_cmpne 94 85))
 (zlf pc 85 (s_aload 0 86)))
 (znd pc 87
 (zlf pc 86 (s_iload 2 87))
 (zlf pc 87 (s_iload 3 88))))))))
 (znd pc 138
 (znd pc 112
 (znd pc 101
 (znd pc 95
 (znd pc 91
 (zlf pc 88 (s_cI (zpV 12) 85 3 [zU] (zxc 7 [(0, 373), (1, 378), (2, 383)]) 91))
 (znd pc 94
 (zlf pc 91 (s_goto 370))
 (zlf pc 94 (s_iload 1 95))))
 (znd pc 97
 (zlf pc 95 (s_ic 6 97))
 (znd pc 100
 (zlf pc 97 (s_cmpne 109 100))
 (zlf pc 100 (s_aload 0 101)))))
 (znd pc 106
 (znd pc 102
 (zlf pc 101 (s_iload 2 102))
 (znd pc 103
 (zlf pc 102 (s_iload 3 103))
 (zlf pc 103 (s_cI (zpV 12) 95 3 [] (zxc 7 [(0, 373), (1, 378), (2, 383)]) 106))))
 (znd pc 109
 (zlf pc 106 (s_goto 370))
 (znd pc 110
 (zlf pc 109 (s_iload 1 110))
 (zlf pc 110 (s_ic 7 112))))))
 (znd pc 124
 (znd pc 117
 (znd pc 115
 (zlf pc 112 (s_cmpne 131 115))
 (znd pc 116
 (zlf pc 115 (s_aload 0 116))
 (zlf pc 116 (s_iload 2 117))))
 (znd pc 120
 (zlf pc 117 (s_cI (zpV 12) 119 2 [] (zxc 7 [(0, 373), (1, 378), (2, 383)]) 120))
 (znd pc 123
 (zlf pc 120 (s_ifeq 127 123))
 (zlf pc 123 (s_ic 1 124)))))
 (znd pc 131
 (znd pc 127
 (zlf pc 124 (s_goto 370))
 (znd pc 128
 (zlf pc 127 (s_ic 0 128))
 (zlf pc 128 (s_goto 370))))
 (znd pc 134
 (znd pc 132
 (zlf pc 131 (s_iload 1 132))
 (zlf pc 132 (s_ic 8 134)))
 (znd pc 137
 (zlf pc 134 (s_cmpne 148 137))
 (zlf pc 137 (s_aload 0 138)))))))
 (znd pc 161
 (znd pc 149
 (znd pc 142
 (znd pc 139
 (zlf pc 138 (s_iload 2 139))
 (znd pc 140
 (zlf pc 139 (s_iload 3 140))
 (zlf pc 140 (s_iload 4 142))))
 (znd pc 145
 (zlf pc 142 (s_cI (zpV 12) 127 4 [] (zxc 7 [(0, 373), (1, 378), (2, 383)]) 145))
 (znd pc 148
 (zlf pc 145 (s_goto 370))
 (zlf pc 148 (s_iload 1 149)))))
 (znd pc 155
 (znd pc 151
 (zlf pc 149 (s_ic 9 151))
 (znd pc 154
 (zlf pc 151 (s_cmpne 172 154))
 (zlf pc 154 (s_aload 0 155))))
 (znd pc 157
 (znd pc 156
 (zlf pc 155 (s_iload 2 156))
 (zlf pc 156 (s_iload 3 157)))
 (znd pc 158
 (zlf pc 157 (s_ic 1 158))
 (zlf pc 158 (s_cmpne 165 161))))))
 (znd pc 173
 (znd pc 166
 (znd pc 162
 (zlf pc 161 (s_ic 1 162))
 (znd pc 165
 (zlf pc 162 (s_goto 166))
 (zlf pc 165 (s_ic 0 166))))
 (znd pc 169
 (zlf pc 166 (s_cI (zpV 12) 133 3 [zU] (zxc 7 [(0, 373), (1, 378), (2, 383)]) 169))
 (znd pc 172
 (zlf pc 169 (s_goto 370))
 (zlf pc 172 (s_iload 1 173)))))
 (znd pc 179
 (znd pc 175
 (zlf pc 173 (s_ic 10 175))
 (znd pc 178
 (zlf pc 175 (s_cmpne 187 178))
 (zlf pc 178 (s_aload 0 179))))
 (znd pc 181
 (znd pc 180
 (zlf pc 179 (s_iload 2 180))
 (zlf pc 180 (s_iload 3 181)))
 (znd pc 184
 (zlf pc 181 (s_cI (zpV 12) 138 3 [zU] (zxc 7 [(0, 373), (1, 378), (2, 383)]) 184))
 (zlf pc 184 (s_goto 370)))))))))
 (znd pc 283
 (znd pc 236
 (znd pc 209
 (znd pc 200
 (znd pc 193
 (znd pc 188
 (zlf pc 187 (s_iload 1 188))
 (znd pc 190
 (zlf pc 188 (s_ic 11 190))
 (zlf pc 190 (s_cmpne 200 193))))
 (znd pc 194
 (zlf pc 193 (s_aload 0 194))
 (znd pc 197
 (zlf pc 194 (s_cI (zpV 12) 143 1 [] (zxc 7 [(0, 373), (1, 378), (2, 383)]) 197))
 (zlf pc 197 (s_goto 370)))))
 (znd pc 206
 (znd pc 201
 (zlf pc 200 (s_iload 1 201))
 (znd pc 203
 (zlf pc 201 (s_ic 12 203))
 (zlf pc 203 (s_cmpne 217 206))))
 (znd pc 207
 (zlf pc 206 (s_aload 0 207))
 (znd pc 208
 (zlf pc 207 (s_iload 2 208))
 (zlf pc 208 (s_iload 3 209))))))
 (znd pc 223
 (znd pc 217
 (znd pc 211
 (zlf pc 209 (s_iload 4 211))
 (znd pc 214
 (zlf pc 211 (s_cI (zpV 12) 151 4 [zU, zU, zU] (zxc 7 [(0, 373), (1, 378), (2, 383)]) 214))
 (zlf pc 214 (s_goto 370))))
 (znd pc 218
 (zlf pc 217 (s_iload 1 218))
 (znd pc 220
 (zlf pc 218 (s_ic 13 220))
 (zlf pc 220 (s_cmpne 236 223)))))
 (znd pc 226
 (znd pc 224
 (zlf pc 223 (s_aload 0 224))
 (znd pc 225
 (zlf pc 224 (s_iload 2 225))
 (zlf pc 225 (s_iload 3 226))))
 (znd pc 230
 (znd pc 228
 (zlf pc 226 (s_iload 4 228))
 (zlf pc 228 (s_iload 5 230)))
 (znd pc 233
 (zlf pc 230 (s_cI zpS 208 5 [] (zxc 7 [(0, 373), (1, 378), (2, 383)]) 233))
 (zlf pc 233 (s_goto 370)))))))
 (znd pc 259
 (znd pc 247
 (znd pc 242
 (znd pc 237
 (zlf pc 236 (s_iload 1 237))
 (znd pc 239
 (zlf pc 237 (s_ic 14 239))
 (zlf pc 239 (s_cmpne 250 242))))
 (znd pc 243
 (zlf pc 242 (s_aload 0 243))
 (znd pc 244
 (zlf pc 243 (s_iload 2 244))
 (zlf pc 244 (s_cI (zpV 12) 167 2 [zU] (zxc 7 [(0, 373), (1, 378), (2, 383)]) 247)))))
 (znd pc 253
 (znd pc 250
 (zlf pc 247 (s_goto 370))
 (znd pc 251
 (zlf pc 250 (s_iload 1 251))
 (zlf pc 251 (s_ic 15 253))))
 (znd pc 257
 (znd pc 256
 (zlf pc 253 (s_cmpne 265 256))
 (zlf pc 256 (s_aload 0 257)))
 (znd pc 258
 (zlf pc 257 (s_iload 2 258))
 (zlf pc 258 (s_iload 3 259))))))
 (znd pc 272
 (znd pc 266
 (znd pc 262
 (zlf pc 259 (s_cI zpS 209 3 [] (zxc 7 [(0, 373), (1, 378), (2, 383)]) 262))
 (znd pc 265
 (zlf pc 262 (s_goto 370))
 (zlf pc 265 (s_iload 1 266))))
 (znd pc 268
 (zlf pc 266 (s_ic 16 268))
 (znd pc 271
 (zlf pc 268 (s_cmpne 289 271))
 (zlf pc 271 (s_aload 0 272)))))
 (znd pc 275
 (znd pc 273
 (zlf pc 272 (s_iload 2 273))
 (znd pc 274
 (zlf pc 273 (s_iload 3 274))
 (zlf pc 274 (s_ic 1 275))))
 (znd pc 279
 (znd pc 278
 (zlf pc 275 (s_cmpne 282 278))
 (zlf pc 278 (s_ic 1 279)))
 (znd pc 282
 (zlf pc 279 (s_goto 283))
 (zlf pc 282 (s_ic 0 283))))))))
 (znd pc 334
 (znd pc 309
 (znd pc 296
 (znd pc 290
 (znd pc 286
 (zlf pc 283 (s_cI (zpV 12) 176 3 [] (zxc 7 [(0, 373), (1, 378), (2, 383)]) 286))
 (znd pc 289
 (zlf pc 286 (s_goto 370))
 (zlf pc 289 (s_iload 1 290))))
 (znd pc 292
 (zlf pc 290 (s_ic 17 292))
 (znd pc 295
 (zlf pc 292 (s_cmpne 303 295))
 (zlf pc 295 (s_aload 0 296)))))
 (znd pc 303
 (znd pc 297
 (zlf pc 296 (s_iload 2 297))
 (znd pc 300
 (zlf pc 297 (s_cI (zpV 12) 181 2 [zU] (zxc 7 [(0, 373), (1, 378), (2, 383)]) 300))
 (zlf pc 300 (s_goto 370))))
 (znd pc 304
 (zlf pc 303 (s_iload 1 304))
 (znd pc 306
 (zlf pc 304 (s_ic 18 306))
 (zlf pc 306 (s_cmpne 320 309))))))
 (znd pc 320
 (znd pc 312
 (znd pc 310
 (zlf pc 309 (s_aload 0 310))
 (znd pc 311
 (zlf pc 310 (s_iload 2 311))
 (zlf pc 311 (s_iload 3 312))))
 (znd pc 314
 (zlf pc 312 (s_iload 4 314))
 (znd pc 317
 (zlf pc 314 (s_cI (zpV 12) 186 4 [zU, zU, zU] (zxc 7 [(0, 373), (1, 378), (2, 383)]) 317))
 (zlf pc 317 (s_goto 370)))))
 (znd pc 326
 (znd pc 321
 (zlf pc 320 (s_iload 1 321))
 (znd pc 323
 (zlf pc 321 (s_ic 19 323))
 (zlf pc 323 (s_cmpne 334 326))))
 (znd pc 328
 (znd pc 327
 (zlf pc 326 (s_aload 0 327))
 (zlf pc 327 (s_iload 2 328)))
 (znd pc 331
 (zlf pc 328 (s_cI (zpV 12) 189 2 [zU] (zxc 7 [(0, 373), (1, 378), (2, 383)]) 331))
 (zlf pc 331 (s_goto 370)))))))
 (znd pc 357
 (znd pc 345
 (znd pc 340
 (znd pc 335
 (zlf pc 334 (s_iload 1 335))
 (znd pc 337
 (zlf pc 335 (s_ic 20 337))
 (zlf pc 337 (s_cmpne 348 340))))
 (znd pc 341
 (zlf pc 340 (s_aload 0 341))
 (znd pc 342
 (zlf pc 341 (s_iload 2 342))
 (zlf pc 342 (s_cI (zpV 12) 192 2 [] (zxc 7 [(0, 373), (1, 378), (2, 383)]) 345)))))
 (znd pc 351
 (znd pc 348
 (zlf pc 345 (s_goto 370))
 (znd pc 349
 (zlf pc 348 (s_iload 1 349))
 (zlf pc 349 (s_ic 21 351))))
 (znd pc 355
 (znd pc 354
 (zlf pc 351 (s_cmpne 365 354))
 (zlf pc 354 (s_aload 0 355)))
 (znd pc 356
 (zlf pc 355 (s_iload 2 356))
 (zlf pc 356 (s_iload 3 357))))))
 (znd pc 370
 (znd pc 365
 (znd pc 359
 (zlf pc 357 (s_iload 4 359))
 (znd pc 362
 (zlf pc 359 (s_cI (zpV 12) 195 4 [zU] (zxc 7 [(0, 373), (1, 378), (2, 383)]) 362))
 (zlf pc 362 (s_goto 370))))
 (znd pc 366
 (zlf pc 365 (s_aload 0 366))
 (znd pc 367
 (zlf pc 366 (s_iload 2 367))
 (zlf pc 367 (s_cI (zpV 12) 202 2 [zU, zU, zU] (zxc 7 [(0, 373), (1, 378), (2, 383)]) 370)))))
 (znd pc 378
 (znd pc 373
 (zlf pc 370 (s_rI))
 (znd pc 375
 (zlf pc 373 (s_ic (-3000000) 375))
 (zlf pc 375 (s_rI))))
 (znd pc 383
 (znd pc 380
 (zlf pc 378 (s_ic (-2000000) 380))
 (zlf pc 380 (s_rI)))
 (znd pc 385
 (zlf pc 383 (s_ic (-1000000) 385))
 (zlf pc 385 (s_rI)))))))))
theorem zm_L_does (G : Nat × Nat) (pc : Nat) : zMon (zc_L_does G pc) := (mo_d (mo_d (mo_d (mo_d (mo_d (mo_d (mo_d (mo_l (mo_iload _ _)) (mo_d (mo_l (mo_ifne _ _)) (mo_l (mo_aload _ _)))) (mo_d (mo_l (mo_iload _ _)) (mo_d (mo_l (mo_iload _ _)) (mo_l (mo_iload _ _))))) (mo_d (mo_d (mo_l (mo_iload _ _)) (mo_d (mo_l (mo_cI _ _ _ _ (zPre_V _) (zHm_c _ _))) (mo_l (mo_goto _)))) (mo_d (mo_l (mo_iload _ _)) (mo_d (mo_l (mo_ic _ _)) (mo_l (mo_cmpne _ _)))))) (mo_d (mo_d (mo_d (mo_l (mo_aload _ _)) (mo_d (mo_l (mo_iload _ _)) (mo_l (mo_iload _ _)))) (mo_d (mo_l (mo_iload _ _)) (mo_d (mo_l (mo_cI _ _ _ _ (zPre_V _) (zHm_c _ _))) (mo_l (mo_goto _))))) (mo_d (mo_d (mo_l (mo_iload _ _)) (mo_d (mo_l (mo_ic _ _)) (mo_l (mo_cmpne _ _)))) (mo_d (mo_d (mo_l (mo_aload _ _)) (mo_l (mo_iload _ _))) (mo_d (mo_l (mo_iload _ _)) (mo_l (mo_cI _ _ _ _ (zPre_V _) (zHm_c _ _)))))))) (mo_d (mo_d (mo_d (mo_d (mo_l (mo_goto _)) (mo_d (mo_l (mo_iload _ _)) (mo_l (mo_ic _ _)))) (mo_d (mo_l (mo_cmpne _ _)) (mo_d (mo_l (mo_aload _ _)) (mo_l (mo_iload _ _))))) (mo_d (mo_d (mo_l (mo_iload _ _)) (mo_d (mo_l (mo_iload _ _)) (mo_l (mo_iload _ _)))) (mo_d (mo_l (mo_iload _ _)) (mo_d (mo_l (mo_cI _ _ _ _ (zPre_V _) (zHm_c _ _))) (mo_l (mo_goto _)))))) (mo_d (mo_d (mo_d (mo_l (mo_iload _ _)) (mo_d (mo_l (mo_ic _ _)) (mo_l (mo_cmpne _ _)))) (mo_d (mo_l (mo_aload _ _)) (mo_d (mo_l (mo_iload _ _)) (mo_l (mo_cI _ _ _ _ (zPre_V _) (zHm_c _ _)))))) (mo_d (mo_d (mo_l (mo_goto _)) (mo_d (mo_l (mo_iload _ _)) (mo_l (mo_ic _ _)))) (mo_d (mo_d (mo_l (mo_cmpne _ _)) (mo_l (mo_aload _ _))) (mo_d (mo_l (mo_iload _ _)) (mo_l (mo_iload _ _)))))))) (mo_d (mo_d (mo_d (mo_d (mo_d (mo_l (mo_cI _ _ _ _ (zPre_V _) (zHm_c _ _))) (mo_d (mo_l (mo_goto _)) (mo_l (mo_iload _ _)))) (mo_d (mo_l (mo_ic _ _)) (mo_d (mo_l (mo_cmpne _ _)) (mo_l (mo_aload _ _))))) (mo_d (mo_d (mo_l (mo_iload _ _)) (mo_d (mo_l (mo_iload _ _)) (mo_l (mo_cI _ _ _ _ (zPre_V _) (zHm_c _ _))))) (mo_d (mo_l (mo_goto _)) (mo_d (mo_l (mo_iload _ _)) (mo_l (mo_ic _ _)))))) (mo_d (mo_d (mo_d (mo_l (mo_cmpne _ _)) (mo_d (mo_l (mo_aload _ _)) (mo_l (mo_iload _ _)))) (mo_d (mo_l (mo_cI _ _ _ _ (zPre_V _) (zHm_c _ _))) (mo_d (mo_l (mo_ifeq _ _)) (mo_l (mo_ic _ _))))) (mo_d (mo_d (mo_l (mo_goto _)) (mo_d (mo_l (mo_ic _ _)) (mo_l (mo_goto _)))) (mo_d (mo_d (mo_l (mo_iload _ _)) (mo_l (mo_ic _ _))) (mo_d (mo_l (mo_cmpne _ _)) (mo_l (mo_aload _ _))))))) (mo_d (mo_d (mo_d (mo_d (mo_l (mo_iload _ _)) (mo_d (mo_l (mo_iload _ _)) (mo_l (mo_iload _ _)))) (mo_d (mo_l (mo_cI _ _ _ _ (zPre_V _) (zHm_c _ _))) (mo_d (mo_l (mo_goto _)) (mo_l (mo_iload _ _))))) (mo_d (mo_d (mo_l (mo_ic _ _)) (mo_d (mo_l (mo_cmpne _ _)) (mo_l (mo_aload _ _)))) (mo_d (mo_d (mo_l (mo_iload _ _)) (mo_l (mo_iload _ _))) (mo_d (mo_l (mo_ic _ _)) (mo_l (mo_cmpne _ _)))))) (mo_d (mo_d (mo_d (mo_l (mo_ic _ _)) (mo_d (mo_l (mo_goto _)) (mo_l (mo_ic _ _)))) (mo_d (mo_l (mo_cI _ _ _ _ (zPre_V _) (zHm_c _ _))) (mo_d (mo_l (mo_goto _)) (mo_l (mo_iload _ _))))) (mo_d (mo_d (mo_l (mo_ic _ _)) (mo_d (mo_l (mo_cmpne _ _)) (mo_l (mo_aload _ _)))) (mo_d (mo_d (mo_l (mo_iload _ _)) (mo_l (mo_iload _ _))) (mo_d (mo_l (mo_cI _ _ _ _ (zPre_V _) (zHm_c _ _))) (mo_l (mo_goto _))))))))) (mo_d (mo_d (mo_d (mo_d (mo_d (mo_d (mo_l (mo_iload _ _)) (mo_d (mo_l (mo_ic _ _)) (mo_l (mo_cmpne _ _)))) (mo_d (mo_l (mo_aload _ _)) (mo_d (mo_l (mo_cI _ _ _ _ (zPre_V _) (zHm_c _ _))) (mo_l (mo_goto _))))) (mo_d (mo_d (mo_l (mo_iload _ _)) (mo_d (mo_l (mo_ic _ _)) (mo_l (mo_cmpne _ _)))) (mo_d (mo_l (mo_aload _ _)) (mo_d (mo_l (mo_iload _ _)) (mo_l (mo_iload _ _)))))) (mo_d (mo_d (mo_d (mo_l (mo_iload _ _)) (mo_d (mo_l (mo_cI _ _ _ _ (zPre_V _) (zHm_c _ _))) (mo_l (mo_goto _)))) (mo_d (mo_l (mo_iload _ _)) (mo_d (mo_l (mo_ic _ _)) (mo_l (mo_cmpne _ _))))) (mo_d (mo_d (mo_l (mo_aload _ _)) (mo_d (mo_l (mo_iload _ _)) (mo_l (mo_iload _ _)))) (mo_d (mo_d (mo_l (mo_iload _ _)) (mo_l (mo_iload _ _))) (mo_d (mo_l (mo_cI _ _ _ _ zPre_S (zHm_c _ _))) (mo_l (mo_goto _))))))) (mo_d (mo_d (mo_d (mo_d (mo_l (mo_iload _ _)) (mo_d (mo_l (mo_ic _ _)) (mo_l (mo_cmpne _ _)))) (mo_d (mo_l (mo_aload _ _)) (mo_d (mo_l (mo_iload _ _)) (mo_l (mo_cI _ _ _ _ (zPre_V _) (zHm_c _ _)))))) (mo_d (mo_d (mo_l (mo_goto _)) (mo_d (mo_l (mo_iload _ _)) (mo_l (mo_ic _ _)))) (mo_d (mo_d (mo_l (mo_cmpne _ _)) (mo_l (mo_aload _ _))) (mo_d (mo_l (mo_iload _ _)) (mo_l (mo_iload _ _)))))) (mo_d (mo_d (mo_d (mo_l (mo_cI _ _ _ _ zPre_S (zHm_c _ _))) (mo_d (mo_l (mo_goto _)) (mo_l (mo_iload _ _)))) (mo_d (mo_l (mo_ic _ _)) (mo_d (mo_l (mo_cmpne _ _)) (mo_l (mo_aload _ _))))) (mo_d (mo_d (mo_l (mo_iload _ _)) (mo_d (mo_l (mo_iload _ _)) (mo_l (mo_ic _ _)))) (mo_d (mo_d (mo_l (mo_cmpne _ _)) (mo_l (mo_ic _ _))) (mo_d (mo_l (mo_goto _)) (mo_l (mo_ic _ _)))))))) (mo_d (mo_d (mo_d (mo_d (mo_d (mo_l (mo_cI _ _ _ _ (zPre_V _) (zHm_c _ _))) (mo_d (mo_l (mo_goto _)) (mo_l (mo_iload _ _)))) (mo_d (mo_l (mo_ic _ _)) (mo_d (mo_l (mo_cmpne _ _)) (mo_l (mo_aload _ _))))) (mo_d (mo_d (mo_l (mo_iload _ _)) (mo_d (mo_l (mo_cI _ _ _ _ (zPre_V _) (zHm_c _ _))) (mo_l (mo_goto _)))) (mo_d (mo_l (mo_iload _ _)) (mo_d (mo_l (mo_ic _ _)) (mo_l (mo_cmpne _ _)))))) (mo_d (mo_d (mo_d (mo_l (mo_aload _ _)) (mo_d (mo_l (mo_iload _ _)) (mo_l (mo_iload _ _)))) (mo_d (mo_l (mo_iload _ _)) (mo_d (mo_l (mo_cI _ _ _ _ (zPre_V _) (zHm_c _ _))) (mo_l (mo_goto _))))) (mo_d (mo_d (mo_l (mo_iload _ _)) (mo_d (mo_l (mo_ic _ _)) (mo_l (mo_cmpne _ _)))) (mo_d (mo_d (mo_l (mo_aload _ _)) (mo_l (mo_iload _ _))) (mo_d (mo_l (mo_cI _ _ _ _ (zPre_V _) (zHm_c _ _))) (mo_l (mo_goto _))))))) (mo_d (mo_d (mo_d (mo_d (mo_l (mo_iload _ _)) (mo_d (mo_l (mo_ic _ _)) (mo_l (mo_cmpne _ _)))) (mo_d (mo_l (mo_aload _ _)) (mo_d (mo_l (mo_iload _ _)) (mo_l (mo_cI _ _ _ _ (zPre_V _) (zHm_c _ _)))))) (mo_d (mo_d (mo_l (mo_goto _)) (mo_d (mo_l (mo_iload _ _)) (mo_l (mo_ic _ _)))) (mo_d (mo_d (mo_l (mo_cmpne _ _)) (mo_l (mo_aload _ _))) (mo_d (mo_l (mo_iload _ _)) (mo_l (mo_iload _ _)))))) (mo_d (mo_d (mo_d (mo_l (mo_iload _ _)) (mo_d (mo_l (mo_cI _ _ _ _ (zPre_V _) (zHm_c _ _))) (mo_l (mo_goto _)))) (mo_d (mo_l (mo_aload _ _)) (mo_d (mo_l (mo_iload _ _)) (mo_l (mo_cI _ _ _ _ (zPre_V _) (zHm_c _ _)))))) (mo_d (mo_d (mo_l (mo_rI)) (mo_d (mo_l (mo_ic _ _)) (mo_l (mo_rI)))) (mo_d (mo_d (mo_l (mo_ic _ _)) (mo_l (mo_rI))) (mo_d (mo_l (mo_ic _ _)) (mo_l (mo_rI))))))))))
def zc_X5_allOrders (G : Nat × Nat) : Nat → zSem := fun pc =>
 znd pc 5
 (znd pc 1
 (zlf pc 0 (s_ic 1 1))
 (znd pc 2
 (zlf pc 1 (s_aload 0 2))
 (zlf pc 2 (s_gI 6 4 5))))
 (znd pc 7
 (znd pc 6
 (zlf pc 5 (s_ishl 6))
 (zlf pc 6 (s_ic 1 7)))
 (znd pc 8
 (zlf pc 7 (s_isub 8))
 (zlf pc 8 (s_rI))))
theorem zm_X5_allOrders (G : Nat × Nat) (pc : Nat) : zMon (zc_X5_allOrders G pc) := (mo_d (mo_d (mo_l (mo_ic _ _)) (mo_d (mo_l (mo_aload _ _)) (mo_l (mo_gI _ _ _)))) (mo_d (mo_d (mo_l (mo_ishl _)) (mo_l (mo_ic _ _))) (mo_d (mo_l (mo_isub _)) (mo_l (mo_rI)))))
def zc_X4_weightOf (G : Nat × Nat) : Nat → zSem := fun pc =>
 znd pc 33
 (znd pc 12
 (znd pc 4
 (znd pc 2
 (znd pc 1
 (zlf pc 0 (s_ic 0 1))
 (zlf pc 1 (s_istore 2 2)))
 (znd pc 3
 (zlf pc 2 (s_ic 0 3))
 (zlf pc 3 (s_istore 3 4))))
 (znd pc 6
 (znd pc 5
 (zlf pc 4 (s_iload 3 5))
 (zlf pc 5 (s_aload 0 6)))
 (znd pc 9
 (zlf pc 6 (s_gR 5 2 9))
 (zlf pc 9 (s_cI (zpV 0) 16 1 [] zx0 12)))))
 (znd pc 20
 (znd pc 16
 (znd pc 15
 (zlf pc 12 (s_cmpge 62 15))
 (zlf pc 15 (s_aload 0 16)))
 (znd pc 19
 (zlf pc 16 (s_gR 5 2 19))
 (zlf pc 19 (s_iload 3 20))))
 (znd pc 26
 (znd pc 23
 (zlf pc 20 (s_cR (zpV 0) 44 2 [] zx0 23))
 (zlf pc 23 (s_cast 11 26)))
 (znd pc 28
 (zlf pc 26 (s_astore 4 28))
 (znd pc 30
 (zlf pc 28 (s_aload 4 30))
 (zlf pc 30 (s_gI 11 6 33)))))))
 (znd pc 48
 (znd pc 40
 (znd pc 37
 (znd pc 36
 (zlf pc 33 (s_ifne 56 36))
 (zlf pc 36 (s_iload 1 37)))
 (znd pc 38
 (zlf pc 37 (s_ic 1 38))
 (zlf pc 38 (s_aload 4 40))))
 (znd pc 44
 (znd pc 43
 (zlf pc 40 (s_gI 11 4 43))
 (zlf pc 43 (s_ishl 44)))
 (znd pc 45
 (zlf pc 44 (s_iand 45))
 (zlf pc 45 (s_ifeq 56 48)))))
 (znd pc 55
 (znd pc 51
 (znd pc 49
 (zlf pc 48 (s_iload 2 49))
 (zlf pc 49 (s_aload 4 51)))
 (znd pc 54
 (zlf pc 51 (s_gI 11 5 54))
 (zlf pc 54 (s_iadd 55))))
 (znd pc 59
 (znd pc 56
 (zlf pc 55 (s_istore 2 56))
 (zlf pc 56 (s_iinc 3 1 59)))
 (znd pc 62
 (zlf pc 59 (s_goto 4))
 (znd pc 63
 (zlf pc 62 (s_iload 2 63))
 (zlf pc 63 (s_rI)))))))
theorem zm_X4_weightOf (G : Nat × Nat) (pc : Nat) : zMon (zc_X4_weightOf G pc) := (mo_d (mo_d (mo_d (mo_d (mo_d (mo_l (mo_ic _ _)) (mo_l (mo_istore _ _))) (mo_d (mo_l (mo_ic _ _)) (mo_l (mo_istore _ _)))) (mo_d (mo_d (mo_l (mo_iload _ _)) (mo_l (mo_aload _ _))) (mo_d (mo_l (mo_gR _ _ _)) (mo_l (mo_cI _ _ _ _ (zPre_V _) zHm_0))))) (mo_d (mo_d (mo_d (mo_l (mo_cmpge _ _)) (mo_l (mo_aload _ _))) (mo_d (mo_l (mo_gR _ _ _)) (mo_l (mo_iload _ _)))) (mo_d (mo_d (mo_l (mo_cR _ _ _ _ (zPre_V _) zHm_0)) (mo_l (mo_cast _ _))) (mo_d (mo_l (mo_astore _ _)) (mo_d (mo_l (mo_aload _ _)) (mo_l (mo_gI _ _ _))))))) (mo_d (mo_d (mo_d (mo_d (mo_l (mo_ifne _ _)) (mo_l (mo_iload _ _))) (mo_d (mo_l (mo_ic _ _)) (mo_l (mo_aload _ _)))) (mo_d (mo_d (mo_l (mo_gI _ _ _)) (mo_l (mo_ishl _))) (mo_d (mo_l (mo_iand _)) (mo_l (mo_ifeq _ _))))) (mo_d (mo_d (mo_d (mo_l (mo_iload _ _)) (mo_l (mo_aload _ _))) (mo_d (mo_l (mo_gI _ _ _)) (mo_l (mo_iadd _)))) (mo_d (mo_d (mo_l (mo_istore _ _)) (mo_l (mo_iinc _ _ _))) (mo_d (mo_l (mo_goto _)) (mo_d (mo_l (mo_iload _ _)) (mo_l (mo_rI))))))))
def zc_X5_weightAsOne (G : Nat × Nat) : Nat → zSem := fun pc =>
 znd pc 31
 (znd pc 14
 (znd pc 5
 (znd pc 2
 (znd pc 1
 (zlf pc 0 (s_ic 0 1))
 (zlf pc 1 (s_istore 3 2)))
 (znd pc 3
 (zlf pc 2 (s_ic 0 3))
 (zlf pc 3 (s_istore 4 5))))
 (znd pc 8
 (znd pc 6
 (zlf pc 5 (s_ic 0 6))
 (zlf pc 6 (s_istore 5 8)))
 (znd pc 10
 (zlf pc 8 (s_iload 5 10))
 (znd pc 11
 (zlf pc 10 (s_aload 0 11))
 (zlf pc 11 (s_gI 6 4 14))))))
 (znd pc 22
 (znd pc 18
 (znd pc 17
 (zlf pc 14 (s_cmpge 58 17))
 (zlf pc 17 (s_iload 2 18)))
 (znd pc 19
 (zlf pc 18 (s_ic 1 19))
 (znd pc 21
 (zlf pc 19 (s_iload 5 21))
 (zlf pc 21 (s_ishl 22)))))
 (znd pc 26
 (znd pc 23
 (zlf pc 22 (s_iand 23))
 (zlf pc 23 (s_ifeq 52 26)))
 (znd pc 27
 (zlf pc 26 (s_iload 3 27))
 (znd pc 28
 (zlf pc 27 (s_aload 0 28))
 (zlf pc 28 (s_gR 6 0 31)))))))
 (znd pc 49
 (znd pc 38
 (znd pc 36
 (znd pc 33
 (zlf pc 31 (s_iload 5 33))
 (zlf pc 33 (s_cI (zpV 9) 54 2 [] zx0 36)))
 (znd pc 37
 (zlf pc 36 (s_ior 37))
 (zlf pc 37 (s_istore 3 38))))
 (znd pc 41
 (znd pc 40
 (zlf pc 38 (s_iload 4 40))
 (zlf pc 40 (s_aload 0 41)))
 (znd pc 44
 (zlf pc 41 (s_gR 6 1 44))
 (znd pc 46
 (zlf pc 44 (s_iload 5 46))
 (zlf pc 46 (s_cI (zpV 9) 54 2 [] zx0 49))))))
 (znd pc 59
 (znd pc 52
 (znd pc 50
 (zlf pc 49 (s_iadd 50))
 (zlf pc 50 (s_istore 4 52)))
 (znd pc 55
 (zlf pc 52 (s_iinc 5 1 55))
 (znd pc 58
 (zlf pc 55 (s_goto 8))
 (zlf pc 58 (s_aload 1 59)))))
 (znd pc 63
 (znd pc 60
 (zlf pc 59 (s_iload 3 60))
 (zlf pc 60 (s_cI (zpV 5) 88 2 [zU, zU, zU] zx0 63)))
 (znd pc 65
 (zlf pc 63 (s_iload 4 65))
 (znd pc 66
 (zlf pc 65 (s_imul 66))
 (zlf pc 66 (s_rI)))))))
theorem zm_X5_weightAsOne (G : Nat × Nat) (pc : Nat) : zMon (zc_X5_weightAsOne G pc) := (mo_d (mo_d (mo_d (mo_d (mo_d (mo_l (mo_ic _ _)) (mo_l (mo_istore _ _))) (mo_d (mo_l (mo_ic _ _)) (mo_l (mo_istore _ _)))) (mo_d (mo_d (mo_l (mo_ic _ _)) (mo_l (mo_istore _ _))) (mo_d (mo_l (mo_iload _ _)) (mo_d (mo_l (mo_aload _ _)) (mo_l (mo_gI _ _ _)))))) (mo_d (mo_d (mo_d (mo_l (mo_cmpge _ _)) (mo_l (mo_iload _ _))) (mo_d (mo_l (mo_ic _ _)) (mo_d (mo_l (mo_iload _ _)) (mo_l (mo_ishl _))))) (mo_d (mo_d (mo_l (mo_iand _)) (mo_l (mo_ifeq _ _))) (mo_d (mo_l (mo_iload _ _)) (mo_d (mo_l (mo_aload _ _)) (mo_l (mo_gR _ _ _))))))) (mo_d (mo_d (mo_d (mo_d (mo_l (mo_iload _ _)) (mo_l (mo_cI _ _ _ _ (zPre_V _) zHm_0))) (mo_d (mo_l (mo_ior _)) (mo_l (mo_istore _ _)))) (mo_d (mo_d (mo_l (mo_iload _ _)) (mo_l (mo_aload _ _))) (mo_d (mo_l (mo_gR _ _ _)) (mo_d (mo_l (mo_iload _ _)) (mo_l (mo_cI _ _ _ _ (zPre_V _) zHm_0)))))) (mo_d (mo_d (mo_d (mo_l (mo_iadd _)) (mo_l (mo_istore _ _))) (mo_d (mo_l (mo_iinc _ _ _)) (mo_d (mo_l (mo_goto _)) (mo_l (mo_aload _ _))))) (mo_d (mo_d (mo_l (mo_iload _ _)) (mo_l (mo_cI _ _ _ _ (zPre_V _) zHm_0))) (mo_d (mo_l (mo_iload _ _)) (mo_d (mo_l (mo_imul _)) (mo_l (mo_rI))))))))
def zc_X5_weighSets (G : Nat × Nat) : Nat → zSem := fun pc =>
 znd pc 13
 (znd pc 6
 (znd pc 4
 (znd pc 1
 (zlf pc 0 (s_aload 0 1))
 (zlf pc 1 (s_cI (zpV 6) 98 1 [] zx0 4)))
 (znd pc 5
 (zlf pc 4 (s_istore 2 5))
 (zlf pc 5 (s_ic 0 6))))
 (znd pc 8
 (znd pc 7
 (zlf pc 6 (s_istore 3 7))
 (zlf pc 7 (s_iload 3 8)))
 (znd pc 9
 (zlf pc 8 (s_iload 2 9))
 (znd pc 12
 (zlf pc 9 (s_cmpgt 32 12))
 (zlf pc 12 (s_aload 0 13))))))
 (znd pc 20
 (znd pc 17
 (znd pc 16
 (zlf pc 13 (s_gR 6 2 16))
 (zlf pc 16 (s_iload 3 17)))
 (znd pc 18
 (zlf pc 17 (s_aload 0 18))
 (znd pc 19
 (zlf pc 18 (s_aload 1 19))
 (zlf pc 19 (s_iload 3 20)))))
 (znd pc 26
 (znd pc 23
 (zlf pc 20 (s_cI (zpV 6) 99 3 [zU, zU, zU] zx0 23))
 (zlf pc 23 (s_cV (zpV 9) 7 3 [] zx0 26)))
 (znd pc 29
 (zlf pc 26 (s_iinc 3 1 29))
 (znd pc 32
 (zlf pc 29 (s_goto 7))
 (zlf pc 32 (s_rV))))))
theorem zm_X5_weighSets (G : Nat × Nat) (pc : Nat) : zMon (zc_X5_weighSets G pc) := (mo_d (mo_d (mo_d (mo_d (mo_l (mo_aload _ _)) (mo_l (mo_cI _ _ _ _ (zPre_V _) zHm_0))) (mo_d (mo_l (mo_istore _ _)) (mo_l (mo_ic _ _)))) (mo_d (mo_d (mo_l (mo_istore _ _)) (mo_l (mo_iload _ _))) (mo_d (mo_l (mo_iload _ _)) (mo_d (mo_l (mo_cmpgt _ _)) (mo_l (mo_aload _ _)))))) (mo_d (mo_d (mo_d (mo_l (mo_gR _ _ _)) (mo_l (mo_iload _ _))) (mo_d (mo_l (mo_aload _ _)) (mo_d (mo_l (mo_aload _ _)) (mo_l (mo_iload _ _))))) (mo_d (mo_d (mo_l (mo_cI _ _ _ _ (zPre_V _) zHm_0)) (mo_l (mo_cV _ _ _ _ (zPre_V _) zHm_0))) (mo_d (mo_l (mo_iinc _ _ _)) (mo_d (mo_l (mo_goto _)) (mo_l (mo_rV)))))))
def zc_X5_leastOfRest (G : Nat × Nat) (y : Nat) : Nat → zSem := fun pc =>
 znd pc 41
 (znd pc 18
 (znd pc 8
 (znd pc 5
 (znd pc 1
 (zlf pc 0 (s_iload 1 1))
 (znd pc 4
 (zlf pc 1 (s_ifne 6 4))
 (zlf pc 4 (s_ic 0 5))))
 (znd pc 6
 (zlf pc 5 (s_rI))
 (znd pc 7
 (zlf pc 6 (s_iload 2 7))
 (zlf pc 7 (s_ic 1 8)))))
 (znd pc 14
 (znd pc 11
 (zlf pc 8 (s_cmpge 14 11))
 (znd pc 13
 (zlf pc 11 (s_ic 1000000000 13))
 (zlf pc 13 (s_rI))))
 (znd pc 16
 (znd pc 15
 (zlf pc 14 (s_iload 1 15))
 (zlf pc 15 (s_iload 1 16)))
 (znd pc 17
 (zlf pc 16 (s_ineg 17))
 (zlf pc 17 (s_iand 18))))))
 (znd pc 29
 (znd pc 23
 (znd pc 19
 (zlf pc 18 (s_istore 3 19))
 (znd pc 21
 (zlf pc 19 (s_ic 1000000000 21))
 (zlf pc 21 (s_istore 4 23))))
 (znd pc 26
 (znd pc 24
 (zlf pc 23 (s_iload 3 24))
 (zlf pc 24 (s_istore 5 26)))
 (znd pc 28
 (zlf pc 26 (s_iload 5 28))
 (zlf pc 28 (s_iload 1 29)))))
 (znd pc 35
 (znd pc 32
 (zlf pc 29 (s_cmpgt 85 32))
 (znd pc 34
 (zlf pc 32 (s_iload 5 34))
 (zlf pc 34 (s_iload 1 35))))
 (znd pc 37
 (znd pc 36
 (zlf pc 35 (s_ic (-1) 36))
 (zlf pc 36 (s_ixor 37)))
 (znd pc 38
 (zlf pc 37 (s_iand 38))
 (zlf pc 38 (s_ifne 79 41)))))))
 (znd pc 58
 (znd pc 50
 (znd pc 45
 (znd pc 43
 (zlf pc 41 (s_iload 5 43))
 (znd pc 44
 (zlf pc 43 (s_iload 3 44))
 (zlf pc 44 (s_iand 45))))
 (znd pc 48
 (zlf pc 45 (s_ifeq 79 48))
 (znd pc 49
 (zlf pc 48 (s_aload 0 49))
 (zlf pc 49 (s_iload 1 50)))))
 (znd pc 54
 (znd pc 52
 (zlf pc 50 (s_iload 5 52))
 (znd pc 53
 (zlf pc 52 (s_ic (-1) 53))
 (zlf pc 53 (s_ixor 54))))
 (znd pc 56
 (znd pc 55
 (zlf pc 54 (s_iand 55))
 (zlf pc 55 (s_iload 2 56)))
 (znd pc 57
 (zlf pc 56 (s_ic 1 57))
 (zlf pc 57 (s_isub 58))))))
 (znd pc 73
 (znd pc 65
 (znd pc 61
 (zlf pc 58 (s_cI zpS (y - 1) 3 [zU, zU, zU, zU] zx0 61))
 (znd pc 63
 (zlf pc 61 (s_istore 6 63))
 (zlf pc 63 (s_iload 4 65))))
 (znd pc 68
 (znd pc 66
 (zlf pc 65 (s_aload 0 66))
 (zlf pc 66 (s_iload 5 68)))
 (znd pc 71
 (zlf pc 68 (s_cI (zpV 9) 54 2 [] zx0 71))
 (zlf pc 71 (s_iload 6 73)))))
 (znd pc 79
 (znd pc 74
 (zlf pc 73 (s_iadd 74))
 (znd pc 77
 (zlf pc 74 (s_cI zpS 21 2 [] zx0 77))
 (zlf pc 77 (s_istore 4 79))))
 (znd pc 85
 (znd pc 82
 (zlf pc 79 (s_iinc 5 1 82))
 (zlf pc 82 (s_goto 26)))
 (znd pc 87
 (zlf pc 85 (s_iload 4 87))
 (zlf pc 87 (s_rI)))))))
theorem zm_X5_leastOfRest (G : Nat × Nat) (y : Nat) (pc : Nat) : zMon (zc_X5_leastOfRest G y pc) := (mo_d (mo_d (mo_d (mo_d (mo_d (mo_l (mo_iload _ _)) (mo_d (mo_l (mo_ifne _ _)) (mo_l (mo_ic _ _)))) (mo_d (mo_l (mo_rI)) (mo_d (mo_l (mo_iload _ _)) (mo_l (mo_ic _ _))))) (mo_d (mo_d (mo_l (mo_cmpge _ _)) (mo_d (mo_l (mo_ic _ _)) (mo_l (mo_rI)))) (mo_d (mo_d (mo_l (mo_iload _ _)) (mo_l (mo_iload _ _))) (mo_d (mo_l (mo_ineg _)) (mo_l (mo_iand _)))))) (mo_d (mo_d (mo_d (mo_l (mo_istore _ _)) (mo_d (mo_l (mo_ic _ _)) (mo_l (mo_istore _ _)))) (mo_d (mo_d (mo_l (mo_iload _ _)) (mo_l (mo_istore _ _))) (mo_d (mo_l (mo_iload _ _)) (mo_l (mo_iload _ _))))) (mo_d (mo_d (mo_l (mo_cmpgt _ _)) (mo_d (mo_l (mo_iload _ _)) (mo_l (mo_iload _ _)))) (mo_d (mo_d (mo_l (mo_ic _ _)) (mo_l (mo_ixor _))) (mo_d (mo_l (mo_iand _)) (mo_l (mo_ifne _ _))))))) (mo_d (mo_d (mo_d (mo_d (mo_l (mo_iload _ _)) (mo_d (mo_l (mo_iload _ _)) (mo_l (mo_iand _)))) (mo_d (mo_l (mo_ifeq _ _)) (mo_d (mo_l (mo_aload _ _)) (mo_l (mo_iload _ _))))) (mo_d (mo_d (mo_l (mo_iload _ _)) (mo_d (mo_l (mo_ic _ _)) (mo_l (mo_ixor _)))) (mo_d (mo_d (mo_l (mo_iand _)) (mo_l (mo_iload _ _))) (mo_d (mo_l (mo_ic _ _)) (mo_l (mo_isub _)))))) (mo_d (mo_d (mo_d (mo_l (mo_cI _ _ _ _ zPre_S zHm_0)) (mo_d (mo_l (mo_istore _ _)) (mo_l (mo_iload _ _)))) (mo_d (mo_d (mo_l (mo_aload _ _)) (mo_l (mo_iload _ _))) (mo_d (mo_l (mo_cI _ _ _ _ (zPre_V _) zHm_0)) (mo_l (mo_iload _ _))))) (mo_d (mo_d (mo_l (mo_iadd _)) (mo_d (mo_l (mo_cI _ _ _ _ zPre_S zHm_0)) (mo_l (mo_istore _ _)))) (mo_d (mo_d (mo_l (mo_iinc _ _ _)) (mo_l (mo_goto _))) (mo_d (mo_l (mo_iload _ _)) (mo_l (mo_rI))))))))
def zc_X5_leastByChoice (G : Nat × Nat) : Nat → zSem := fun pc =>
 znd pc 9
 (znd pc 2
 (znd pc 1
 (zlf pc 0 (s_aload 0 1))
 (zlf pc 1 (s_aload 1 2)))
 (znd pc 5
 (zlf pc 2 (s_cV (zpV 6) 100 2 [zU, zU] zx0 5))
 (znd pc 6
 (zlf pc 5 (s_aload 0 6))
 (zlf pc 6 (s_gR 6 2 9)))))
 (znd pc 13
 (znd pc 10
 (zlf pc 9 (s_aload 0 10))
 (zlf pc 10 (s_cI (zpV 6) 98 1 [] zx0 13)))
 (znd pc 14
 (zlf pc 13 (s_iload 2 14))
 (znd pc 17
 (zlf pc 14 (s_cI zpS 1006 3 [zU, zU, zU, zU] zx0 17))
 (zlf pc 17 (s_rI)))))
theorem zm_X5_leastByChoice (G : Nat × Nat) (pc : Nat) : zMon (zc_X5_leastByChoice G pc) := (mo_d (mo_d (mo_d (mo_l (mo_aload _ _)) (mo_l (mo_aload _ _))) (mo_d (mo_l (mo_cV _ _ _ _ (zPre_V _) zHm_0)) (mo_d (mo_l (mo_aload _ _)) (mo_l (mo_gR _ _ _))))) (mo_d (mo_d (mo_l (mo_aload _ _)) (mo_l (mo_cI _ _ _ _ (zPre_V _) zHm_0))) (mo_d (mo_l (mo_iload _ _)) (mo_d (mo_l (mo_cI _ _ _ _ zPre_S zHm_0)) (mo_l (mo_rI))))))
def zc_X11_least (G : Nat × Nat) : Nat → zSem := fun pc =>
 znd pc 10
 (znd pc 3
 (znd pc 1
 (zlf pc 0 (s_iload 1 1))
 (znd pc 2
 (zlf pc 1 (s_ic 1 2))
 (zlf pc 2 (s_ic 5 3))))
 (znd pc 6
 (zlf pc 3 (s_cI zpS 14 3 [] zx0 6))
 (znd pc 9
 (zlf pc 6 (s_cV zpS 15 1 [] zx0 9))
 (zlf pc 9 (s_aload 0 10)))))
 (znd pc 17
 (znd pc 13
 (zlf pc 10 (s_gR 12 1 13))
 (znd pc 14
 (zlf pc 13 (s_aload 0 14))
 (zlf pc 14 (s_gR 12 0 17))))
 (znd pc 18
 (zlf pc 17 (s_iload 1 18))
 (znd pc 21
 (zlf pc 18 (s_cI (zpV 6) 102 3 [] zx0 21))
 (zlf pc 21 (s_rI)))))
theorem zm_X11_least (G : Nat × Nat) (pc : Nat) : zMon (zc_X11_least G pc) := (mo_d (mo_d (mo_d (mo_l (mo_iload _ _)) (mo_d (mo_l (mo_ic _ _)) (mo_l (mo_ic _ _)))) (mo_d (mo_l (mo_cI _ _ _ _ zPre_S zHm_0)) (mo_d (mo_l (mo_cV _ _ _ _ zPre_S zHm_0)) (mo_l (mo_aload _ _))))) (mo_d (mo_d (mo_l (mo_gR _ _ _)) (mo_d (mo_l (mo_aload _ _)) (mo_l (mo_gR _ _ _)))) (mo_d (mo_l (mo_iload _ _)) (mo_d (mo_l (mo_cI _ _ _ _ (zPre_V _) zHm_0)) (mo_l (mo_rI))))))
def zc_X5_leastWithOneMore (G : Nat × Nat) : Nat → zSem := fun pc =>
 znd pc 26
 (znd pc 13
 (znd pc 8
 (znd pc 4
 (znd pc 1
 (zlf pc 0 (s_aload 0 1))
 (zlf pc 1 (s_gR 6 3 4)))
 (znd pc 5
 (zlf pc 4 (s_iload 1 5))
 (zlf pc 5 (s_cI (zpV 9) 54 2 [] zx0 8))))
 (znd pc 10
 (znd pc 9
 (zlf pc 8 (s_istore 2 9))
 (zlf pc 9 (s_ic 1 10)))
 (znd pc 11
 (zlf pc 10 (s_istore 3 11))
 (znd pc 12
 (zlf pc 11 (s_iload 3 12))
 (zlf pc 12 (s_iload 1 13))))))
 (znd pc 19
 (znd pc 17
 (znd pc 16
 (zlf pc 13 (s_cmpgt 56 16))
 (zlf pc 16 (s_iload 3 17)))
 (znd pc 18
 (zlf pc 17 (s_iload 1 18))
 (zlf pc 18 (s_ic (-1) 19))))
 (znd pc 21
 (znd pc 20
 (zlf pc 19 (s_ixor 20))
 (zlf pc 20 (s_iand 21)))
 (znd pc 24
 (zlf pc 21 (s_ifne 50 24))
 (znd pc 25
 (zlf pc 24 (s_iload 2 25))
 (zlf pc 25 (s_aload 0 26)))))))
 (znd pc 41
 (znd pc 34
 (znd pc 30
 (znd pc 29
 (zlf pc 26 (s_gR 6 2 29))
 (zlf pc 29 (s_iload 3 30)))
 (znd pc 33
 (zlf pc 30 (s_cI (zpV 9) 54 2 [] zx0 33))
 (zlf pc 33 (s_aload 0 34))))
 (znd pc 38
 (znd pc 37
 (zlf pc 34 (s_gR 6 3 37))
 (zlf pc 37 (s_iload 1 38)))
 (znd pc 39
 (zlf pc 38 (s_iload 3 39))
 (znd pc 40
 (zlf pc 39 (s_ic (-1) 40))
 (zlf pc 40 (s_ixor 41))))))
 (znd pc 49
 (znd pc 45
 (znd pc 42
 (zlf pc 41 (s_iand 42))
 (zlf pc 42 (s_cI (zpV 9) 54 2 [] zx0 45)))
 (znd pc 46
 (zlf pc 45 (s_iadd 46))
 (zlf pc 46 (s_cI zpS 21 2 [] zx0 49))))
 (znd pc 53
 (znd pc 50
 (zlf pc 49 (s_istore 2 50))
 (zlf pc 50 (s_iinc 3 1 53)))
 (znd pc 56
 (zlf pc 53 (s_goto 11))
 (znd pc 57
 (zlf pc 56 (s_iload 2 57))
 (zlf pc 57 (s_rI)))))))
theorem zm_X5_leastWithOneMore (G : Nat × Nat) (pc : Nat) : zMon (zc_X5_leastWithOneMore G pc) := (mo_d (mo_d (mo_d (mo_d (mo_d (mo_l (mo_aload _ _)) (mo_l (mo_gR _ _ _))) (mo_d (mo_l (mo_iload _ _)) (mo_l (mo_cI _ _ _ _ (zPre_V _) zHm_0)))) (mo_d (mo_d (mo_l (mo_istore _ _)) (mo_l (mo_ic _ _))) (mo_d (mo_l (mo_istore _ _)) (mo_d (mo_l (mo_iload _ _)) (mo_l (mo_iload _ _)))))) (mo_d (mo_d (mo_d (mo_l (mo_cmpgt _ _)) (mo_l (mo_iload _ _))) (mo_d (mo_l (mo_iload _ _)) (mo_l (mo_ic _ _)))) (mo_d (mo_d (mo_l (mo_ixor _)) (mo_l (mo_iand _))) (mo_d (mo_l (mo_ifne _ _)) (mo_d (mo_l (mo_iload _ _)) (mo_l (mo_aload _ _))))))) (mo_d (mo_d (mo_d (mo_d (mo_l (mo_gR _ _ _)) (mo_l (mo_iload _ _))) (mo_d (mo_l (mo_cI _ _ _ _ (zPre_V _) zHm_0)) (mo_l (mo_aload _ _)))) (mo_d (mo_d (mo_l (mo_gR _ _ _)) (mo_l (mo_iload _ _))) (mo_d (mo_l (mo_iload _ _)) (mo_d (mo_l (mo_ic _ _)) (mo_l (mo_ixor _)))))) (mo_d (mo_d (mo_d (mo_l (mo_iand _)) (mo_l (mo_cI _ _ _ _ (zPre_V _) zHm_0))) (mo_d (mo_l (mo_iadd _)) (mo_l (mo_cI _ _ _ _ zPre_S zHm_0)))) (mo_d (mo_d (mo_l (mo_istore _ _)) (mo_l (mo_iinc _ _ _))) (mo_d (mo_l (mo_goto _)) (mo_d (mo_l (mo_iload _ _)) (mo_l (mo_rI))))))))
def zc_X5_addFamily (G : Nat × Nat) : Nat → zSem := fun pc =>
 znd pc 13
 (znd pc 5
 (znd pc 1
 (zlf pc 0 (s_aload 0 1))
 (znd pc 4
 (zlf pc 1 (s_cI (zpV 6) 98 1 [] zx0 4))
 (zlf pc 4 (s_istore 1 5))))
 (znd pc 9
 (znd pc 6
 (zlf pc 5 (s_iload 1 6))
 (zlf pc 6 (s_iflt 28 9)))
 (znd pc 10
 (zlf pc 9 (s_aload 0 10))
 (zlf pc 10 (s_gR 6 3 13)))))
 (znd pc 19
 (znd pc 15
 (znd pc 14
 (zlf pc 13 (s_iload 1 14))
 (zlf pc 14 (s_aload 0 15)))
 (znd pc 16
 (zlf pc 15 (s_iload 1 16))
 (zlf pc 16 (s_cI (zpV 6) 108 2 [zU, zU] zx0 19))))
 (znd pc 25
 (znd pc 22
 (zlf pc 19 (s_cV (zpV 9) 7 3 [] zx0 22))
 (zlf pc 22 (s_iinc 1 (-1) 25)))
 (znd pc 28
 (zlf pc 25 (s_goto 5))
 (zlf pc 28 (s_rV)))))
theorem zm_X5_addFamily (G : Nat × Nat) (pc : Nat) : zMon (zc_X5_addFamily G pc) := (mo_d (mo_d (mo_d (mo_l (mo_aload _ _)) (mo_d (mo_l (mo_cI _ _ _ _ (zPre_V _) zHm_0)) (mo_l (mo_istore _ _)))) (mo_d (mo_d (mo_l (mo_iload _ _)) (mo_l (mo_iflt _ _))) (mo_d (mo_l (mo_aload _ _)) (mo_l (mo_gR _ _ _))))) (mo_d (mo_d (mo_d (mo_l (mo_iload _ _)) (mo_l (mo_aload _ _))) (mo_d (mo_l (mo_iload _ _)) (mo_l (mo_cI _ _ _ _ (zPre_V _) zHm_0)))) (mo_d (mo_d (mo_l (mo_cV _ _ _ _ (zPre_V _) zHm_0)) (mo_l (mo_iinc _ _ _))) (mo_d (mo_l (mo_goto _)) (mo_l (mo_rV))))))
def zc_X5_leastByTable (G : Nat × Nat) : Nat → zSem := fun pc =>
 znd pc 24
 (znd pc 11
 (znd pc 5
 (znd pc 1
 (zlf pc 0 (s_aload 0 1))
 (znd pc 2
 (zlf pc 1 (s_aload 1 2))
 (zlf pc 2 (s_cV (zpV 6) 100 2 [zU, zU] zx0 5))))
 (znd pc 6
 (zlf pc 5 (s_aload 0 6))
 (znd pc 9
 (zlf pc 6 (s_gR 6 3 9))
 (zlf pc 9 (s_ic 1000000000 11)))))
 (znd pc 18
 (znd pc 14
 (zlf pc 11 (s_cV (zpV 9) 8 2 [zU] zx0 14))
 (znd pc 15
 (zlf pc 14 (s_aload 0 15))
 (zlf pc 15 (s_gR 6 3 18))))
 (znd pc 20
 (znd pc 19
 (zlf pc 18 (s_ic 0 19))
 (zlf pc 19 (s_ic 0 20)))
 (znd pc 23
 (zlf pc 20 (s_cV (zpV 9) 7 3 [] zx0 23))
 (zlf pc 23 (s_ic 1 24))))))
 (znd pc 37
 (znd pc 27
 (znd pc 25
 (zlf pc 24 (s_istore 3 25))
 (znd pc 26
 (zlf pc 25 (s_iload 3 26))
 (zlf pc 26 (s_iload 2 27))))
 (znd pc 31
 (znd pc 30
 (zlf pc 27 (s_cmpgt 40 30))
 (zlf pc 30 (s_aload 0 31)))
 (znd pc 34
 (zlf pc 31 (s_cV (zpV 6) 109 1 [zU] zx0 34))
 (zlf pc 34 (s_iinc 3 1 37)))))
 (znd pc 44
 (znd pc 40
 (zlf pc 37 (s_goto 25))
 (znd pc 41
 (zlf pc 40 (s_aload 0 41))
 (zlf pc 41 (s_gR 6 3 44))))
 (znd pc 48
 (znd pc 45
 (zlf pc 44 (s_aload 0 45))
 (zlf pc 45 (s_cI (zpV 6) 98 1 [] zx0 48)))
 (znd pc 51
 (zlf pc 48 (s_cI (zpV 9) 54 2 [] zx0 51))
 (zlf pc 51 (s_rI))))))
theorem zm_X5_leastByTable (G : Nat × Nat) (pc : Nat) : zMon (zc_X5_leastByTable G pc) := (mo_d (mo_d (mo_d (mo_d (mo_l (mo_aload _ _)) (mo_d (mo_l (mo_aload _ _)) (mo_l (mo_cV _ _ _ _ (zPre_V _) zHm_0)))) (mo_d (mo_l (mo_aload _ _)) (mo_d (mo_l (mo_gR _ _ _)) (mo_l (mo_ic _ _))))) (mo_d (mo_d (mo_l (mo_cV _ _ _ _ (zPre_V _) zHm_0)) (mo_d (mo_l (mo_aload _ _)) (mo_l (mo_gR _ _ _)))) (mo_d (mo_d (mo_l (mo_ic _ _)) (mo_l (mo_ic _ _))) (mo_d (mo_l (mo_cV _ _ _ _ (zPre_V _) zHm_0)) (mo_l (mo_ic _ _)))))) (mo_d (mo_d (mo_d (mo_l (mo_istore _ _)) (mo_d (mo_l (mo_iload _ _)) (mo_l (mo_iload _ _)))) (mo_d (mo_d (mo_l (mo_cmpgt _ _)) (mo_l (mo_aload _ _))) (mo_d (mo_l (mo_cV _ _ _ _ (zPre_V _) zHm_0)) (mo_l (mo_iinc _ _ _))))) (mo_d (mo_d (mo_l (mo_goto _)) (mo_d (mo_l (mo_aload _ _)) (mo_l (mo_gR _ _ _)))) (mo_d (mo_d (mo_l (mo_aload _ _)) (mo_l (mo_cI _ _ _ _ (zPre_V _) zHm_0))) (mo_d (mo_l (mo_cI _ _ _ _ (zPre_V _) zHm_0)) (mo_l (mo_rI)))))))
def zc_X11_leastAnew (G : Nat × Nat) : Nat → zSem := fun pc =>
 znd pc 10
 (znd pc 3
 (znd pc 1
 (zlf pc 0 (s_iload 1 1))
 (znd pc 2
 (zlf pc 1 (s_ic 1 2))
 (zlf pc 2 (s_ic 5 3))))
 (znd pc 6
 (zlf pc 3 (s_cI zpS 14 3 [] zx0 6))
 (znd pc 9
 (zlf pc 6 (s_cV zpS 15 1 [] zx0 9))
 (zlf pc 9 (s_aload 0 10)))))
 (znd pc 17
 (znd pc 13
 (zlf pc 10 (s_gR 12 1 13))
 (znd pc 14
 (zlf pc 13 (s_aload 0 14))
 (zlf pc 14 (s_gR 12 0 17))))
 (znd pc 18
 (zlf pc 17 (s_iload 1 18))
 (znd pc 21
 (zlf pc 18 (s_cI (zpV 6) 110 3 [zU] zx0 21))
 (zlf pc 21 (s_rI)))))
theorem zm_X11_leastAnew (G : Nat × Nat) (pc : Nat) : zMon (zc_X11_leastAnew G pc) := (mo_d (mo_d (mo_d (mo_l (mo_iload _ _)) (mo_d (mo_l (mo_ic _ _)) (mo_l (mo_ic _ _)))) (mo_d (mo_l (mo_cI _ _ _ _ zPre_S zHm_0)) (mo_d (mo_l (mo_cV _ _ _ _ zPre_S zHm_0)) (mo_l (mo_aload _ _))))) (mo_d (mo_d (mo_l (mo_gR _ _ _)) (mo_d (mo_l (mo_aload _ _)) (mo_l (mo_gR _ _ _)))) (mo_d (mo_l (mo_iload _ _)) (mo_d (mo_l (mo_cI _ _ _ _ (zPre_V _) zHm_0)) (mo_l (mo_rI))))))
def zc_L_part (G : Nat × Nat) : Nat → zSem := fun pc =>
 znd pc 20
 (znd pc 8
 (znd pc 3
 (znd pc 1
 (zlf pc 0 (s_iload 1 1))
 (znd pc 2
 (zlf pc 1 (s_aload 0 2))
 (zlf pc 2 (s_alen 3))))
 (znd pc 6
 (zlf pc 3 (s_cmpge 12 6))
 (znd pc 7
 (zlf pc 6 (s_aload 0 7))
 (zlf pc 7 (s_iload 1 8)))))
 (znd pc 15
 (znd pc 9
 (zlf pc 8 (s_iald 9))
 (znd pc 12
 (zlf pc 9 (s_goto 25))
 (zlf pc 12 (s_ic 983 15))))
 (znd pc 16
 (zlf pc 15 (s_iload 1 16))
 (znd pc 17
 (zlf pc 16 (s_imul 17))
 (zlf pc 17 (s_ic 853 20))))))
 (znd pc 26
 (znd pc 23
 (znd pc 21
 (zlf pc 20 (s_iload 1 21))
 (znd pc 22
 (zlf pc 21 (s_imul 22))
 (zlf pc 22 (s_iload 1 23))))
 (znd pc 24
 (zlf pc 23 (s_imul 24))
 (znd pc 25
 (zlf pc 24 (s_iadd 25))
 (zlf pc 25 (s_istore 3 26)))))
 (znd pc 30
 (znd pc 27
 (zlf pc 26 (s_iload 3 27))
 (znd pc 29
 (zlf pc 27 (s_ic 2147483647 29))
 (zlf pc 29 (s_iand 30))))
 (znd pc 31
 (zlf pc 30 (s_iload 2 31))
 (znd pc 32
 (zlf pc 31 (s_irem 32))
 (zlf pc 32 (s_rI))))))
theorem zm_L_part (G : Nat × Nat) (pc : Nat) : zMon (zc_L_part G pc) := (mo_d (mo_d (mo_d (mo_d (mo_l (mo_iload _ _)) (mo_d (mo_l (mo_aload _ _)) (mo_l (mo_alen _)))) (mo_d (mo_l (mo_cmpge _ _)) (mo_d (mo_l (mo_aload _ _)) (mo_l (mo_iload _ _))))) (mo_d (mo_d (mo_l (mo_iald _)) (mo_d (mo_l (mo_goto _)) (mo_l (mo_ic _ _)))) (mo_d (mo_l (mo_iload _ _)) (mo_d (mo_l (mo_imul _)) (mo_l (mo_ic _ _)))))) (mo_d (mo_d (mo_d (mo_l (mo_iload _ _)) (mo_d (mo_l (mo_imul _)) (mo_l (mo_iload _ _)))) (mo_d (mo_l (mo_imul _)) (mo_d (mo_l (mo_iadd _)) (mo_l (mo_istore _ _))))) (mo_d (mo_d (mo_l (mo_iload _ _)) (mo_d (mo_l (mo_ic _ _)) (mo_l (mo_iand _)))) (mo_d (mo_l (mo_iload _ _)) (mo_d (mo_l (mo_irem _)) (mo_l (mo_rI)))))))
def zc_L_wrong (G : Nat × Nat) : Nat → zSem := fun pc =>
 znd pc 36
 (znd pc 16
 (znd pc 6
 (znd pc 3
 (znd pc 1
 (zlf pc 0 (s_ic 0 1))
 (znd pc 2
 (zlf pc 1 (s_istore 2 2))
 (zlf pc 2 (s_ic 0 3))))
 (znd pc 4
 (zlf pc 3 (s_istore 3 4))
 (znd pc 5
 (zlf pc 4 (s_iload 3 5))
 (zlf pc 5 (s_aload 1 6)))))
 (znd pc 11
 (znd pc 7
 (zlf pc 6 (s_ic 1 7))
 (znd pc 8
 (zlf pc 7 (s_iald 8))
 (zlf pc 8 (s_cmpge 82 11))))
 (znd pc 13
 (znd pc 12
 (zlf pc 11 (s_iload 3 12))
 (zlf pc 12 (s_ic 1 13)))
 (znd pc 14
 (zlf pc 13 (s_iadd 14))
 (zlf pc 14 (s_istore 4 16))))))
 (znd pc 26
 (znd pc 20
 (znd pc 18
 (zlf pc 16 (s_iload 4 18))
 (znd pc 19
 (zlf pc 18 (s_aload 1 19))
 (zlf pc 19 (s_ic 1 20))))
 (znd pc 24
 (znd pc 21
 (zlf pc 20 (s_iald 21))
 (zlf pc 21 (s_cmpge 76 24)))
 (znd pc 25
 (zlf pc 24 (s_iload 2 25))
 (zlf pc 25 (s_aload 0 26)))))
 (znd pc 30
 (znd pc 27
 (zlf pc 26 (s_iload 3 27))
 (znd pc 28
 (zlf pc 27 (s_iald 28))
 (zlf pc 28 (s_ic 8 30))))
 (znd pc 34
 (znd pc 31
 (zlf pc 30 (s_idiv 31))
 (zlf pc 31 (s_ic 256 34)))
 (znd pc 35
 (zlf pc 34 (s_irem 35))
 (zlf pc 35 (s_aload 0 36)))))))
 (znd pc 57
 (znd pc 46
 (znd pc 41
 (znd pc 38
 (zlf pc 36 (s_iload 4 38))
 (znd pc 39
 (zlf pc 38 (s_iald 39))
 (zlf pc 39 (s_ic 8 41))))
 (znd pc 42
 (zlf pc 41 (s_idiv 42))
 (znd pc 45
 (zlf pc 42 (s_ic 256 45))
 (zlf pc 45 (s_irem 46)))))
 (znd pc 51
 (znd pc 49
 (zlf pc 46 (s_cmpne 67 49))
 (znd pc 50
 (zlf pc 49 (s_aload 0 50))
 (zlf pc 50 (s_iload 3 51))))
 (znd pc 55
 (znd pc 52
 (zlf pc 51 (s_iald 52))
 (zlf pc 52 (s_ic 2048 55)))
 (znd pc 56
 (zlf pc 55 (s_idiv 56))
 (zlf pc 56 (s_ic 1 57))))))
 (znd pc 69
 (znd pc 63
 (znd pc 58
 (zlf pc 57 (s_isub 58))
 (znd pc 60
 (zlf pc 58 (s_iload 4 60))
 (zlf pc 60 (s_cmpeq 67 63))))
 (znd pc 67
 (znd pc 64
 (zlf pc 63 (s_ic 1 64))
 (zlf pc 64 (s_goto 68)))
 (znd pc 68
 (zlf pc 67 (s_ic 0 68))
 (zlf pc 68 (s_iadd 69)))))
 (znd pc 76
 (znd pc 70
 (zlf pc 69 (s_istore 2 70))
 (znd pc 73
 (zlf pc 70 (s_iinc 4 1 73))
 (zlf pc 73 (s_goto 16))))
 (znd pc 82
 (znd pc 79
 (zlf pc 76 (s_iinc 3 1 79))
 (zlf pc 79 (s_goto 4)))
 (znd pc 83
 (zlf pc 82 (s_iload 2 83))
 (zlf pc 83 (s_rI)))))))
theorem zm_L_wrong (G : Nat × Nat) (pc : Nat) : zMon (zc_L_wrong G pc) := (mo_d (mo_d (mo_d (mo_d (mo_d (mo_l (mo_ic _ _)) (mo_d (mo_l (mo_istore _ _)) (mo_l (mo_ic _ _)))) (mo_d (mo_l (mo_istore _ _)) (mo_d (mo_l (mo_iload _ _)) (mo_l (mo_aload _ _))))) (mo_d (mo_d (mo_l (mo_ic _ _)) (mo_d (mo_l (mo_iald _)) (mo_l (mo_cmpge _ _)))) (mo_d (mo_d (mo_l (mo_iload _ _)) (mo_l (mo_ic _ _))) (mo_d (mo_l (mo_iadd _)) (mo_l (mo_istore _ _)))))) (mo_d (mo_d (mo_d (mo_l (mo_iload _ _)) (mo_d (mo_l (mo_aload _ _)) (mo_l (mo_ic _ _)))) (mo_d (mo_d (mo_l (mo_iald _)) (mo_l (mo_cmpge _ _))) (mo_d (mo_l (mo_iload _ _)) (mo_l (mo_aload _ _))))) (mo_d (mo_d (mo_l (mo_iload _ _)) (mo_d (mo_l (mo_iald _)) (mo_l (mo_ic _ _)))) (mo_d (mo_d (mo_l (mo_idiv _)) (mo_l (mo_ic _ _))) (mo_d (mo_l (mo_irem _)) (mo_l (mo_aload _ _))))))) (mo_d (mo_d (mo_d (mo_d (mo_l (mo_iload _ _)) (mo_d (mo_l (mo_iald _)) (mo_l (mo_ic _ _)))) (mo_d (mo_l (mo_idiv _)) (mo_d (mo_l (mo_ic _ _)) (mo_l (mo_irem _))))) (mo_d (mo_d (mo_l (mo_cmpne _ _)) (mo_d (mo_l (mo_aload _ _)) (mo_l (mo_iload _ _)))) (mo_d (mo_d (mo_l (mo_iald _)) (mo_l (mo_ic _ _))) (mo_d (mo_l (mo_idiv _)) (mo_l (mo_ic _ _)))))) (mo_d (mo_d (mo_d (mo_l (mo_isub _)) (mo_d (mo_l (mo_iload _ _)) (mo_l (mo_cmpeq _ _)))) (mo_d (mo_d (mo_l (mo_ic _ _)) (mo_l (mo_goto _))) (mo_d (mo_l (mo_ic _ _)) (mo_l (mo_iadd _))))) (mo_d (mo_d (mo_l (mo_istore _ _)) (mo_d (mo_l (mo_iinc _ _ _)) (mo_l (mo_goto _)))) (mo_d (mo_d (mo_l (mo_iinc _ _ _)) (mo_l (mo_goto _))) (mo_d (mo_l (mo_iload _ _)) (mo_l (mo_rI))))))))
def zc_L_way (G : Nat × Nat) : Nat → zSem := fun pc =>
 znd pc 168
 (znd pc 85
 (znd pc 39
 (znd pc 21
 (znd pc 10
 (znd pc 4
 (znd pc 2
 (zlf pc 0 (s_ic 9 2))
 (zlf pc 2 (s_nai 0 4)))
 (znd pc 6
 (zlf pc 4 (s_astore 6 6))
 (znd pc 8
 (zlf pc 6 (s_ic 9 8))
 (zlf pc 8 (s_nai 0 10)))))
 (znd pc 16
 (znd pc 12
 (zlf pc 10 (s_astore 7 12))
 (znd pc 14
 (zlf pc 12 (s_ic 9 14))
 (zlf pc 14 (s_nai 0 16))))
 (znd pc 18
 (zlf pc 16 (s_astore 8 18))
 (znd pc 19
 (zlf pc 18 (s_ic (-1) 19))
 (zlf pc 19 (s_istore 9 21))))))
 (znd pc 28
 (znd pc 24
 (znd pc 22
 (zlf pc 21 (s_ic 0 22))
 (zlf pc 22 (s_istore 10 24)))
 (znd pc 26
 (zlf pc 24 (s_aload 6 26))
 (znd pc 27
 (zlf pc 26 (s_ic 0 27))
 (zlf pc 27 (s_iload 3 28)))))
 (znd pc 34
 (znd pc 29
 (zlf pc 28 (s_iast 29))
 (znd pc 31
 (zlf pc 29 (s_iload 10 31))
 (zlf pc 31 (s_iflt 327 34))))
 (znd pc 36
 (zlf pc 34 (s_aload 8 36))
 (znd pc 38
 (zlf pc 36 (s_iload 10 38))
 (zlf pc 38 (s_iald 39)))))))
 (znd pc 59
 (znd pc 47
 (znd pc 42
 (znd pc 41
 (zlf pc 39 (s_ic 8 41))
 (zlf pc 41 (s_imul 42)))
 (znd pc 44
 (zlf pc 42 (s_iload 10 44))
 (znd pc 45
 (zlf pc 44 (s_iadd 45))
 (zlf pc 45 (s_istore 11 47)))))
 (znd pc 52
 (znd pc 49
 (zlf pc 47 (s_aload 6 49))
 (znd pc 51
 (zlf pc 49 (s_iload 10 51))
 (zlf pc 51 (s_iald 52))))
 (znd pc 54
 (zlf pc 52 (s_iload 4 54))
 (znd pc 57
 (zlf pc 54 (s_cmpne 112 57))
 (zlf pc 57 (s_iload 9 59))))))
 (znd pc 73
 (znd pc 66
 (znd pc 62
 (zlf pc 59 (s_iflt 69 62))
 (znd pc 64
 (zlf pc 62 (s_iload 11 64))
 (zlf pc 64 (s_iload 9 66))))
 (znd pc 69
 (zlf pc 66 (s_cmpge 112 69))
 (znd pc 71
 (zlf pc 69 (s_iload 11 71))
 (zlf pc 71 (s_istore 9 73)))))
 (znd pc 78
 (znd pc 74
 (zlf pc 73 (s_ic 0 74))
 (znd pc 76
 (zlf pc 74 (s_istore 12 76))
 (zlf pc 76 (s_iload 12 78))))
 (znd pc 80
 (zlf pc 78 (s_ic 8 80))
 (znd pc 83
 (zlf pc 80 (s_cmpge 112 83))
 (zlf pc 83 (s_aload 5 85))))))))
 (znd pc 127
 (znd pc 105
 (znd pc 96
 (znd pc 89
 (znd pc 87
 (zlf pc 85 (s_iload 12 87))
 (zlf pc 87 (s_iload 12 89)))
 (znd pc 91
 (zlf pc 89 (s_iload 10 91))
 (znd pc 94
 (zlf pc 91 (s_cmpge 104 94))
 (zlf pc 94 (s_aload 7 96)))))
 (znd pc 100
 (znd pc 98
 (zlf pc 96 (s_iload 12 98))
 (znd pc 99
 (zlf pc 98 (s_iald 99))
 (zlf pc 99 (s_ic 1 100))))
 (znd pc 101
 (zlf pc 100 (s_isub 101))
 (znd pc 104
 (zlf pc 101 (s_goto 105))
 (zlf pc 104 (s_ic (-1) 105))))))
 (znd pc 116
 (znd pc 109
 (znd pc 106
 (zlf pc 105 (s_iast 106))
 (zlf pc 106 (s_iinc 12 1 109)))
 (znd pc 112
 (zlf pc 109 (s_goto 76))
 (znd pc 114
 (zlf pc 112 (s_aload 6 114))
 (zlf pc 114 (s_iload 10 116)))))
 (znd pc 122
 (znd pc 117
 (zlf pc 116 (s_iald 117))
 (znd pc 119
 (zlf pc 117 (s_iload 4 119))
 (zlf pc 119 (s_cmpeq 145 122))))
 (znd pc 124
 (zlf pc 122 (s_aload 7 124))
 (znd pc 126
 (zlf pc 124 (s_iload 10 126))
 (zlf pc 126 (s_iald 127)))))))
 (znd pc 151
 (znd pc 135
 (znd pc 129
 (znd pc 128
 (zlf pc 127 (s_aload 2 128))
 (zlf pc 128 (s_ic 0 129)))
 (znd pc 130
 (zlf pc 129 (s_iald 130))
 (znd pc 133
 (zlf pc 130 (s_cmpeq 145 133))
 (zlf pc 133 (s_iload 9 135)))))
 (znd pc 142
 (znd pc 138
 (zlf pc 135 (s_iflt 151 138))
 (znd pc 140
 (zlf pc 138 (s_iload 11 140))
 (zlf pc 140 (s_iload 9 142))))
 (znd pc 145
 (zlf pc 142 (s_cmplt 151 145))
 (znd pc 148
 (zlf pc 145 (s_iinc 10 (-1) 148))
 (zlf pc 148 (s_goto 29))))))
 (znd pc 162
 (znd pc 156
 (znd pc 153
 (zlf pc 151 (s_aload 7 153))
 (znd pc 155
 (zlf pc 153 (s_iload 10 155))
 (zlf pc 155 (s_iald 156))))
 (znd pc 158
 (zlf pc 156 (s_istore 12 158))
 (znd pc 160
 (zlf pc 158 (s_aload 7 160))
 (zlf pc 160 (s_iload 10 162)))))
 (znd pc 165
 (znd pc 163
 (zlf pc 162 (s_dup2 163))
 (znd pc 164
 (zlf pc 163 (s_iald 164))
 (zlf pc 164 (s_ic 1 165))))
 (znd pc 166
 (zlf pc 165 (s_iadd 166))
 (znd pc 167
 (zlf pc 166 (s_iast 167))
 (zlf pc 167 (s_aload 0 168)))))))))
 (znd pc 245
 (znd pc 204
 (znd pc 186
 (znd pc 176
 (znd pc 171
 (znd pc 170
 (zlf pc 168 (s_iload 12 170))
 (zlf pc 170 (s_iald 171)))
 (znd pc 173
 (zlf pc 171 (s_ic 8 173))
 (znd pc 174
 (zlf pc 173 (s_irem 174))
 (zlf pc 174 (s_aload 6 176)))))
 (znd pc 182
 (znd pc 178
 (zlf pc 176 (s_iload 10 178))
 (znd pc 179
 (zlf pc 178 (s_iald 179))
 (zlf pc 179 (s_cmpne 195 182))))
 (znd pc 183
 (zlf pc 182 (s_aload 0 183))
 (znd pc 185
 (zlf pc 183 (s_iload 12 185))
 (zlf pc 185 (s_iald 186))))))
 (znd pc 195
 (znd pc 189
 (znd pc 188
 (zlf pc 186 (s_ic 8 188))
 (zlf pc 188 (s_idiv 189)))
 (znd pc 191
 (zlf pc 189 (s_ic 8 191))
 (znd pc 192
 (zlf pc 191 (s_irem 192))
 (zlf pc 192 (s_goto 224)))))
 (znd pc 199
 (znd pc 196
 (zlf pc 195 (s_aload 0 196))
 (znd pc 198
 (zlf pc 196 (s_iload 12 198))
 (zlf pc 198 (s_iald 199))))
 (znd pc 201
 (zlf pc 199 (s_ic 8 201))
 (znd pc 202
 (zlf pc 201 (s_idiv 202))
 (zlf pc 202 (s_ic 8 204)))))))
 (znd pc 223
 (znd pc 213
 (znd pc 207
 (znd pc 205
 (zlf pc 204 (s_irem 205))
 (zlf pc 205 (s_aload 6 207)))
 (znd pc 209
 (zlf pc 207 (s_iload 10 209))
 (znd pc 210
 (zlf pc 209 (s_iald 210))
 (zlf pc 210 (s_cmpne 223 213)))))
 (znd pc 217
 (znd pc 214
 (zlf pc 213 (s_aload 0 214))
 (znd pc 216
 (zlf pc 214 (s_iload 12 216))
 (zlf pc 216 (s_iald 217))))
 (znd pc 219
 (zlf pc 217 (s_ic 8 219))
 (znd pc 220
 (zlf pc 219 (s_irem 220))
 (zlf pc 220 (s_goto 224))))))
 (znd pc 234
 (znd pc 228
 (znd pc 224
 (zlf pc 223 (s_ic (-1) 224))
 (znd pc 226
 (zlf pc 224 (s_istore 13 226))
 (zlf pc 226 (s_iload 13 228))))
 (znd pc 231
 (zlf pc 228 (s_iflt 242 231))
 (znd pc 232
 (zlf pc 231 (s_aload 1 232))
 (zlf pc 232 (s_iload 12 234)))))
 (znd pc 239
 (znd pc 235
 (zlf pc 234 (s_iald 235))
 (znd pc 238
 (zlf pc 235 (s_ifle 242 238))
 (zlf pc 238 (s_ic 1 239))))
 (znd pc 242
 (zlf pc 239 (s_goto 243))
 (znd pc 243
 (zlf pc 242 (s_ic 0 243))
 (zlf pc 243 (s_istore 14 245))))))))
 (znd pc 293
 (znd pc 267
 (znd pc 255
 (znd pc 248
 (znd pc 246
 (zlf pc 245 (s_ic 0 246))
 (zlf pc 246 (s_istore 15 248)))
 (znd pc 250
 (zlf pc 248 (s_iload 15 250))
 (znd pc 252
 (zlf pc 250 (s_iload 10 252))
 (zlf pc 252 (s_cmpgt 283 255)))))
 (znd pc 262
 (znd pc 257
 (zlf pc 255 (s_iload 14 257))
 (znd pc 260
 (zlf pc 257 (s_ifeq 274 260))
 (zlf pc 260 (s_aload 6 262))))
 (znd pc 264
 (zlf pc 262 (s_iload 15 264))
 (znd pc 265
 (zlf pc 264 (s_iald 265))
 (zlf pc 265 (s_iload 13 267))))))
 (znd pc 280
 (znd pc 274
 (znd pc 270
 (zlf pc 267 (s_cmpeq 274 270))
 (znd pc 271
 (zlf pc 270 (s_ic 1 271))
 (zlf pc 271 (s_goto 275))))
 (znd pc 275
 (zlf pc 274 (s_ic 0 275))
 (znd pc 277
 (zlf pc 275 (s_istore 14 277))
 (zlf pc 277 (s_iinc 15 1 280)))))
 (znd pc 288
 (znd pc 283
 (zlf pc 280 (s_goto 248))
 (znd pc 285
 (zlf pc 283 (s_iload 14 285))
 (zlf pc 285 (s_ifeq 324 288))))
 (znd pc 290
 (zlf pc 288 (s_aload 8 290))
 (znd pc 292
 (zlf pc 290 (s_iload 10 292))
 (zlf pc 292 (s_ic 1 293)))))))
 (znd pc 308
 (znd pc 300
 (znd pc 296
 (znd pc 294
 (zlf pc 293 (s_iadd 294))
 (zlf pc 294 (s_aload 8 296)))
 (znd pc 298
 (zlf pc 296 (s_iload 10 298))
 (znd pc 299
 (zlf pc 298 (s_iald 299))
 (zlf pc 299 (s_aload 0 300)))))
 (znd pc 305
 (znd pc 302
 (zlf pc 300 (s_iload 12 302))
 (znd pc 303
 (zlf pc 302 (s_iald 303))
 (zlf pc 303 (s_ic 64 305))))
 (znd pc 306
 (zlf pc 305 (s_idiv 306))
 (znd pc 307
 (zlf pc 306 (s_iadd 307))
 (zlf pc 307 (s_iast 308))))))
 (znd pc 320
 (znd pc 315
 (znd pc 311
 (zlf pc 308 (s_iinc 10 1 311))
 (znd pc 313
 (zlf pc 311 (s_aload 6 313))
 (zlf pc 313 (s_iload 10 315))))
 (znd pc 317
 (zlf pc 315 (s_iload 13 317))
 (znd pc 318
 (zlf pc 317 (s_iast 318))
 (zlf pc 318 (s_aload 7 320)))))
 (znd pc 324
 (znd pc 322
 (zlf pc 320 (s_iload 10 322))
 (znd pc 323
 (zlf pc 322 (s_ic 0 323))
 (zlf pc 323 (s_iast 324))))
 (znd pc 327
 (zlf pc 324 (s_goto 29))
 (znd pc 329
 (zlf pc 327 (s_iload 9 329))
 (zlf pc 329 (s_rI)))))))))
theorem zm_L_way (G : Nat × Nat) (pc : Nat) : zMon (zc_L_way G pc) := (mo_d (mo_d (mo_d (mo_d (mo_d (mo_d (mo_d (mo_l (mo_ic _ _)) (mo_l (mo_nai _ _))) (mo_d (mo_l (mo_astore _ _)) (mo_d (mo_l (mo_ic _ _)) (mo_l (mo_nai _ _))))) (mo_d (mo_d (mo_l (mo_astore _ _)) (mo_d (mo_l (mo_ic _ _)) (mo_l (mo_nai _ _)))) (mo_d (mo_l (mo_astore _ _)) (mo_d (mo_l (mo_ic _ _)) (mo_l (mo_istore _ _)))))) (mo_d (mo_d (mo_d (mo_l (mo_ic _ _)) (mo_l (mo_istore _ _))) (mo_d (mo_l (mo_aload _ _)) (mo_d (mo_l (mo_ic _ _)) (mo_l (mo_iload _ _))))) (mo_d (mo_d (mo_l (mo_iast _)) (mo_d (mo_l (mo_iload _ _)) (mo_l (mo_iflt _ _)))) (mo_d (mo_l (mo_aload _ _)) (mo_d (mo_l (mo_iload _ _)) (mo_l (mo_iald _))))))) (mo_d (mo_d (mo_d (mo_d (mo_l (mo_ic _ _)) (mo_l (mo_imul _))) (mo_d (mo_l (mo_iload _ _)) (mo_d (mo_l (mo_iadd _)) (mo_l (mo_istore _ _))))) (mo_d (mo_d (mo_l (mo_aload _ _)) (mo_d (mo_l (mo_iload _ _)) (mo_l (mo_iald _)))) (mo_d (mo_l (mo_iload _ _)) (mo_d (mo_l (mo_cmpne _ _)) (mo_l (mo_iload _ _)))))) (mo_d (mo_d (mo_d (mo_l (mo_iflt _ _)) (mo_d (mo_l (mo_iload _ _)) (mo_l (mo_iload _ _)))) (mo_d (mo_l (mo_cmpge _ _)) (mo_d (mo_l (mo_iload _ _)) (mo_l (mo_istore _ _))))) (mo_d (mo_d (mo_l (mo_ic _ _)) (mo_d (mo_l (mo_istore _ _)) (mo_l (mo_iload _ _)))) (mo_d (mo_l (mo_ic _ _)) (mo_d (mo_l (mo_cmpge _ _)) (mo_l (mo_aload _ _)))))))) (mo_d (mo_d (mo_d (mo_d (mo_d (mo_l (mo_iload _ _)) (mo_l (mo_iload _ _))) (mo_d (mo_l (mo_iload _ _)) (mo_d (mo_l (mo_cmpge _ _)) (mo_l (mo_aload _ _))))) (mo_d (mo_d (mo_l (mo_iload _ _)) (mo_d (mo_l (mo_iald _)) (mo_l (mo_ic _ _)))) (mo_d (mo_l (mo_isub _)) (mo_d (mo_l (mo_goto _)) (mo_l (mo_ic _ _)))))) (mo_d (mo_d (mo_d (mo_l (mo_iast _)) (mo_l (mo_iinc _ _ _))) (mo_d (mo_l (mo_goto _)) (mo_d (mo_l (mo_aload _ _)) (mo_l (mo_iload _ _))))) (mo_d (mo_d (mo_l (mo_iald _)) (mo_d (mo_l (mo_iload _ _)) (mo_l (mo_cmpeq _ _)))) (mo_d (mo_l (mo_aload _ _)) (mo_d (mo_l (mo_iload _ _)) (mo_l (mo_iald _))))))) (mo_d (mo_d (mo_d (mo_d (mo_l (mo_aload _ _)) (mo_l (mo_ic _ _))) (mo_d (mo_l (mo_iald _)) (mo_d (mo_l (mo_cmpeq _ _)) (mo_l (mo_iload _ _))))) (mo_d (mo_d (mo_l (mo_iflt _ _)) (mo_d (mo_l (mo_iload _ _)) (mo_l (mo_iload _ _)))) (mo_d (mo_l (mo_cmplt _ _)) (mo_d (mo_l (mo_iinc _ _ _)) (mo_l (mo_goto _)))))) (mo_d (mo_d (mo_d (mo_l (mo_aload _ _)) (mo_d (mo_l (mo_iload _ _)) (mo_l (mo_iald _)))) (mo_d (mo_l (mo_istore _ _)) (mo_d (mo_l (mo_aload _ _)) (mo_l (mo_iload _ _))))) (mo_d (mo_d (mo_l (mo_dup2 _)) (mo_d (mo_l (mo_iald _)) (mo_l (mo_ic _ _)))) (mo_d (mo_l (mo_iadd _)) (mo_d (mo_l (mo_iast _)) (mo_l (mo_aload _ _))))))))) (mo_d (mo_d (mo_d (mo_d (mo_d (mo_d (mo_l (mo_iload _ _)) (mo_l (mo_iald _))) (mo_d (mo_l (mo_ic _ _)) (mo_d (mo_l (mo_irem _)) (mo_l (mo_aload _ _))))) (mo_d (mo_d (mo_l (mo_iload _ _)) (mo_d (mo_l (mo_iald _)) (mo_l (mo_cmpne _ _)))) (mo_d (mo_l (mo_aload _ _)) (mo_d (mo_l (mo_iload _ _)) (mo_l (mo_iald _)))))) (mo_d (mo_d (mo_d (mo_l (mo_ic _ _)) (mo_l (mo_idiv _))) (mo_d (mo_l (mo_ic _ _)) (mo_d (mo_l (mo_irem _)) (mo_l (mo_goto _))))) (mo_d (mo_d (mo_l (mo_aload _ _)) (mo_d (mo_l (mo_iload _ _)) (mo_l (mo_iald _)))) (mo_d (mo_l (mo_ic _ _)) (mo_d (mo_l (mo_idiv _)) (mo_l (mo_ic _ _))))))) (mo_d (mo_d (mo_d (mo_d (mo_l (mo_irem _)) (mo_l (mo_aload _ _))) (mo_d (mo_l (mo_iload _ _)) (mo_d (mo_l (mo_iald _)) (mo_l (mo_cmpne _ _))))) (mo_d (mo_d (mo_l (mo_aload _ _)) (mo_d (mo_l (mo_iload _ _)) (mo_l (mo_iald _)))) (mo_d (mo_l (mo_ic _ _)) (mo_d (mo_l (mo_irem _)) (mo_l (mo_goto _)))))) (mo_d (mo_d (mo_d (mo_l (mo_ic _ _)) (mo_d (mo_l (mo_istore _ _)) (mo_l (mo_iload _ _)))) (mo_d (mo_l (mo_iflt _ _)) (mo_d (mo_l (mo_aload _ _)) (mo_l (mo_iload _ _))))) (mo_d (mo_d (mo_l (mo_iald _)) (mo_d (mo_l (mo_ifle _ _)) (mo_l (mo_ic _ _)))) (mo_d (mo_l (mo_goto _)) (mo_d (mo_l (mo_ic _ _)) (mo_l (mo_istore _ _)))))))) (mo_d (mo_d (mo_d (mo_d (mo_d (mo_l (mo_ic _ _)) (mo_l (mo_istore _ _))) (mo_d (mo_l (mo_iload _ _)) (mo_d (mo_l (mo_iload _ _)) (mo_l (mo_cmpgt _ _))))) (mo_d (mo_d (mo_l (mo_iload _ _)) (mo_d (mo_l (mo_ifeq _ _)) (mo_l (mo_aload _ _)))) (mo_d (mo_l (mo_iload _ _)) (mo_d (mo_l (mo_iald _)) (mo_l (mo_iload _ _)))))) (mo_d (mo_d (mo_d (mo_l (mo_cmpeq _ _)) (mo_d (mo_l (mo_ic _ _)) (mo_l (mo_goto _)))) (mo_d (mo_l (mo_ic _ _)) (mo_d (mo_l (mo_istore _ _)) (mo_l (mo_iinc _ _ _))))) (mo_d (mo_d (mo_l (mo_goto _)) (mo_d (mo_l (mo_iload _ _)) (mo_l (mo_ifeq _ _)))) (mo_d (mo_l (mo_aload _ _)) (mo_d (mo_l (mo_iload _ _)) (mo_l (mo_ic _ _))))))) (mo_d (mo_d (mo_d (mo_d (mo_l (mo_iadd _)) (mo_l (mo_aload _ _))) (mo_d (mo_l (mo_iload _ _)) (mo_d (mo_l (mo_iald _)) (mo_l (mo_aload _ _))))) (mo_d (mo_d (mo_l (mo_iload _ _)) (mo_d (mo_l (mo_iald _)) (mo_l (mo_ic _ _)))) (mo_d (mo_l (mo_idiv _)) (mo_d (mo_l (mo_iadd _)) (mo_l (mo_iast _)))))) (mo_d (mo_d (mo_d (mo_l (mo_iinc _ _ _)) (mo_d (mo_l (mo_aload _ _)) (mo_l (mo_iload _ _)))) (mo_d (mo_l (mo_iload _ _)) (mo_d (mo_l (mo_iast _)) (mo_l (mo_aload _ _))))) (mo_d (mo_d (mo_l (mo_iload _ _)) (mo_d (mo_l (mo_ic _ _)) (mo_l (mo_iast _)))) (mo_d (mo_l (mo_goto _)) (mo_d (mo_l (mo_iload _ _)) (mo_l (mo_rI))))))))))
def zc_L_isHarness (G : Nat × Nat) : Nat → zSem := fun pc =>
 znd pc 663
 (znd pc 333
 (znd pc 178
 (znd pc 82
 (znd pc 43
 (znd pc 21
 (znd pc 9
 (znd pc 5
 (znd pc 2
 (zlf pc 0 (s_iload 7 2))
 (zlf pc 2 (s_ifne 263 5)))
 (znd pc 7
 (zlf pc 5 (s_aload 6 7))
 (znd pc 8
 (zlf pc 7 (s_ic 0 8))
 (zlf pc 8 (s_iald 9)))))
 (znd pc 16
 (znd pc 11
 (zlf pc 9 (s_ic 16 11))
 (znd pc 14
 (zlf pc 11 (s_cmpge 263 14))
 (zlf pc 14 (s_iload 8 16))))
 (znd pc 18
 (zlf pc 16 (s_ic 9 18))
 (znd pc 19
 (zlf pc 18 (s_irem 19))
 (zlf pc 19 (s_istore 10 21))))))
 (znd pc 32
 (znd pc 26
 (znd pc 23
 (zlf pc 21 (s_iload 9 23))
 (znd pc 25
 (zlf pc 23 (s_ic 9 25))
 (zlf pc 25 (s_irem 26))))
 (znd pc 28
 (zlf pc 26 (s_istore 11 28))
 (znd pc 30
 (zlf pc 28 (s_iload 8 30))
 (zlf pc 30 (s_ic 9 32)))))
 (znd pc 36
 (znd pc 33
 (zlf pc 32 (s_idiv 33))
 (znd pc 35
 (zlf pc 33 (s_ic 9 35))
 (zlf pc 35 (s_irem 36))))
 (znd pc 39
 (zlf pc 36 (s_ifne 51 39))
 (znd pc 41
 (zlf pc 39 (s_iload 8 41))
 (zlf pc 41 (s_ic 81 43)))))))
 (znd pc 61
 (znd pc 52
 (znd pc 47
 (znd pc 44
 (zlf pc 43 (s_idiv 44))
 (zlf pc 44 (s_ic 1001 47)))
 (znd pc 48
 (zlf pc 47 (s_irem 48))
 (znd pc 51
 (zlf pc 48 (s_goto 61))
 (zlf pc 51 (s_ic 1 52)))))
 (znd pc 57
 (znd pc 54
 (zlf pc 52 (s_iload 8 54))
 (znd pc 56
 (zlf pc 54 (s_ic 81 56))
 (zlf pc 56 (s_idiv 57))))
 (znd pc 59
 (zlf pc 57 (s_ic 12 59))
 (znd pc 60
 (zlf pc 59 (s_irem 60))
 (zlf pc 60 (s_iadd 61))))))
 (znd pc 71
 (znd pc 67
 (znd pc 63
 (zlf pc 61 (s_istore 12 63))
 (znd pc 65
 (zlf pc 63 (s_iload 9 65))
 (zlf pc 65 (s_ic 9 67))))
 (znd pc 68
 (zlf pc 67 (s_idiv 68))
 (znd pc 70
 (zlf pc 68 (s_ic 9 70))
 (zlf pc 70 (s_irem 71)))))
 (znd pc 78
 (znd pc 74
 (zlf pc 71 (s_ifne 85 74))
 (znd pc 76
 (zlf pc 74 (s_iload 9 76))
 (zlf pc 76 (s_ic 81 78))))
 (znd pc 79
 (zlf pc 78 (s_idiv 79))
 (znd pc 81
 (zlf pc 79 (s_ic 26 81))
 (zlf pc 81 (s_irem 82))))))))
 (znd pc 126
 (znd pc 100
 (znd pc 91
 (znd pc 86
 (znd pc 85
 (zlf pc 82 (s_goto 94))
 (zlf pc 85 (s_ic 1 86)))
 (znd pc 88
 (zlf pc 86 (s_iload 9 88))
 (znd pc 90
 (zlf pc 88 (s_ic 81 90))
 (zlf pc 90 (s_idiv 91)))))
 (znd pc 94
 (znd pc 92
 (zlf pc 91 (s_ic 3 92))
 (znd pc 93
 (zlf pc 92 (s_irem 93))
 (zlf pc 93 (s_iadd 94))))
 (znd pc 96
 (zlf pc 94 (s_istore 13 96))
 (znd pc 98
 (zlf pc 96 (s_iload 10 98))
 (zlf pc 98 (s_ic 8 100))))))
 (znd pc 114
 (znd pc 107
 (znd pc 103
 (zlf pc 100 (s_cmpge 114 103))
 (znd pc 105
 (zlf pc 103 (s_iload 11 105))
 (zlf pc 105 (s_ic 8 107))))
 (znd pc 110
 (zlf pc 107 (s_cmpge 114 110))
 (znd pc 111
 (zlf pc 110 (s_ic 1 111))
 (zlf pc 111 (s_goto 115)))))
 (znd pc 119
 (znd pc 115
 (zlf pc 114 (s_ic 0 115))
 (znd pc 117
 (zlf pc 115 (s_istore 14 117))
 (zlf pc 117 (s_iload 10 119))))
 (znd pc 121
 (zlf pc 119 (s_iload 11 121))
 (znd pc 124
 (zlf pc 121 (s_cmpeq 153 124))
 (zlf pc 124 (s_iload 12 126)))))))
 (znd pc 153
 (znd pc 139
 (znd pc 131
 (znd pc 129
 (zlf pc 126 (s_ifle 153 129))
 (zlf pc 129 (s_iload 12 131)))
 (znd pc 134
 (zlf pc 131 (s_ic 1000 134))
 (znd pc 137
 (zlf pc 134 (s_cmpge 153 137))
 (zlf pc 137 (s_iload 13 139)))))
 (znd pc 146
 (znd pc 142
 (zlf pc 139 (s_ifle 153 142))
 (znd pc 144
 (zlf pc 142 (s_iload 13 144))
 (zlf pc 144 (s_ic 25 146))))
 (znd pc 149
 (zlf pc 146 (s_cmpge 153 149))
 (znd pc 150
 (zlf pc 149 (s_ic 1 150))
 (zlf pc 150 (s_goto 154))))))
 (znd pc 166
 (znd pc 158
 (znd pc 154
 (zlf pc 153 (s_ic 0 154))
 (znd pc 156
 (zlf pc 154 (s_istore 15 156))
 (zlf pc 156 (s_iload 14 158))))
 (znd pc 161
 (zlf pc 158 (s_ifeq 170 161))
 (znd pc 163
 (zlf pc 161 (s_iload 15 163))
 (zlf pc 163 (s_ifeq 170 166)))))
 (znd pc 171
 (znd pc 167
 (zlf pc 166 (s_ic 1 167))
 (znd pc 170
 (zlf pc 167 (s_goto 171))
 (zlf pc 170 (s_ic 0 171))))
 (znd pc 173
 (zlf pc 171 (s_istore 16 173))
 (znd pc 175
 (zlf pc 173 (s_iload 16 175))
 (zlf pc 175 (s_ifeq 214 178)))))))))
 (znd pc 249
 (znd pc 210
 (znd pc 195
 (znd pc 185
 (znd pc 181
 (znd pc 179
 (zlf pc 178 (s_aload 1 179))
 (zlf pc 179 (s_aload 6 181)))
 (znd pc 182
 (zlf pc 181 (s_ic 0 182))
 (znd pc 183
 (zlf pc 182 (s_iald 183))
 (zlf pc 183 (s_iload 10 185)))))
 (znd pc 190
 (znd pc 187
 (zlf pc 185 (s_ic 8 187))
 (znd pc 189
 (zlf pc 187 (s_iload 11 189))
 (zlf pc 189 (s_imul 190))))
 (znd pc 191
 (zlf pc 190 (s_iadd 191))
 (znd pc 193
 (zlf pc 191 (s_ic 64 193))
 (zlf pc 193 (s_iload 12 195))))))
 (znd pc 202
 (znd pc 198
 (znd pc 196
 (zlf pc 195 (s_imul 196))
 (znd pc 197
 (zlf pc 196 (s_iadd 197))
 (zlf pc 197 (s_iast 198))))
 (znd pc 199
 (zlf pc 198 (s_aload 2 199))
 (znd pc 201
 (zlf pc 199 (s_aload 6 201))
 (zlf pc 201 (s_ic 0 202)))))
 (znd pc 206
 (znd pc 203
 (zlf pc 202 (s_iald 203))
 (znd pc 205
 (zlf pc 203 (s_iload 13 205))
 (zlf pc 205 (s_iast 206))))
 (znd pc 208
 (zlf pc 206 (s_aload 6 208))
 (znd pc 209
 (zlf pc 208 (s_ic 0 209))
 (zlf pc 209 (s_dup2 210)))))))
 (znd pc 225
 (znd pc 215
 (znd pc 212
 (znd pc 211
 (zlf pc 210 (s_iald 211))
 (zlf pc 211 (s_ic 1 212)))
 (znd pc 213
 (zlf pc 212 (s_iadd 213))
 (znd pc 214
 (zlf pc 213 (s_iast 214))
 (zlf pc 214 (s_aload 0 215)))))
 (znd pc 220
 (znd pc 216
 (zlf pc 215 (s_ic 0 216))
 (znd pc 218
 (zlf pc 216 (s_iload 10 218))
 (zlf pc 218 (s_iload 11 220))))
 (znd pc 222
 (zlf pc 220 (s_iload 12 222))
 (znd pc 224
 (zlf pc 222 (s_iload 13 224))
 (zlf pc 224 (s_ic 0 225))))))
 (znd pc 240
 (znd pc 233
 (znd pc 228
 (zlf pc 225 (s_cI zpS 207 7 [zU] zx0 228))
 (znd pc 230
 (zlf pc 228 (s_iload 14 230))
 (zlf pc 230 (s_ifne 238 233))))
 (znd pc 235
 (zlf pc 233 (s_ic (-3000000) 235))
 (znd pc 238
 (zlf pc 235 (s_goto 254))
 (zlf pc 238 (s_iload 16 240)))))
 (znd pc 246
 (znd pc 243
 (zlf pc 240 (s_ifeq 252 243))
 (znd pc 245
 (zlf pc 243 (s_aload 6 245))
 (zlf pc 245 (s_ic 0 246))))
 (znd pc 247
 (zlf pc 246 (s_iald 247))
 (znd pc 248
 (zlf pc 247 (s_ic 1 248))
 (zlf pc 248 (s_isub 249))))))))
 (znd pc 292
 (znd pc 271
 (znd pc 261
 (znd pc 254
 (znd pc 252
 (zlf pc 249 (s_goto 254))
 (zlf pc 252 (s_ic (-2000000) 254)))
 (znd pc 257
 (zlf pc 254 (s_cmpne 261 257))
 (znd pc 258
 (zlf pc 257 (s_ic 1 258))
 (zlf pc 258 (s_goto 262)))))
 (znd pc 265
 (znd pc 262
 (zlf pc 261 (s_ic 0 262))
 (znd pc 263
 (zlf pc 262 (s_rZ))
 (zlf pc 263 (s_iload 7 265))))
 (znd pc 266
 (zlf pc 265 (s_ic 2 266))
 (znd pc 269
 (zlf pc 266 (s_cmpge 472 269))
 (zlf pc 269 (s_aload 6 271))))))
 (znd pc 282
 (znd pc 275
 (znd pc 272
 (zlf pc 271 (s_ic 1 272))
 (znd pc 273
 (zlf pc 272 (s_iald 273))
 (zlf pc 273 (s_ic 8 275))))
 (znd pc 278
 (zlf pc 275 (s_cmpge 472 278))
 (znd pc 280
 (zlf pc 278 (s_iload 8 280))
 (zlf pc 280 (s_ic 9 282)))))
 (znd pc 287
 (znd pc 283
 (zlf pc 282 (s_irem 283))
 (znd pc 285
 (zlf pc 283 (s_istore 10 285))
 (zlf pc 285 (s_iload 8 287))))
 (znd pc 289
 (zlf pc 287 (s_ic 9 289))
 (znd pc 290
 (zlf pc 289 (s_idiv 290))
 (zlf pc 290 (s_ic 9 292)))))))
 (znd pc 313
 (znd pc 303
 (znd pc 298
 (znd pc 293
 (zlf pc 292 (s_irem 293))
 (znd pc 296
 (zlf pc 293 (s_ifne 307 296))
 (zlf pc 296 (s_iload 8 298))))
 (znd pc 300
 (zlf pc 298 (s_ic 81 300))
 (znd pc 301
 (zlf pc 300 (s_idiv 301))
 (zlf pc 301 (s_ic 10 303)))))
 (znd pc 308
 (znd pc 304
 (zlf pc 303 (s_irem 304))
 (znd pc 307
 (zlf pc 304 (s_goto 316))
 (zlf pc 307 (s_ic 4 308))))
 (znd pc 310
 (zlf pc 308 (s_iload 8 310))
 (znd pc 312
 (zlf pc 310 (s_ic 9 312))
 (zlf pc 312 (s_idiv 313))))))
 (znd pc 322
 (znd pc 316
 (znd pc 314
 (zlf pc 313 (s_ic 2 314))
 (znd pc 315
 (zlf pc 314 (s_irem 315))
 (zlf pc 315 (s_iadd 316))))
 (znd pc 318
 (zlf pc 316 (s_istore 11 318))
 (znd pc 320
 (zlf pc 318 (s_iload 9 320))
 (zlf pc 320 (s_ic 9 322)))))
 (znd pc 328
 (znd pc 323
 (zlf pc 322 (s_irem 323))
 (znd pc 326
 (zlf pc 323 (s_ifne 337 326))
 (zlf pc 326 (s_iload 9 328))))
 (znd pc 330
 (zlf pc 328 (s_ic 9 330))
 (znd pc 331
 (zlf pc 330 (s_idiv 331))
 (zlf pc 331 (s_ic 11 333))))))))))
 (znd pc 494
 (znd pc 418
 (znd pc 381
 (znd pc 355
 (znd pc 341
 (znd pc 337
 (znd pc 334
 (zlf pc 333 (s_irem 334))
 (zlf pc 334 (s_goto 341)))
 (znd pc 339
 (zlf pc 337 (s_iload 9 339))
 (znd pc 340
 (zlf pc 339 (s_ic 2 340))
 (zlf pc 340 (s_irem 341)))))
 (znd pc 348
 (znd pc 343
 (zlf pc 341 (s_istore 12 343))
 (znd pc 345
 (zlf pc 343 (s_iload 11 345))
 (zlf pc 345 (s_ifle 366 348))))
 (znd pc 350
 (zlf pc 348 (s_iload 11 350))
 (znd pc 352
 (zlf pc 350 (s_ic 9 352))
 (zlf pc 352 (s_cmpge 366 355))))))
 (znd pc 367
 (znd pc 362
 (znd pc 357
 (zlf pc 355 (s_iload 12 357))
 (znd pc 359
 (zlf pc 357 (s_ic 10 359))
 (zlf pc 359 (s_cmpge 366 362))))
 (znd pc 363
 (zlf pc 362 (s_ic 1 363))
 (znd pc 366
 (zlf pc 363 (s_goto 367))
 (zlf pc 366 (s_ic 0 367)))))
 (znd pc 373
 (znd pc 369
 (zlf pc 367 (s_istore 13 369))
 (znd pc 371
 (zlf pc 369 (s_iload 10 371))
 (zlf pc 371 (s_ic 8 373))))
 (znd pc 376
 (zlf pc 373 (s_cmpge 385 376))
 (znd pc 378
 (zlf pc 376 (s_iload 13 378))
 (zlf pc 378 (s_ifeq 385 381)))))))
 (znd pc 400
 (znd pc 390
 (znd pc 385
 (znd pc 382
 (zlf pc 381 (s_ic 1 382))
 (zlf pc 382 (s_goto 386)))
 (znd pc 386
 (zlf pc 385 (s_ic 0 386))
 (znd pc 388
 (zlf pc 386 (s_istore 14 388))
 (zlf pc 388 (s_iload 14 390)))))
 (znd pc 396
 (znd pc 393
 (zlf pc 390 (s_ifeq 422 393))
 (znd pc 394
 (zlf pc 393 (s_aload 3 394))
 (zlf pc 394 (s_aload 6 396))))
 (znd pc 397
 (zlf pc 396 (s_ic 1 397))
 (znd pc 398
 (zlf pc 397 (s_iald 398))
 (zlf pc 398 (s_iload 10 400))))))
 (znd pc 411
 (znd pc 405
 (znd pc 402
 (zlf pc 400 (s_ic 8 402))
 (znd pc 404
 (zlf pc 402 (s_iload 11 404))
 (zlf pc 404 (s_imul 405))))
 (znd pc 406
 (zlf pc 405 (s_iadd 406))
 (znd pc 409
 (zlf pc 406 (s_ic 128 409))
 (zlf pc 409 (s_iload 12 411)))))
 (znd pc 414
 (znd pc 412
 (zlf pc 411 (s_imul 412))
 (znd pc 413
 (zlf pc 412 (s_iadd 413))
 (zlf pc 413 (s_iast 414))))
 (znd pc 416
 (zlf pc 414 (s_aload 6 416))
 (znd pc 417
 (zlf pc 416 (s_ic 1 417))
 (zlf pc 417 (s_dup2 418))))))))
 (znd pc 457
 (znd pc 432
 (znd pc 423
 (znd pc 420
 (znd pc 419
 (zlf pc 418 (s_iald 419))
 (zlf pc 419 (s_ic 1 420)))
 (znd pc 421
 (zlf pc 420 (s_iadd 421))
 (znd pc 422
 (zlf pc 421 (s_iast 422))
 (zlf pc 422 (s_aload 0 423)))))
 (znd pc 428
 (znd pc 424
 (zlf pc 423 (s_ic 1 424))
 (znd pc 426
 (zlf pc 424 (s_iload 10 426))
 (zlf pc 426 (s_iload 11 428))))
 (znd pc 430
 (zlf pc 428 (s_iload 12 430))
 (znd pc 431
 (zlf pc 430 (s_ic 0 431))
 (zlf pc 431 (s_ic 0 432))))))
 (znd pc 447
 (znd pc 439
 (znd pc 435
 (zlf pc 432 (s_cI zpS 207 7 [zU] zx0 435))
 (znd pc 437
 (zlf pc 435 (s_iload 10 437))
 (zlf pc 437 (s_ic 8 439))))
 (znd pc 442
 (zlf pc 439 (s_cmpne 447 442))
 (znd pc 444
 (zlf pc 442 (s_ic (-3000000) 444))
 (zlf pc 444 (s_goto 463)))))
 (znd pc 454
 (znd pc 449
 (zlf pc 447 (s_iload 14 449))
 (znd pc 452
 (zlf pc 449 (s_ifeq 461 452))
 (zlf pc 452 (s_aload 6 454))))
 (znd pc 455
 (zlf pc 454 (s_ic 1 455))
 (znd pc 456
 (zlf pc 455 (s_iald 456))
 (zlf pc 456 (s_ic 1 457)))))))
 (znd pc 478
 (znd pc 470
 (znd pc 463
 (znd pc 458
 (zlf pc 457 (s_isub 458))
 (znd pc 461
 (zlf pc 458 (s_goto 463))
 (zlf pc 461 (s_ic (-2000000) 463))))
 (znd pc 466
 (zlf pc 463 (s_cmpne 470 466))
 (znd pc 467
 (zlf pc 466 (s_ic 1 467))
 (zlf pc 467 (s_goto 471)))))
 (znd pc 474
 (znd pc 471
 (zlf pc 470 (s_ic 0 471))
 (znd pc 472
 (zlf pc 471 (s_rZ))
 (zlf pc 472 (s_iload 8 474))))
 (znd pc 476
 (zlf pc 474 (s_aload 6 476))
 (znd pc 477
 (zlf pc 476 (s_ic 1 477))
 (zlf pc 477 (s_iald 478))))))
 (znd pc 487
 (znd pc 481
 (znd pc 479
 (zlf pc 478 (s_ic 1 479))
 (znd pc 480
 (zlf pc 479 (s_iadd 480))
 (zlf pc 480 (s_irem 481))))
 (znd pc 483
 (zlf pc 481 (s_istore 10 483))
 (znd pc 485
 (zlf pc 483 (s_iload 9 485))
 (zlf pc 485 (s_aload 6 487)))))
 (znd pc 490
 (znd pc 488
 (zlf pc 487 (s_ic 1 488))
 (znd pc 489
 (zlf pc 488 (s_iald 489))
 (zlf pc 489 (s_ic 1 490))))
 (znd pc 491
 (zlf pc 490 (s_iadd 491))
 (znd pc 492
 (zlf pc 491 (s_irem 492))
 (zlf pc 492 (s_istore 11 494)))))))))
 (znd pc 579
 (znd pc 538
 (znd pc 513
 (znd pc 503
 (znd pc 498
 (znd pc 496
 (zlf pc 494 (s_iload 10 496))
 (zlf pc 496 (s_aload 6 498)))
 (znd pc 499
 (zlf pc 498 (s_ic 1 499))
 (znd pc 500
 (zlf pc 499 (s_iald 500))
 (zlf pc 500 (s_cmpge 516 503)))))
 (znd pc 508
 (znd pc 505
 (zlf pc 503 (s_iload 11 505))
 (znd pc 507
 (zlf pc 505 (s_aload 6 507))
 (zlf pc 507 (s_ic 1 508))))
 (znd pc 509
 (zlf pc 508 (s_iald 509))
 (znd pc 512
 (zlf pc 509 (s_cmpge 516 512))
 (zlf pc 512 (s_ic 1 513))))))
 (znd pc 525
 (znd pc 519
 (znd pc 516
 (zlf pc 513 (s_goto 517))
 (znd pc 517
 (zlf pc 516 (s_ic 0 517))
 (zlf pc 517 (s_istore 12 519))))
 (znd pc 521
 (zlf pc 519 (s_iload 7 521))
 (znd pc 522
 (zlf pc 521 (s_ic 3 522))
 (zlf pc 522 (s_cmpge 665 525)))))
 (znd pc 532
 (znd pc 527
 (zlf pc 525 (s_iload 12 527))
 (znd pc 530
 (zlf pc 527 (s_ifeq 568 530))
 (zlf pc 530 (s_iload 10 532))))
 (znd pc 534
 (zlf pc 532 (s_iload 11 534))
 (znd pc 537
 (zlf pc 534 (s_cmpeq 568 537))
 (zlf pc 537 (s_aload 3 538)))))))
 (znd pc 555
 (znd pc 545
 (znd pc 541
 (znd pc 540
 (zlf pc 538 (s_iload 10 540))
 (zlf pc 540 (s_iald 541)))
 (znd pc 543
 (zlf pc 541 (s_ic 8 543))
 (znd pc 544
 (zlf pc 543 (s_idiv 544))
 (zlf pc 544 (s_aload 3 545)))))
 (znd pc 550
 (znd pc 547
 (zlf pc 545 (s_iload 11 547))
 (znd pc 548
 (zlf pc 547 (s_iald 548))
 (zlf pc 548 (s_ic 8 550))))
 (znd pc 551
 (zlf pc 550 (s_idiv 551))
 (znd pc 554
 (zlf pc 551 (s_cmpne 568 554))
 (zlf pc 554 (s_aload 3 555))))))
 (znd pc 568
 (znd pc 561
 (znd pc 557
 (zlf pc 555 (s_iload 10 557))
 (znd pc 558
 (zlf pc 557 (s_iald 558))
 (zlf pc 558 (s_ic 2048 561))))
 (znd pc 564
 (zlf pc 561 (s_cmpge 568 564))
 (znd pc 565
 (zlf pc 564 (s_ic 1 565))
 (zlf pc 565 (s_goto 569)))))
 (znd pc 573
 (znd pc 569
 (zlf pc 568 (s_ic 0 569))
 (znd pc 571
 (zlf pc 569 (s_istore 13 571))
 (zlf pc 571 (s_iload 13 573))))
 (znd pc 576
 (zlf pc 573 (s_ifeq 606 576))
 (znd pc 577
 (zlf pc 576 (s_aload 3 577))
 (zlf pc 577 (s_iload 10 579))))))))
 (znd pc 610
 (znd pc 594
 (znd pc 587
 (znd pc 581
 (znd pc 580
 (zlf pc 579 (s_dup2 580))
 (zlf pc 580 (s_iald 581)))
 (znd pc 584
 (zlf pc 581 (s_ic 2048 584))
 (znd pc 586
 (zlf pc 584 (s_iload 11 586))
 (zlf pc 586 (s_ic 1 587)))))
 (znd pc 590
 (znd pc 588
 (zlf pc 587 (s_iadd 588))
 (znd pc 589
 (zlf pc 588 (s_imul 589))
 (zlf pc 589 (s_iadd 590))))
 (znd pc 591
 (zlf pc 590 (s_iast 591))
 (znd pc 592
 (zlf pc 591 (s_aload 3 592))
 (zlf pc 592 (s_iload 11 594))))))
 (znd pc 603
 (znd pc 599
 (znd pc 595
 (zlf pc 594 (s_dup2 595))
 (znd pc 596
 (zlf pc 595 (s_iald 596))
 (zlf pc 596 (s_ic 2048 599))))
 (znd pc 601
 (zlf pc 599 (s_iload 10 601))
 (znd pc 602
 (zlf pc 601 (s_ic 1 602))
 (zlf pc 602 (s_iadd 603)))))
 (znd pc 606
 (znd pc 604
 (zlf pc 603 (s_imul 604))
 (znd pc 605
 (zlf pc 604 (s_iadd 605))
 (zlf pc 605 (s_iast 606))))
 (znd pc 607
 (zlf pc 606 (s_aload 0 607))
 (znd pc 608
 (zlf pc 607 (s_ic 2 608))
 (zlf pc 608 (s_iload 10 610)))))))
 (znd pc 635
 (znd pc 620
 (znd pc 614
 (znd pc 612
 (zlf pc 610 (s_iload 11 612))
 (znd pc 613
 (zlf pc 612 (s_ic 0 613))
 (zlf pc 613 (s_ic 0 614))))
 (znd pc 615
 (zlf pc 614 (s_ic 0 615))
 (znd pc 618
 (zlf pc 615 (s_cI zpS 207 7 [zU] zx0 618))
 (zlf pc 618 (s_iload 12 620)))))
 (znd pc 628
 (znd pc 623
 (zlf pc 620 (s_ifne 628 623))
 (znd pc 625
 (zlf pc 623 (s_ic (-3000000) 625))
 (zlf pc 625 (s_goto 656))))
 (znd pc 630
 (zlf pc 628 (s_iload 10 630))
 (znd pc 632
 (zlf pc 630 (s_iload 11 632))
 (zlf pc 632 (s_cmpne 640 635))))))
 (znd pc 648
 (znd pc 642
 (znd pc 637
 (zlf pc 635 (s_ic (-2000000) 637))
 (znd pc 640
 (zlf pc 637 (s_goto 656))
 (zlf pc 640 (s_iload 13 642))))
 (znd pc 645
 (zlf pc 642 (s_ifeq 654 645))
 (znd pc 646
 (zlf pc 645 (s_aload 3 646))
 (zlf pc 646 (s_aload 6 648)))))
 (znd pc 656
 (znd pc 651
 (zlf pc 648 (s_cI zpS 212 2 [zU, zU, zU] zx0 651))
 (znd pc 654
 (zlf pc 651 (s_goto 656))
 (zlf pc 654 (s_ic (-1000000) 656))))
 (znd pc 659
 (zlf pc 656 (s_cmpne 663 659))
 (znd pc 660
 (zlf pc 659 (s_ic 1 660))
 (zlf pc 660 (s_goto 664)))))))))))
 (znd pc 1007
 (znd pc 829
 (znd pc 741
 (znd pc 702
 (znd pc 682
 (znd pc 671
 (znd pc 665
 (znd pc 664
 (zlf pc 663 (s_ic 0 664))
 (zlf pc 664 (s_rZ)))
 (znd pc 667
 (zlf pc 665 (s_iload 7 667))
 (znd pc 668
 (zlf pc 667 (s_ic 3 668))
 (zlf pc 668 (s_cmpne 1163 671)))))
 (znd pc 675
 (znd pc 673
 (zlf pc 671 (s_aload 6 673))
 (znd pc 674
 (zlf pc 673 (s_ic 2 674))
 (zlf pc 674 (s_iald 675))))
 (znd pc 677
 (zlf pc 675 (s_ic 24 677))
 (znd pc 680
 (zlf pc 677 (s_cmpge 1163 680))
 (zlf pc 680 (s_iload 8 682))))))
 (znd pc 692
 (znd pc 687
 (znd pc 684
 (zlf pc 682 (s_ic 9 684))
 (znd pc 685
 (zlf pc 684 (s_idiv 685))
 (zlf pc 685 (s_ic 6 687))))
 (znd pc 688
 (zlf pc 687 (s_irem 688))
 (znd pc 690
 (zlf pc 688 (s_istore 13 690))
 (zlf pc 690 (s_iload 9 692)))))
 (znd pc 697
 (znd pc 694
 (zlf pc 692 (s_ic 9 694))
 (znd pc 695
 (zlf pc 694 (s_idiv 695))
 (zlf pc 695 (s_ic 6 697))))
 (znd pc 698
 (zlf pc 697 (s_irem 698))
 (znd pc 700
 (zlf pc 698 (s_istore 14 700))
 (zlf pc 700 (s_iload 9 702)))))))
 (znd pc 721
 (znd pc 710
 (znd pc 705
 (znd pc 704
 (zlf pc 702 (s_ic 54 704))
 (zlf pc 704 (s_idiv 705)))
 (znd pc 707
 (zlf pc 705 (s_ic 9 707))
 (znd pc 708
 (zlf pc 707 (s_irem 708))
 (zlf pc 708 (s_istore 15 710)))))
 (znd pc 717
 (znd pc 712
 (zlf pc 710 (s_iload 12 712))
 (znd pc 715
 (zlf pc 712 (s_ifeq 749 715))
 (zlf pc 715 (s_iload 13 717))))
 (znd pc 718
 (zlf pc 717 (s_aload 3 718))
 (znd pc 720
 (zlf pc 718 (s_iload 10 720))
 (zlf pc 720 (s_iald 721))))))
 (znd pc 732
 (znd pc 726
 (znd pc 723
 (zlf pc 721 (s_ic 8 723))
 (znd pc 724
 (zlf pc 723 (s_idiv 724))
 (zlf pc 724 (s_ic 16 726))))
 (znd pc 727
 (zlf pc 726 (s_irem 727))
 (znd pc 730
 (zlf pc 727 (s_cmpge 749 730))
 (zlf pc 730 (s_iload 14 732)))))
 (znd pc 736
 (znd pc 733
 (zlf pc 732 (s_aload 3 733))
 (znd pc 735
 (zlf pc 733 (s_iload 11 735))
 (zlf pc 735 (s_iald 736))))
 (znd pc 738
 (zlf pc 736 (s_ic 8 738))
 (znd pc 739
 (zlf pc 738 (s_idiv 739))
 (zlf pc 739 (s_ic 16 741))))))))
 (znd pc 785
 (znd pc 763
 (znd pc 750
 (znd pc 745
 (znd pc 742
 (zlf pc 741 (s_irem 742))
 (zlf pc 742 (s_cmpge 749 745)))
 (znd pc 746
 (zlf pc 745 (s_ic 1 746))
 (znd pc 749
 (zlf pc 746 (s_goto 750))
 (zlf pc 749 (s_ic 0 750)))))
 (znd pc 756
 (znd pc 752
 (zlf pc 750 (s_istore 12 752))
 (znd pc 754
 (zlf pc 752 (s_iload 10 754))
 (zlf pc 754 (s_iload 11 756))))
 (znd pc 759
 (zlf pc 756 (s_cmpeq 770 759))
 (znd pc 761
 (zlf pc 759 (s_iload 15 761))
 (zlf pc 761 (s_ic 8 763))))))
 (znd pc 775
 (znd pc 770
 (znd pc 766
 (zlf pc 763 (s_cmpge 770 766))
 (znd pc 767
 (zlf pc 766 (s_ic 1 767))
 (zlf pc 767 (s_goto 771))))
 (znd pc 771
 (zlf pc 770 (s_ic 0 771))
 (znd pc 773
 (zlf pc 771 (s_istore 16 773))
 (zlf pc 773 (s_ic 8 775)))))
 (znd pc 780
 (znd pc 777
 (zlf pc 775 (s_iload 10 777))
 (znd pc 778
 (zlf pc 777 (s_imul 778))
 (zlf pc 778 (s_iload 13 780))))
 (znd pc 781
 (zlf pc 780 (s_iadd 781))
 (znd pc 783
 (zlf pc 781 (s_istore 17 783))
 (zlf pc 783 (s_ic 8 785)))))))
 (znd pc 804
 (znd pc 794
 (znd pc 790
 (znd pc 787
 (zlf pc 785 (s_iload 11 787))
 (znd pc 788
 (zlf pc 787 (s_imul 788))
 (zlf pc 788 (s_iload 14 790))))
 (znd pc 791
 (zlf pc 790 (s_iadd 791))
 (znd pc 793
 (zlf pc 791 (s_istore 18 793))
 (zlf pc 793 (s_ic 1 794)))))
 (znd pc 799
 (znd pc 796
 (zlf pc 794 (s_istore 19 796))
 (znd pc 797
 (zlf pc 796 (s_ic 0 797))
 (zlf pc 797 (s_istore 20 799))))
 (znd pc 801
 (zlf pc 799 (s_iload 20 801))
 (znd pc 803
 (zlf pc 801 (s_aload 6 803))
 (zlf pc 803 (s_ic 2 804))))))
 (znd pc 817
 (znd pc 810
 (znd pc 805
 (zlf pc 804 (s_iald 805))
 (znd pc 808
 (zlf pc 805 (s_cmpge 895 808))
 (zlf pc 808 (s_iload 19 810))))
 (znd pc 813
 (zlf pc 810 (s_ifeq 886 813))
 (znd pc 815
 (zlf pc 813 (s_aload 4 815))
 (zlf pc 815 (s_iload 20 817)))))
 (znd pc 824
 (znd pc 818
 (zlf pc 817 (s_iald 818))
 (znd pc 821
 (zlf pc 818 (s_ic 32767 821))
 (zlf pc 821 (s_cmpgt 882 824))))
 (znd pc 826
 (zlf pc 824 (s_aload 4 826))
 (znd pc 828
 (zlf pc 826 (s_iload 20 828))
 (zlf pc 828 (s_iald 829)))))))))
 (znd pc 918
 (znd pc 871
 (znd pc 850
 (znd pc 839
 (znd pc 832
 (znd pc 831
 (zlf pc 829 (s_ic 64 831))
 (zlf pc 831 (s_irem 832)))
 (znd pc 834
 (zlf pc 832 (s_iload 17 834))
 (znd pc 837
 (zlf pc 834 (s_cmpeq 886 837))
 (zlf pc 837 (s_aload 4 839)))))
 (znd pc 844
 (znd pc 841
 (zlf pc 839 (s_iload 20 841))
 (znd pc 842
 (zlf pc 841 (s_iald 842))
 (zlf pc 842 (s_ic 64 844))))
 (znd pc 845
 (zlf pc 844 (s_irem 845))
 (znd pc 847
 (zlf pc 845 (s_iload 18 847))
 (zlf pc 847 (s_cmpeq 886 850))))))
 (znd pc 860
 (znd pc 855
 (znd pc 852
 (zlf pc 850 (s_aload 4 852))
 (znd pc 854
 (zlf pc 852 (s_iload 20 854))
 (zlf pc 854 (s_iald 855))))
 (znd pc 857
 (zlf pc 855 (s_ic 64 857))
 (znd pc 858
 (zlf pc 857 (s_idiv 858))
 (zlf pc 858 (s_ic 64 860)))))
 (znd pc 866
 (znd pc 861
 (zlf pc 860 (s_irem 861))
 (znd pc 863
 (zlf pc 861 (s_iload 17 863))
 (zlf pc 863 (s_cmpeq 886 866))))
 (znd pc 868
 (zlf pc 866 (s_aload 4 868))
 (znd pc 870
 (zlf pc 868 (s_iload 20 870))
 (zlf pc 870 (s_iald 871)))))))
 (znd pc 892
 (znd pc 879
 (znd pc 874
 (znd pc 873
 (zlf pc 871 (s_ic 64 873))
 (zlf pc 873 (s_idiv 874)))
 (znd pc 876
 (zlf pc 874 (s_ic 64 876))
 (znd pc 877
 (zlf pc 876 (s_irem 877))
 (zlf pc 877 (s_iload 18 879)))))
 (znd pc 886
 (znd pc 882
 (zlf pc 879 (s_cmpeq 886 882))
 (znd pc 883
 (zlf pc 882 (s_ic 1 883))
 (zlf pc 883 (s_goto 887))))
 (znd pc 887
 (zlf pc 886 (s_ic 0 887))
 (znd pc 889
 (zlf pc 887 (s_istore 19 889))
 (zlf pc 889 (s_iinc 20 1 892))))))
 (znd pc 906
 (znd pc 899
 (znd pc 895
 (zlf pc 892 (s_goto 799))
 (znd pc 897
 (zlf pc 895 (s_ic 8 897))
 (zlf pc 897 (s_nai 0 899))))
 (znd pc 901
 (zlf pc 899 (s_astore 20 901))
 (znd pc 903
 (zlf pc 901 (s_iload 12 903))
 (zlf pc 903 (s_ifeq 942 906)))))
 (znd pc 913
 (znd pc 908
 (zlf pc 906 (s_iload 16 908))
 (znd pc 911
 (zlf pc 908 (s_ifeq 942 911))
 (zlf pc 911 (s_iload 19 913))))
 (znd pc 916
 (zlf pc 913 (s_ifeq 942 916))
 (znd pc 917
 (zlf pc 916 (s_aload 1 917))
 (zlf pc 917 (s_aload 2 918))))))))
 (znd pc 957
 (znd pc 934
 (znd pc 926
 (znd pc 921
 (znd pc 920
 (zlf pc 918 (s_aload 6 920))
 (zlf pc 920 (s_aload 3 921)))
 (znd pc 923
 (zlf pc 921 (s_iload 10 923))
 (znd pc 924
 (zlf pc 923 (s_iald 924))
 (zlf pc 924 (s_ic 8 926)))))
 (znd pc 930
 (znd pc 927
 (zlf pc 926 (s_irem 927))
 (znd pc 928
 (zlf pc 927 (s_aload 3 928))
 (zlf pc 928 (s_iload 11 930))))
 (znd pc 931
 (zlf pc 930 (s_iald 931))
 (znd pc 933
 (zlf pc 931 (s_ic 8 933))
 (zlf pc 933 (s_irem 934))))))
 (znd pc 946
 (znd pc 942
 (znd pc 936
 (zlf pc 934 (s_aload 20 936))
 (znd pc 939
 (zlf pc 936 (s_cI zpS 210 6 [zU, zU, zU, zU, zU, zU, zU, zU, zU, zU] zx0 939))
 (zlf pc 939 (s_goto 943))))
 (znd pc 943
 (zlf pc 942 (s_ic (-1) 943))
 (znd pc 945
 (zlf pc 943 (s_istore 21 945))
 (zlf pc 945 (s_aload 0 946)))))
 (znd pc 951
 (znd pc 947
 (zlf pc 946 (s_ic 3 947))
 (znd pc 949
 (zlf pc 947 (s_iload 10 949))
 (zlf pc 949 (s_iload 13 951))))
 (znd pc 953
 (zlf pc 951 (s_iload 11 953))
 (znd pc 955
 (zlf pc 953 (s_iload 14 955))
 (zlf pc 955 (s_iload 15 957)))))))
 (znd pc 987
 (znd pc 972
 (znd pc 965
 (znd pc 960
 (zlf pc 957 (s_cI zpS 207 7 [zU] zx0 960))
 (znd pc 962
 (zlf pc 960 (s_iload 12 962))
 (zlf pc 962 (s_ifne 970 965))))
 (znd pc 967
 (zlf pc 965 (s_ic (-3000000) 967))
 (znd pc 970
 (zlf pc 967 (s_goto 994))
 (zlf pc 970 (s_iload 16 972)))))
 (znd pc 980
 (znd pc 975
 (zlf pc 972 (s_ifne 980 975))
 (znd pc 977
 (zlf pc 975 (s_ic (-2000000) 977))
 (zlf pc 977 (s_goto 994))))
 (znd pc 982
 (zlf pc 980 (s_iload 21 982))
 (znd pc 985
 (zlf pc 982 (s_ifge 990 985))
 (zlf pc 985 (s_ic (-1000000) 987))))))
 (znd pc 998
 (znd pc 993
 (znd pc 990
 (zlf pc 987 (s_goto 994))
 (znd pc 992
 (zlf pc 990 (s_aload 6 992))
 (zlf pc 992 (s_ic 2 993))))
 (znd pc 994
 (zlf pc 993 (s_iald 994))
 (znd pc 997
 (zlf pc 994 (s_cmpeq 999 997))
 (zlf pc 997 (s_ic 0 998)))))
 (znd pc 1002
 (znd pc 999
 (zlf pc 998 (s_rZ))
 (znd pc 1000
 (zlf pc 999 (s_ic 1 1000))
 (zlf pc 1000 (s_istore 22 1002))))
 (znd pc 1003
 (zlf pc 1002 (s_ic 0 1003))
 (znd pc 1005
 (zlf pc 1003 (s_istore 23 1005))
 (zlf pc 1005 (s_iload 23 1007))))))))))
 (znd pc 1160
 (znd pc 1085
 (znd pc 1049
 (znd pc 1028
 (znd pc 1019
 (znd pc 1012
 (znd pc 1009
 (zlf pc 1007 (s_ic 8 1009))
 (zlf pc 1009 (s_cmpge 1110 1012)))
 (znd pc 1014
 (zlf pc 1012 (s_iload 21 1014))
 (znd pc 1017
 (zlf pc 1014 (s_iflt 1110 1017))
 (zlf pc 1017 (s_iload 22 1019)))))
 (znd pc 1024
 (znd pc 1022
 (zlf pc 1019 (s_ifeq 1110 1022))
 (znd pc 1023
 (zlf pc 1022 (s_aload 0 1023))
 (zlf pc 1023 (s_ic 5 1024))))
 (znd pc 1026
 (zlf pc 1024 (s_aload 6 1026))
 (znd pc 1027
 (zlf pc 1026 (s_ic 2 1027))
 (zlf pc 1027 (s_iald 1028))))))
 (znd pc 1038
 (znd pc 1032
 (znd pc 1030
 (zlf pc 1028 (s_iload 23 1030))
 (znd pc 1031
 (zlf pc 1030 (s_ic 0 1031))
 (zlf pc 1031 (s_ic 0 1032))))
 (znd pc 1033
 (zlf pc 1032 (s_ic 0 1033))
 (znd pc 1036
 (zlf pc 1033 (s_cI zpS 207 7 [zU] zx0 1036))
 (zlf pc 1036 (s_aload 20 1038)))))
 (znd pc 1044
 (znd pc 1040
 (zlf pc 1038 (s_iload 23 1040))
 (znd pc 1041
 (zlf pc 1040 (s_iald 1041))
 (zlf pc 1041 (s_cmpne 1048 1044))))
 (znd pc 1045
 (zlf pc 1044 (s_ic 1 1045))
 (znd pc 1048
 (zlf pc 1045 (s_goto 1049))
 (zlf pc 1048 (s_ic 0 1049)))))))
 (znd pc 1067
 (znd pc 1057
 (znd pc 1053
 (znd pc 1051
 (zlf pc 1049 (s_istore 22 1051))
 (zlf pc 1051 (s_aload 5 1053)))
 (znd pc 1055
 (zlf pc 1053 (s_aload 6 1055))
 (znd pc 1056
 (zlf pc 1055 (s_ic 2 1056))
 (zlf pc 1056 (s_iald 1057)))))
 (znd pc 1061
 (znd pc 1058
 (zlf pc 1057 (s_dup2 1058))
 (znd pc 1059
 (zlf pc 1058 (s_iald 1059))
 (zlf pc 1059 (s_aload 20 1061))))
 (znd pc 1063
 (zlf pc 1061 (s_iload 23 1063))
 (znd pc 1064
 (zlf pc 1063 (s_iald 1064))
 (zlf pc 1064 (s_ifge 1071 1067))))))
 (znd pc 1077
 (znd pc 1072
 (znd pc 1068
 (zlf pc 1067 (s_ic 0 1068))
 (znd pc 1071
 (zlf pc 1068 (s_goto 1078))
 (zlf pc 1071 (s_ic 1 1072))))
 (znd pc 1074
 (zlf pc 1072 (s_aload 20 1074))
 (znd pc 1076
 (zlf pc 1074 (s_iload 23 1076))
 (zlf pc 1076 (s_iald 1077)))))
 (znd pc 1080
 (znd pc 1078
 (zlf pc 1077 (s_ishl 1078))
 (znd pc 1079
 (zlf pc 1078 (s_ior 1079))
 (zlf pc 1079 (s_iast 1080))))
 (znd pc 1081
 (zlf pc 1080 (s_aload 2 1081))
 (znd pc 1083
 (zlf pc 1081 (s_aload 20 1083))
 (zlf pc 1083 (s_iload 23 1085))))))))
 (znd pc 1127
 (znd pc 1103
 (znd pc 1096
 (znd pc 1089
 (znd pc 1086
 (zlf pc 1085 (s_iald 1086))
 (zlf pc 1086 (s_ifge 1094 1089)))
 (znd pc 1091
 (zlf pc 1089 (s_ic 16 1091))
 (znd pc 1094
 (zlf pc 1091 (s_goto 1099))
 (zlf pc 1094 (s_aload 20 1096)))))
 (znd pc 1100
 (znd pc 1098
 (zlf pc 1096 (s_iload 23 1098))
 (znd pc 1099
 (zlf pc 1098 (s_iald 1099))
 (zlf pc 1099 (s_dup2 1100))))
 (znd pc 1101
 (zlf pc 1100 (s_iald 1101))
 (znd pc 1102
 (zlf pc 1101 (s_ic 1 1102))
 (zlf pc 1102 (s_isub 1103))))))
 (znd pc 1117
 (znd pc 1110
 (znd pc 1104
 (zlf pc 1103 (s_iast 1104))
 (znd pc 1107
 (zlf pc 1104 (s_iinc 23 1 1107))
 (zlf pc 1107 (s_goto 1005))))
 (znd pc 1112
 (zlf pc 1110 (s_iload 21 1112))
 (znd pc 1115
 (zlf pc 1112 (s_iflt 1160 1115))
 (zlf pc 1115 (s_aload 4 1117)))))
 (znd pc 1121
 (znd pc 1119
 (zlf pc 1117 (s_aload 6 1119))
 (znd pc 1120
 (zlf pc 1119 (s_ic 2 1120))
 (zlf pc 1120 (s_iald 1121))))
 (znd pc 1123
 (zlf pc 1121 (s_iload 17 1123))
 (znd pc 1125
 (zlf pc 1123 (s_ic 64 1125))
 (zlf pc 1125 (s_iload 18 1127)))))))
 (znd pc 1145
 (znd pc 1136
 (znd pc 1132
 (znd pc 1128
 (zlf pc 1127 (s_imul 1128))
 (znd pc 1129
 (zlf pc 1128 (s_iadd 1129))
 (zlf pc 1129 (s_ic 4096 1132))))
 (znd pc 1134
 (zlf pc 1132 (s_iload 15 1134))
 (znd pc 1135
 (zlf pc 1134 (s_imul 1135))
 (zlf pc 1135 (s_iadd 1136)))))
 (znd pc 1141
 (znd pc 1137
 (zlf pc 1136 (s_iast 1137))
 (znd pc 1139
 (zlf pc 1137 (s_aload 5 1139))
 (zlf pc 1139 (s_ic 24 1141))))
 (znd pc 1143
 (zlf pc 1141 (s_aload 6 1143))
 (znd pc 1144
 (zlf pc 1143 (s_ic 2 1144))
 (zlf pc 1144 (s_iald 1145))))))
 (znd pc 1154
 (znd pc 1150
 (znd pc 1146
 (zlf pc 1145 (s_iadd 1146))
 (znd pc 1148
 (zlf pc 1146 (s_iload 21 1148))
 (zlf pc 1148 (s_ic 8 1150))))
 (znd pc 1151
 (zlf pc 1150 (s_idiv 1151))
 (znd pc 1152
 (zlf pc 1151 (s_iast 1152))
 (zlf pc 1152 (s_aload 6 1154)))))
 (znd pc 1157
 (znd pc 1155
 (zlf pc 1154 (s_ic 2 1155))
 (znd pc 1156
 (zlf pc 1155 (s_dup2 1156))
 (zlf pc 1156 (s_iald 1157))))
 (znd pc 1158
 (zlf pc 1157 (s_ic 1 1158))
 (znd pc 1159
 (zlf pc 1158 (s_iadd 1159))
 (zlf pc 1159 (s_iast 1160)))))))))
 (znd pc 1240
 (znd pc 1199
 (znd pc 1176
 (znd pc 1168
 (znd pc 1163
 (znd pc 1162
 (zlf pc 1160 (s_iload 22 1162))
 (zlf pc 1162 (s_rZ)))
 (znd pc 1165
 (zlf pc 1163 (s_iload 8 1165))
 (znd pc 1167
 (zlf pc 1165 (s_aload 6 1167))
 (zlf pc 1167 (s_ic 2 1168)))))
 (znd pc 1171
 (znd pc 1169
 (zlf pc 1168 (s_iald 1169))
 (znd pc 1170
 (zlf pc 1169 (s_ic 1 1170))
 (zlf pc 1170 (s_iadd 1171))))
 (znd pc 1172
 (zlf pc 1171 (s_irem 1172))
 (znd pc 1174
 (zlf pc 1172 (s_istore 13 1174))
 (zlf pc 1174 (s_iload 13 1176))))))
 (znd pc 1187
 (znd pc 1180
 (znd pc 1178
 (zlf pc 1176 (s_aload 6 1178))
 (znd pc 1179
 (zlf pc 1178 (s_ic 2 1179))
 (zlf pc 1179 (s_iald 1180))))
 (znd pc 1183
 (zlf pc 1180 (s_cmpge 1187 1183))
 (znd pc 1184
 (zlf pc 1183 (s_ic 1 1184))
 (zlf pc 1184 (s_goto 1188)))))
 (znd pc 1192
 (znd pc 1188
 (zlf pc 1187 (s_ic 0 1188))
 (znd pc 1190
 (zlf pc 1188 (s_istore 14 1190))
 (zlf pc 1190 (s_iload 14 1192))))
 (znd pc 1195
 (zlf pc 1192 (s_ifeq 1209 1195))
 (znd pc 1197
 (zlf pc 1195 (s_aload 4 1197))
 (zlf pc 1197 (s_iload 13 1199)))))))
 (znd pc 1219
 (znd pc 1209
 (znd pc 1202
 (znd pc 1200
 (zlf pc 1199 (s_iald 1200))
 (zlf pc 1200 (s_ic 32768 1202)))
 (znd pc 1205
 (zlf pc 1202 (s_cmpge 1209 1205))
 (znd pc 1206
 (zlf pc 1205 (s_ic 1 1206))
 (zlf pc 1206 (s_goto 1210)))))
 (znd pc 1213
 (znd pc 1210
 (zlf pc 1209 (s_ic 0 1210))
 (znd pc 1212
 (zlf pc 1210 (s_istore 15 1212))
 (zlf pc 1212 (s_ic 0 1213))))
 (znd pc 1215
 (zlf pc 1213 (s_istore 16 1215))
 (znd pc 1217
 (zlf pc 1215 (s_iload 16 1217))
 (zlf pc 1217 (s_ic 16 1219))))))
 (znd pc 1231
 (znd pc 1227
 (znd pc 1222
 (zlf pc 1219 (s_cmpge 1250 1222))
 (znd pc 1224
 (zlf pc 1222 (s_iload 15 1224))
 (zlf pc 1224 (s_ifeq 1250 1227))))
 (znd pc 1228
 (zlf pc 1227 (s_aload 2 1228))
 (znd pc 1230
 (zlf pc 1228 (s_iload 16 1230))
 (zlf pc 1230 (s_dup2 1231)))))
 (znd pc 1236
 (znd pc 1232
 (zlf pc 1231 (s_iald 1232))
 (znd pc 1234
 (zlf pc 1232 (s_aload 5 1234))
 (zlf pc 1234 (s_iload 13 1236))))
 (znd pc 1237
 (zlf pc 1236 (s_iald 1237))
 (znd pc 1239
 (zlf pc 1237 (s_iload 16 1239))
 (zlf pc 1239 (s_ishr 1240))))))))
 (znd pc 1281
 (znd pc 1262
 (znd pc 1247
 (znd pc 1242
 (znd pc 1241
 (zlf pc 1240 (s_ic 1 1241))
 (zlf pc 1241 (s_iand 1242)))
 (znd pc 1243
 (zlf pc 1242 (s_iadd 1243))
 (znd pc 1244
 (zlf pc 1243 (s_iast 1244))
 (zlf pc 1244 (s_iinc 16 1 1247)))))
 (znd pc 1254
 (znd pc 1250
 (zlf pc 1247 (s_goto 1215))
 (znd pc 1252
 (zlf pc 1250 (s_aload 4 1252))
 (zlf pc 1252 (s_iload 15 1254))))
 (znd pc 1257
 (zlf pc 1254 (s_ifeq 1262 1257))
 (znd pc 1259
 (zlf pc 1257 (s_iload 13 1259))
 (zlf pc 1259 (s_goto 1264))))))
 (znd pc 1273
 (znd pc 1266
 (znd pc 1264
 (zlf pc 1262 (s_ic 24 1264))
 (znd pc 1265
 (zlf pc 1264 (s_dup2 1265))
 (zlf pc 1265 (s_iald 1266))))
 (znd pc 1268
 (zlf pc 1266 (s_iload 15 1268))
 (znd pc 1271
 (zlf pc 1268 (s_ifeq 1276 1271))
 (zlf pc 1271 (s_ic 32768 1273)))))
 (znd pc 1278
 (znd pc 1276
 (zlf pc 1273 (s_goto 1277))
 (znd pc 1277
 (zlf pc 1276 (s_ic 0 1277))
 (zlf pc 1277 (s_iadd 1278))))
 (znd pc 1279
 (zlf pc 1278 (s_iast 1279))
 (znd pc 1280
 (zlf pc 1279 (s_aload 0 1280))
 (zlf pc 1280 (s_ic 4 1281)))))))
 (znd pc 1305
 (znd pc 1290
 (znd pc 1285
 (znd pc 1283
 (zlf pc 1281 (s_iload 13 1283))
 (znd pc 1284
 (zlf pc 1283 (s_ic 0 1284))
 (zlf pc 1284 (s_ic 0 1285))))
 (znd pc 1286
 (zlf pc 1285 (s_ic 0 1286))
 (znd pc 1287
 (zlf pc 1286 (s_ic 0 1287))
 (zlf pc 1287 (s_cI zpS 207 7 [zU] zx0 1290)))))
 (znd pc 1297
 (znd pc 1292
 (zlf pc 1290 (s_iload 14 1292))
 (znd pc 1295
 (zlf pc 1292 (s_ifne 1300 1295))
 (zlf pc 1295 (s_ic (-3000000) 1297))))
 (znd pc 1300
 (zlf pc 1297 (s_goto 1318))
 (znd pc 1302
 (zlf pc 1300 (s_iload 15 1302))
 (zlf pc 1302 (s_ifeq 1316 1305))))))
 (znd pc 1316
 (znd pc 1311
 (znd pc 1307
 (zlf pc 1305 (s_aload 5 1307))
 (znd pc 1309
 (zlf pc 1307 (s_ic 24 1309))
 (zlf pc 1309 (s_iload 13 1311))))
 (znd pc 1312
 (zlf pc 1311 (s_iadd 1312))
 (znd pc 1313
 (zlf pc 1312 (s_iald 1313))
 (zlf pc 1313 (s_goto 1318)))))
 (znd pc 1322
 (znd pc 1318
 (zlf pc 1316 (s_ic (-1000000) 1318))
 (znd pc 1321
 (zlf pc 1318 (s_cmpne 1325 1321))
 (zlf pc 1321 (s_ic 1 1322))))
 (znd pc 1325
 (zlf pc 1322 (s_goto 1326))
 (znd pc 1326
 (zlf pc 1325 (s_ic 0 1326))
 (zlf pc 1326 (s_rZ)))))))))))
theorem zm_L_isHarness (G : Nat × Nat) (pc : Nat) : zMon (zc_L_isHarness G pc) := (mo_d (mo_d (mo_d (mo_d (mo_d (mo_d (mo_d (mo_d (mo_d (mo_l (mo_iload _ _)) (mo_l (mo_ifne _ _))) (mo_d (mo_l (mo_aload _ _)) (mo_d (mo_l (mo_ic _ _)) (mo_l (mo_iald _))))) (mo_d (mo_d (mo_l (mo_ic _ _)) (mo_d (mo_l (mo_cmpge _ _)) (mo_l (mo_iload _ _)))) (mo_d (mo_l (mo_ic _ _)) (mo_d (mo_l (mo_irem _)) (mo_l (mo_istore _ _)))))) (mo_d (mo_d (mo_d (mo_l (mo_iload _ _)) (mo_d (mo_l (mo_ic _ _)) (mo_l (mo_irem _)))) (mo_d (mo_l (mo_istore _ _)) (mo_d (mo_l (mo_iload _ _)) (mo_l (mo_ic _ _))))) (mo_d (mo_d (mo_l (mo_idiv _)) (mo_d (mo_l (mo_ic _ _)) (mo_l (mo_irem _)))) (mo_d (mo_l (mo_ifne _ _)) (mo_d (mo_l (mo_iload _ _)) (mo_l (mo_ic _ _))))))) (mo_d (mo_d (mo_d (mo_d (mo_l (mo_idiv _)) (mo_l (mo_ic _ _))) (mo_d (mo_l (mo_irem _)) (mo_d (mo_l (mo_goto _)) (mo_l (mo_ic _ _))))) (mo_d (mo_d (mo_l (mo_iload _ _)) (mo_d (mo_l (mo_ic _ _)) (mo_l (mo_idiv _)))) (mo_d (mo_l (mo_ic _ _)) (mo_d (mo_l (mo_irem _)) (mo_l (mo_iadd _)))))) (mo_d (mo_d (mo_d (mo_l (mo_istore _ _)) (mo_d (mo_l (mo_iload _ _)) (mo_l (mo_ic _ _)))) (mo_d (mo_l (mo_idiv _)) (mo_d (mo_l (mo_ic _ _)) (mo_l (mo_irem _))))) (mo_d (mo_d (mo_l (mo_ifne _ _)) (mo_d (mo_l (mo_iload _ _)) (mo_l (mo_ic _ _)))) (mo_d (mo_l (mo_idiv _)) (mo_d (mo_l (mo_ic _ _)) (mo_l (mo_irem _)))))))) (mo_d (mo_d (mo_d (mo_d (mo_d (mo_l (mo_goto _)) (mo_l (mo_ic _ _))) (mo_d (mo_l (mo_iload _ _)) (mo_d (mo_l (mo_ic _ _)) (mo_l (mo_idiv _))))) (mo_d (mo_d (mo_l (mo_ic _ _)) (mo_d (mo_l (mo_irem _)) (mo_l (mo_iadd _)))) (mo_d (mo_l (mo_istore _ _)) (mo_d (mo_l (mo_iload _ _)) (mo_l (mo_ic _ _)))))) (mo_d (mo_d (mo_d (mo_l (mo_cmpge _ _)) (mo_d (mo_l (mo_iload _ _)) (mo_l (mo_ic _ _)))) (mo_d (mo_l (mo_cmpge _ _)) (mo_d (mo_l (mo_ic _ _)) (mo_l (mo_goto _))))) (mo_d (mo_d (mo_l (mo_ic _ _)) (mo_d (mo_l (mo_istore _ _)) (mo_l (mo_iload _ _)))) (mo_d (mo_l (mo_iload _ _)) (mo_d (mo_l (mo_cmpeq _ _)) (mo_l (mo_iload _ _))))))) (mo_d (mo_d (mo_d (mo_d (mo_l (mo_ifle _ _)) (mo_l (mo_iload _ _))) (mo_d (mo_l (mo_ic _ _)) (mo_d (mo_l (mo_cmpge _ _)) (mo_l (mo_iload _ _))))) (mo_d (mo_d (mo_l (mo_ifle _ _)) (mo_d (mo_l (mo_iload _ _)) (mo_l (mo_ic _ _)))) (mo_d (mo_l (mo_cmpge _ _)) (mo_d (mo_l (mo_ic _ _)) (mo_l (mo_goto _)))))) (mo_d (mo_d (mo_d (mo_l (mo_ic _ _)) (mo_d (mo_l (mo_istore _ _)) (mo_l (mo_iload _ _)))) (mo_d (mo_l (mo_ifeq _ _)) (mo_d (mo_l (mo_iload _ _)) (mo_l (mo_ifeq _ _))))) (mo_d (mo_d (mo_l (mo_ic _ _)) (mo_d (mo_l (mo_goto _)) (mo_l (mo_ic _ _)))) (mo_d (mo_l (mo_istore _ _)) (mo_d (mo_l (mo_iload _ _)) (mo_l (mo_ifeq _ _))))))))) (mo_d (mo_d (mo_d (mo_d (mo_d (mo_d (mo_l (mo_aload _ _)) (mo_l (mo_aload _ _))) (mo_d (mo_l (mo_ic _ _)) (mo_d (mo_l (mo_iald _)) (mo_l (mo_iload _ _))))) (mo_d (mo_d (mo_l (mo_ic _ _)) (mo_d (mo_l (mo_iload _ _)) (mo_l (mo_imul _)))) (mo_d (mo_l (mo_iadd _)) (mo_d (mo_l (mo_ic _ _)) (mo_l (mo_iload _ _)))))) (mo_d (mo_d (mo_d (mo_l (mo_imul _)) (mo_d (mo_l (mo_iadd _)) (mo_l (mo_iast _)))) (mo_d (mo_l (mo_aload _ _)) (mo_d (mo_l (mo_aload _ _)) (mo_l (mo_ic _ _))))) (mo_d (mo_d (mo_l (mo_iald _)) (mo_d (mo_l (mo_iload _ _)) (mo_l (mo_iast _)))) (mo_d (mo_l (mo_aload _ _)) (mo_d (mo_l (mo_ic _ _)) (mo_l (mo_dup2 _))))))) (mo_d (mo_d (mo_d (mo_d (mo_l (mo_iald _)) (mo_l (mo_ic _ _))) (mo_d (mo_l (mo_iadd _)) (mo_d (mo_l (mo_iast _)) (mo_l (mo_aload _ _))))) (mo_d (mo_d (mo_l (mo_ic _ _)) (mo_d (mo_l (mo_iload _ _)) (mo_l (mo_iload _ _)))) (mo_d (mo_l (mo_iload _ _)) (mo_d (mo_l (mo_iload _ _)) (mo_l (mo_ic _ _)))))) (mo_d (mo_d (mo_d (mo_l (mo_cI _ _ _ _ zPre_S zHm_0)) (mo_d (mo_l (mo_iload _ _)) (mo_l (mo_ifne _ _)))) (mo_d (mo_l (mo_ic _ _)) (mo_d (mo_l (mo_goto _)) (mo_l (mo_iload _ _))))) (mo_d (mo_d (mo_l (mo_ifeq _ _)) (mo_d (mo_l (mo_aload _ _)) (mo_l (mo_ic _ _)))) (mo_d (mo_l (mo_iald _)) (mo_d (mo_l (mo_ic _ _)) (mo_l (mo_isub _)))))))) (mo_d (mo_d (mo_d (mo_d (mo_d (mo_l (mo_goto _)) (mo_l (mo_ic _ _))) (mo_d (mo_l (mo_cmpne _ _)) (mo_d (mo_l (mo_ic _ _)) (mo_l (mo_goto _))))) (mo_d (mo_d (mo_l (mo_ic _ _)) (mo_d (mo_l (mo_rZ)) (mo_l (mo_iload _ _)))) (mo_d (mo_l (mo_ic _ _)) (mo_d (mo_l (mo_cmpge _ _)) (mo_l (mo_aload _ _)))))) (mo_d (mo_d (mo_d (mo_l (mo_ic _ _)) (mo_d (mo_l (mo_iald _)) (mo_l (mo_ic _ _)))) (mo_d (mo_l (mo_cmpge _ _)) (mo_d (mo_l (mo_iload _ _)) (mo_l (mo_ic _ _))))) (mo_d (mo_d (mo_l (mo_irem _)) (mo_d (mo_l (mo_istore _ _)) (mo_l (mo_iload _ _)))) (mo_d (mo_l (mo_ic _ _)) (mo_d (mo_l (mo_idiv _)) (mo_l (mo_ic _ _))))))) (mo_d (mo_d (mo_d (mo_d (mo_l (mo_irem _)) (mo_d (mo_l (mo_ifne _ _)) (mo_l (mo_iload _ _)))) (mo_d (mo_l (mo_ic _ _)) (mo_d (mo_l (mo_idiv _)) (mo_l (mo_ic _ _))))) (mo_d (mo_d (mo_l (mo_irem _)) (mo_d (mo_l (mo_goto _)) (mo_l (mo_ic _ _)))) (mo_d (mo_l (mo_iload _ _)) (mo_d (mo_l (mo_ic _ _)) (mo_l (mo_idiv _)))))) (mo_d (mo_d (mo_d (mo_l (mo_ic _ _)) (mo_d (mo_l (mo_irem _)) (mo_l (mo_iadd _)))) (mo_d (mo_l (mo_istore _ _)) (mo_d (mo_l (mo_iload _ _)) (mo_l (mo_ic _ _))))) (mo_d (mo_d (mo_l (mo_irem _)) (mo_d (mo_l (mo_ifne _ _)) (mo_l (mo_iload _ _)))) (mo_d (mo_l (mo_ic _ _)) (mo_d (mo_l (mo_idiv _)) (mo_l (mo_ic _ _)))))))))) (mo_d (mo_d (mo_d (mo_d (mo_d (mo_d (mo_d (mo_l (mo_irem _)) (mo_l (mo_goto _))) (mo_d (mo_l (mo_iload _ _)) (mo_d (mo_l (mo_ic _ _)) (mo_l (mo_irem _))))) (mo_d (mo_d (mo_l (mo_istore _ _)) (mo_d (mo_l (mo_iload _ _)) (mo_l (mo_ifle _ _)))) (mo_d (mo_l (mo_iload _ _)) (mo_d (mo_l (mo_ic _ _)) (mo_l (mo_cmpge _ _)))))) (mo_d (mo_d (mo_d (mo_l (mo_iload _ _)) (mo_d (mo_l (mo_ic _ _)) (mo_l (mo_cmpge _ _)))) (mo_d (mo_l (mo_ic _ _)) (mo_d (mo_l (mo_goto _)) (mo_l (mo_ic _ _))))) (mo_d (mo_d (mo_l (mo_istore _ _)) (mo_d (mo_l (mo_iload _ _)) (mo_l (mo_ic _ _)))) (mo_d (mo_l (mo_cmpge _ _)) (mo_d (mo_l (mo_iload _ _)) (mo_l (mo_ifeq _ _))))))) (mo_d (mo_d (mo_d (mo_d (mo_l (mo_ic _ _)) (mo_l (mo_goto _))) (mo_d (mo_l (mo_ic _ _)) (mo_d (mo_l (mo_istore _ _)) (mo_l (mo_iload _ _))))) (mo_d (mo_d (mo_l (mo_ifeq _ _)) (mo_d (mo_l (mo_aload _ _)) (mo_l (mo_aload _ _)))) (mo_d (mo_l (mo_ic _ _)) (mo_d (mo_l (mo_iald _)) (mo_l (mo_iload _ _)))))) (mo_d (mo_d (mo_d (mo_l (mo_ic _ _)) (mo_d (mo_l (mo_iload _ _)) (mo_l (mo_imul _)))) (mo_d (mo_l (mo_iadd _)) (mo_d (mo_l (mo_ic _ _)) (mo_l (mo_iload _ _))))) (mo_d (mo_d (mo_l (mo_imul _)) (mo_d (mo_l (mo_iadd _)) (mo_l (mo_iast _)))) (mo_d (mo_l (mo_aload _ _)) (mo_d (mo_l (mo_ic _ _)) (mo_l (mo_dup2 _)))))))) (mo_d (mo_d (mo_d (mo_d (mo_d (mo_l (mo_iald _)) (mo_l (mo_ic _ _))) (mo_d (mo_l (mo_iadd _)) (mo_d (mo_l (mo_iast _)) (mo_l (mo_aload _ _))))) (mo_d (mo_d (mo_l (mo_ic _ _)) (mo_d (mo_l (mo_iload _ _)) (mo_l (mo_iload _ _)))) (mo_d (mo_l (mo_iload _ _)) (mo_d (mo_l (mo_ic _ _)) (mo_l (mo_ic _ _)))))) (mo_d (mo_d (mo_d (mo_l (mo_cI _ _ _ _ zPre_S zHm_0)) (mo_d (mo_l (mo_iload _ _)) (mo_l (mo_ic _ _)))) (mo_d (mo_l (mo_cmpne _ _)) (mo_d (mo_l (mo_ic _ _)) (mo_l (mo_goto _))))) (mo_d (mo_d (mo_l (mo_iload _ _)) (mo_d (mo_l (mo_ifeq _ _)) (mo_l (mo_aload _ _)))) (mo_d (mo_l (mo_ic _ _)) (mo_d (mo_l (mo_iald _)) (mo_l (mo_ic _ _))))))) (mo_d (mo_d (mo_d (mo_d (mo_l (mo_isub _)) (mo_d (mo_l (mo_goto _)) (mo_l (mo_ic _ _)))) (mo_d (mo_l (mo_cmpne _ _)) (mo_d (mo_l (mo_ic _ _)) (mo_l (mo_goto _))))) (mo_d (mo_d (mo_l (mo_ic _ _)) (mo_d (mo_l (mo_rZ)) (mo_l (mo_iload _ _)))) (mo_d (mo_l (mo_aload _ _)) (mo_d (mo_l (mo_ic _ _)) (mo_l (mo_iald _)))))) (mo_d (mo_d (mo_d (mo_l (mo_ic _ _)) (mo_d (mo_l (mo_iadd _)) (mo_l (mo_irem _)))) (mo_d (mo_l (mo_istore _ _)) (mo_d (mo_l (mo_iload _ _)) (mo_l (mo_aload _ _))))) (mo_d (mo_d (mo_l (mo_ic _ _)) (mo_d (mo_l (mo_iald _)) (mo_l (mo_ic _ _)))) (mo_d (mo_l (mo_iadd _)) (mo_d (mo_l (mo_irem _)) (mo_l (mo_istore _ _))))))))) (mo_d (mo_d (mo_d (mo_d (mo_d (mo_d (mo_l (mo_iload _ _)) (mo_l (mo_aload _ _))) (mo_d (mo_l (mo_ic _ _)) (mo_d (mo_l (mo_iald _)) (mo_l (mo_cmpge _ _))))) (mo_d (mo_d (mo_l (mo_iload _ _)) (mo_d (mo_l (mo_aload _ _)) (mo_l (mo_ic _ _)))) (mo_d (mo_l (mo_iald _)) (mo_d (mo_l (mo_cmpge _ _)) (mo_l (mo_ic _ _)))))) (mo_d (mo_d (mo_d (mo_l (mo_goto _)) (mo_d (mo_l (mo_ic _ _)) (mo_l (mo_istore _ _)))) (mo_d (mo_l (mo_iload _ _)) (mo_d (mo_l (mo_ic _ _)) (mo_l (mo_cmpge _ _))))) (mo_d (mo_d (mo_l (mo_iload _ _)) (mo_d (mo_l (mo_ifeq _ _)) (mo_l (mo_iload _ _)))) (mo_d (mo_l (mo_iload _ _)) (mo_d (mo_l (mo_cmpeq _ _)) (mo_l (mo_aload _ _))))))) (mo_d (mo_d (mo_d (mo_d (mo_l (mo_iload _ _)) (mo_l (mo_iald _))) (mo_d (mo_l (mo_ic _ _)) (mo_d (mo_l (mo_idiv _)) (mo_l (mo_aload _ _))))) (mo_d (mo_d (mo_l (mo_iload _ _)) (mo_d (mo_l (mo_iald _)) (mo_l (mo_ic _ _)))) (mo_d (mo_l (mo_idiv _)) (mo_d (mo_l (mo_cmpne _ _)) (mo_l (mo_aload _ _)))))) (mo_d (mo_d (mo_d (mo_l (mo_iload _ _)) (mo_d (mo_l (mo_iald _)) (mo_l (mo_ic _ _)))) (mo_d (mo_l (mo_cmpge _ _)) (mo_d (mo_l (mo_ic _ _)) (mo_l (mo_goto _))))) (mo_d (mo_d (mo_l (mo_ic _ _)) (mo_d (mo_l (mo_istore _ _)) (mo_l (mo_iload _ _)))) (mo_d (mo_l (mo_ifeq _ _)) (mo_d (mo_l (mo_aload _ _)) (mo_l (mo_iload _ _)))))))) (mo_d (mo_d (mo_d (mo_d (mo_d (mo_l (mo_dup2 _)) (mo_l (mo_iald _))) (mo_d (mo_l (mo_ic _ _)) (mo_d (mo_l (mo_iload _ _)) (mo_l (mo_ic _ _))))) (mo_d (mo_d (mo_l (mo_iadd _)) (mo_d (mo_l (mo_imul _)) (mo_l (mo_iadd _)))) (mo_d (mo_l (mo_iast _)) (mo_d (mo_l (mo_aload _ _)) (mo_l (mo_iload _ _)))))) (mo_d (mo_d (mo_d (mo_l (mo_dup2 _)) (mo_d (mo_l (mo_iald _)) (mo_l (mo_ic _ _)))) (mo_d (mo_l (mo_iload _ _)) (mo_d (mo_l (mo_ic _ _)) (mo_l (mo_iadd _))))) (mo_d (mo_d (mo_l (mo_imul _)) (mo_d (mo_l (mo_iadd _)) (mo_l (mo_iast _)))) (mo_d (mo_l (mo_aload _ _)) (mo_d (mo_l (mo_ic _ _)) (mo_l (mo_iload _ _))))))) (mo_d (mo_d (mo_d (mo_d (mo_l (mo_iload _ _)) (mo_d (mo_l (mo_ic _ _)) (mo_l (mo_ic _ _)))) (mo_d (mo_l (mo_ic _ _)) (mo_d (mo_l (mo_cI _ _ _ _ zPre_S zHm_0)) (mo_l (mo_iload _ _))))) (mo_d (mo_d (mo_l (mo_ifne _ _)) (mo_d (mo_l (mo_ic _ _)) (mo_l (mo_goto _)))) (mo_d (mo_l (mo_iload _ _)) (mo_d (mo_l (mo_iload _ _)) (mo_l (mo_cmpne _ _)))))) (mo_d (mo_d (mo_d (mo_l (mo_ic _ _)) (mo_d (mo_l (mo_goto _)) (mo_l (mo_iload _ _)))) (mo_d (mo_l (mo_ifeq _ _)) (mo_d (mo_l (mo_aload _ _)) (mo_l (mo_aload _ _))))) (mo_d (mo_d (mo_l (mo_cI _ _ _ _ zPre_S zHm_0)) (mo_d (mo_l (mo_goto _)) (mo_l (mo_ic _ _)))) (mo_d (mo_l (mo_cmpne _ _)) (mo_d (mo_l (mo_ic _ _)) (mo_l (mo_goto _))))))))))) (mo_d (mo_d (mo_d (mo_d (mo_d (mo_d (mo_d (mo_d (mo_l (mo_ic _ _)) (mo_l (mo_rZ))) (mo_d (mo_l (mo_iload _ _)) (mo_d (mo_l (mo_ic _ _)) (mo_l (mo_cmpne _ _))))) (mo_d (mo_d (mo_l (mo_aload _ _)) (mo_d (mo_l (mo_ic _ _)) (mo_l (mo_iald _)))) (mo_d (mo_l (mo_ic _ _)) (mo_d (mo_l (mo_cmpge _ _)) (mo_l (mo_iload _ _)))))) (mo_d (mo_d (mo_d (mo_l (mo_ic _ _)) (mo_d (mo_l (mo_idiv _)) (mo_l (mo_ic _ _)))) (mo_d (mo_l (mo_irem _)) (mo_d (mo_l (mo_istore _ _)) (mo_l (mo_iload _ _))))) (mo_d (mo_d (mo_l (mo_ic _ _)) (mo_d (mo_l (mo_idiv _)) (mo_l (mo_ic _ _)))) (mo_d (mo_l (mo_irem _)) (mo_d (mo_l (mo_istore _ _)) (mo_l (mo_iload _ _))))))) (mo_d (mo_d (mo_d (mo_d (mo_l (mo_ic _ _)) (mo_l (mo_idiv _))) (mo_d (mo_l (mo_ic _ _)) (mo_d (mo_l (mo_irem _)) (mo_l (mo_istore _ _))))) (mo_d (mo_d (mo_l (mo_iload _ _)) (mo_d (mo_l (mo_ifeq _ _)) (mo_l (mo_iload _ _)))) (mo_d (mo_l (mo_aload _ _)) (mo_d (mo_l (mo_iload _ _)) (mo_l (mo_iald _)))))) (mo_d (mo_d (mo_d (mo_l (mo_ic _ _)) (mo_d (mo_l (mo_idiv _)) (mo_l (mo_ic _ _)))) (mo_d (mo_l (mo_irem _)) (mo_d (mo_l (mo_cmpge _ _)) (mo_l (mo_iload _ _))))) (mo_d (mo_d (mo_l (mo_aload _ _)) (mo_d (mo_l (mo_iload _ _)) (mo_l (mo_iald _)))) (mo_d (mo_l (mo_ic _ _)) (mo_d (mo_l (mo_idiv _)) (mo_l (mo_ic _ _)))))))) (mo_d (mo_d (mo_d (mo_d (mo_d (mo_l (mo_irem _)) (mo_l (mo_cmpge _ _))) (mo_d (mo_l (mo_ic _ _)) (mo_d (mo_l (mo_goto _)) (mo_l (mo_ic _ _))))) (mo_d (mo_d (mo_l (mo_istore _ _)) (mo_d (mo_l (mo_iload _ _)) (mo_l (mo_iload _ _)))) (mo_d (mo_l (mo_cmpeq _ _)) (mo_d (mo_l (mo_iload _ _)) (mo_l (mo_ic _ _)))))) (mo_d (mo_d (mo_d (mo_l (mo_cmpge _ _)) (mo_d (mo_l (mo_ic _ _)) (mo_l (mo_goto _)))) (mo_d (mo_l (mo_ic _ _)) (mo_d (mo_l (mo_istore _ _)) (mo_l (mo_ic _ _))))) (mo_d (mo_d (mo_l (mo_iload _ _)) (mo_d (mo_l (mo_imul _)) (mo_l (mo_iload _ _)))) (mo_d (mo_l (mo_iadd _)) (mo_d (mo_l (mo_istore _ _)) (mo_l (mo_ic _ _))))))) (mo_d (mo_d (mo_d (mo_d (mo_l (mo_iload _ _)) (mo_d (mo_l (mo_imul _)) (mo_l (mo_iload _ _)))) (mo_d (mo_l (mo_iadd _)) (mo_d (mo_l (mo_istore _ _)) (mo_l (mo_ic _ _))))) (mo_d (mo_d (mo_l (mo_istore _ _)) (mo_d (mo_l (mo_ic _ _)) (mo_l (mo_istore _ _)))) (mo_d (mo_l (mo_iload _ _)) (mo_d (mo_l (mo_aload _ _)) (mo_l (mo_ic _ _)))))) (mo_d (mo_d (mo_d (mo_l (mo_iald _)) (mo_d (mo_l (mo_cmpge _ _)) (mo_l (mo_iload _ _)))) (mo_d (mo_l (mo_ifeq _ _)) (mo_d (mo_l (mo_aload _ _)) (mo_l (mo_iload _ _))))) (mo_d (mo_d (mo_l (mo_iald _)) (mo_d (mo_l (mo_ic _ _)) (mo_l (mo_cmpgt _ _)))) (mo_d (mo_l (mo_aload _ _)) (mo_d (mo_l (mo_iload _ _)) (mo_l (mo_iald _))))))))) (mo_d (mo_d (mo_d (mo_d (mo_d (mo_d (mo_l (mo_ic _ _)) (mo_l (mo_irem _))) (mo_d (mo_l (mo_iload _ _)) (mo_d (mo_l (mo_cmpeq _ _)) (mo_l (mo_aload _ _))))) (mo_d (mo_d (mo_l (mo_iload _ _)) (mo_d (mo_l (mo_iald _)) (mo_l (mo_ic _ _)))) (mo_d (mo_l (mo_irem _)) (mo_d (mo_l (mo_iload _ _)) (mo_l (mo_cmpeq _ _)))))) (mo_d (mo_d (mo_d (mo_l (mo_aload _ _)) (mo_d (mo_l (mo_iload _ _)) (mo_l (mo_iald _)))) (mo_d (mo_l (mo_ic _ _)) (mo_d (mo_l (mo_idiv _)) (mo_l (mo_ic _ _))))) (mo_d (mo_d (mo_l (mo_irem _)) (mo_d (mo_l (mo_iload _ _)) (mo_l (mo_cmpeq _ _)))) (mo_d (mo_l (mo_aload _ _)) (mo_d (mo_l (mo_iload _ _)) (mo_l (mo_iald _))))))) (mo_d (mo_d (mo_d (mo_d (mo_l (mo_ic _ _)) (mo_l (mo_idiv _))) (mo_d (mo_l (mo_ic _ _)) (mo_d (mo_l (mo_irem _)) (mo_l (mo_iload _ _))))) (mo_d (mo_d (mo_l (mo_cmpeq _ _)) (mo_d (mo_l (mo_ic _ _)) (mo_l (mo_goto _)))) (mo_d (mo_l (mo_ic _ _)) (mo_d (mo_l (mo_istore _ _)) (mo_l (mo_iinc _ _ _)))))) (mo_d (mo_d (mo_d (mo_l (mo_goto _)) (mo_d (mo_l (mo_ic _ _)) (mo_l (mo_nai _ _)))) (mo_d (mo_l (mo_astore _ _)) (mo_d (mo_l (mo_iload _ _)) (mo_l (mo_ifeq _ _))))) (mo_d (mo_d (mo_l (mo_iload _ _)) (mo_d (mo_l (mo_ifeq _ _)) (mo_l (mo_iload _ _)))) (mo_d (mo_l (mo_ifeq _ _)) (mo_d (mo_l (mo_aload _ _)) (mo_l (mo_aload _ _)))))))) (mo_d (mo_d (mo_d (mo_d (mo_d (mo_l (mo_aload _ _)) (mo_l (mo_aload _ _))) (mo_d (mo_l (mo_iload _ _)) (mo_d (mo_l (mo_iald _)) (mo_l (mo_ic _ _))))) (mo_d (mo_d (mo_l (mo_irem _)) (mo_d (mo_l (mo_aload _ _)) (mo_l (mo_iload _ _)))) (mo_d (mo_l (mo_iald _)) (mo_d (mo_l (mo_ic _ _)) (mo_l (mo_irem _)))))) (mo_d (mo_d (mo_d (mo_l (mo_aload _ _)) (mo_d (mo_l (mo_cI _ _ _ _ zPre_S zHm_0)) (mo_l (mo_goto _)))) (mo_d (mo_l (mo_ic _ _)) (mo_d (mo_l (mo_istore _ _)) (mo_l (mo_aload _ _))))) (mo_d (mo_d (mo_l (mo_ic _ _)) (mo_d (mo_l (mo_iload _ _)) (mo_l (mo_iload _ _)))) (mo_d (mo_l (mo_iload _ _)) (mo_d (mo_l (mo_iload _ _)) (mo_l (mo_iload _ _))))))) (mo_d (mo_d (mo_d (mo_d (mo_l (mo_cI _ _ _ _ zPre_S zHm_0)) (mo_d (mo_l (mo_iload _ _)) (mo_l (mo_ifne _ _)))) (mo_d (mo_l (mo_ic _ _)) (mo_d (mo_l (mo_goto _)) (mo_l (mo_iload _ _))))) (mo_d (mo_d (mo_l (mo_ifne _ _)) (mo_d (mo_l (mo_ic _ _)) (mo_l (mo_goto _)))) (mo_d (mo_l (mo_iload _ _)) (mo_d (mo_l (mo_ifge _ _)) (mo_l (mo_ic _ _)))))) (mo_d (mo_d (mo_d (mo_l (mo_goto _)) (mo_d (mo_l (mo_aload _ _)) (mo_l (mo_ic _ _)))) (mo_d (mo_l (mo_iald _)) (mo_d (mo_l (mo_cmpeq _ _)) (mo_l (mo_ic _ _))))) (mo_d (mo_d (mo_l (mo_rZ)) (mo_d (mo_l (mo_ic _ _)) (mo_l (mo_istore _ _)))) (mo_d (mo_l (mo_ic _ _)) (mo_d (mo_l (mo_istore _ _)) (mo_l (mo_iload _ _)))))))))) (mo_d (mo_d (mo_d (mo_d (mo_d (mo_d (mo_d (mo_l (mo_ic _ _)) (mo_l (mo_cmpge _ _))) (mo_d (mo_l (mo_iload _ _)) (mo_d (mo_l (mo_iflt _ _)) (mo_l (mo_iload _ _))))) (mo_d (mo_d (mo_l (mo_ifeq _ _)) (mo_d (mo_l (mo_aload _ _)) (mo_l (mo_ic _ _)))) (mo_d (mo_l (mo_aload _ _)) (mo_d (mo_l (mo_ic _ _)) (mo_l (mo_iald _)))))) (mo_d (mo_d (mo_d (mo_l (mo_iload _ _)) (mo_d (mo_l (mo_ic _ _)) (mo_l (mo_ic _ _)))) (mo_d (mo_l (mo_ic _ _)) (mo_d (mo_l (mo_cI _ _ _ _ zPre_S zHm_0)) (mo_l (mo_aload _ _))))) (mo_d (mo_d (mo_l (mo_iload _ _)) (mo_d (mo_l (mo_iald _)) (mo_l (mo_cmpne _ _)))) (mo_d (mo_l (mo_ic _ _)) (mo_d (mo_l (mo_goto _)) (mo_l (mo_ic _ _))))))) (mo_d (mo_d (mo_d (mo_d (mo_l (mo_istore _ _)) (mo_l (mo_aload _ _))) (mo_d (mo_l (mo_aload _ _)) (mo_d (mo_l (mo_ic _ _)) (mo_l (mo_iald _))))) (mo_d (mo_d (mo_l (mo_dup2 _)) (mo_d (mo_l (mo_iald _)) (mo_l (mo_aload _ _)))) (mo_d (mo_l (mo_iload _ _)) (mo_d (mo_l (mo_iald _)) (mo_l (mo_ifge _ _)))))) (mo_d (mo_d (mo_d (mo_l (mo_ic _ _)) (mo_d (mo_l (mo_goto _)) (mo_l (mo_ic _ _)))) (mo_d (mo_l (mo_aload _ _)) (mo_d (mo_l (mo_iload _ _)) (mo_l (mo_iald _))))) (mo_d (mo_d (mo_l (mo_ishl _)) (mo_d (mo_l (mo_ior _)) (mo_l (mo_iast _)))) (mo_d (mo_l (mo_aload _ _)) (mo_d (mo_l (mo_aload _ _)) (mo_l (mo_iload _ _)))))))) (mo_d (mo_d (mo_d (mo_d (mo_d (mo_l (mo_iald _)) (mo_l (mo_ifge _ _))) (mo_d (mo_l (mo_ic _ _)) (mo_d (mo_l (mo_goto _)) (mo_l (mo_aload _ _))))) (mo_d (mo_d (mo_l (mo_iload _ _)) (mo_d (mo_l (mo_iald _)) (mo_l (mo_dup2 _)))) (mo_d (mo_l (mo_iald _)) (mo_d (mo_l (mo_ic _ _)) (mo_l (mo_isub _)))))) (mo_d (mo_d (mo_d (mo_l (mo_iast _)) (mo_d (mo_l (mo_iinc _ _ _)) (mo_l (mo_goto _)))) (mo_d (mo_l (mo_iload _ _)) (mo_d (mo_l (mo_iflt _ _)) (mo_l (mo_aload _ _))))) (mo_d (mo_d (mo_l (mo_aload _ _)) (mo_d (mo_l (mo_ic _ _)) (mo_l (mo_iald _)))) (mo_d (mo_l (mo_iload _ _)) (mo_d (mo_l (mo_ic _ _)) (mo_l (mo_iload _ _))))))) (mo_d (mo_d (mo_d (mo_d (mo_l (mo_imul _)) (mo_d (mo_l (mo_iadd _)) (mo_l (mo_ic _ _)))) (mo_d (mo_l (mo_iload _ _)) (mo_d (mo_l (mo_imul _)) (mo_l (mo_iadd _))))) (mo_d (mo_d (mo_l (mo_iast _)) (mo_d (mo_l (mo_aload _ _)) (mo_l (mo_ic _ _)))) (mo_d (mo_l (mo_aload _ _)) (mo_d (mo_l (mo_ic _ _)) (mo_l (mo_iald _)))))) (mo_d (mo_d (mo_d (mo_l (mo_iadd _)) (mo_d (mo_l (mo_iload _ _)) (mo_l (mo_ic _ _)))) (mo_d (mo_l (mo_idiv _)) (mo_d (mo_l (mo_iast _)) (mo_l (mo_aload _ _))))) (mo_d (mo_d (mo_l (mo_ic _ _)) (mo_d (mo_l (mo_dup2 _)) (mo_l (mo_iald _)))) (mo_d (mo_l (mo_ic _ _)) (mo_d (mo_l (mo_iadd _)) (mo_l (mo_iast _))))))))) (mo_d (mo_d (mo_d (mo_d (mo_d (mo_d (mo_l (mo_iload _ _)) (mo_l (mo_rZ))) (mo_d (mo_l (mo_iload _ _)) (mo_d (mo_l (mo_aload _ _)) (mo_l (mo_ic _ _))))) (mo_d (mo_d (mo_l (mo_iald _)) (mo_d (mo_l (mo_ic _ _)) (mo_l (mo_iadd _)))) (mo_d (mo_l (mo_irem _)) (mo_d (mo_l (mo_istore _ _)) (mo_l (mo_iload _ _)))))) (mo_d (mo_d (mo_d (mo_l (mo_aload _ _)) (mo_d (mo_l (mo_ic _ _)) (mo_l (mo_iald _)))) (mo_d (mo_l (mo_cmpge _ _)) (mo_d (mo_l (mo_ic _ _)) (mo_l (mo_goto _))))) (mo_d (mo_d (mo_l (mo_ic _ _)) (mo_d (mo_l (mo_istore _ _)) (mo_l (mo_iload _ _)))) (mo_d (mo_l (mo_ifeq _ _)) (mo_d (mo_l (mo_aload _ _)) (mo_l (mo_iload _ _))))))) (mo_d (mo_d (mo_d (mo_d (mo_l (mo_iald _)) (mo_l (mo_ic _ _))) (mo_d (mo_l (mo_cmpge _ _)) (mo_d (mo_l (mo_ic _ _)) (mo_l (mo_goto _))))) (mo_d (mo_d (mo_l (mo_ic _ _)) (mo_d (mo_l (mo_istore _ _)) (mo_l (mo_ic _ _)))) (mo_d (mo_l (mo_istore _ _)) (mo_d (mo_l (mo_iload _ _)) (mo_l (mo_ic _ _)))))) (mo_d (mo_d (mo_d (mo_l (mo_cmpge _ _)) (mo_d (mo_l (mo_iload _ _)) (mo_l (mo_ifeq _ _)))) (mo_d (mo_l (mo_aload _ _)) (mo_d (mo_l (mo_iload _ _)) (mo_l (mo_dup2 _))))) (mo_d (mo_d (mo_l (mo_iald _)) (mo_d (mo_l (mo_aload _ _)) (mo_l (mo_iload _ _)))) (mo_d (mo_l (mo_iald _)) (mo_d (mo_l (mo_iload _ _)) (mo_l (mo_ishr _)))))))) (mo_d (mo_d (mo_d (mo_d (mo_d (mo_l (mo_ic _ _)) (mo_l (mo_iand _))) (mo_d (mo_l (mo_iadd _)) (mo_d (mo_l (mo_iast _)) (mo_l (mo_iinc _ _ _))))) (mo_d (mo_d (mo_l (mo_goto _)) (mo_d (mo_l (mo_aload _ _)) (mo_l (mo_iload _ _)))) (mo_d (mo_l (mo_ifeq _ _)) (mo_d (mo_l (mo_iload _ _)) (mo_l (mo_goto _)))))) (mo_d (mo_d (mo_d (mo_l (mo_ic _ _)) (mo_d (mo_l (mo_dup2 _)) (mo_l (mo_iald _)))) (mo_d (mo_l (mo_iload _ _)) (mo_d (mo_l (mo_ifeq _ _)) (mo_l (mo_ic _ _))))) (mo_d (mo_d (mo_l (mo_goto _)) (mo_d (mo_l (mo_ic _ _)) (mo_l (mo_iadd _)))) (mo_d (mo_l (mo_iast _)) (mo_d (mo_l (mo_aload _ _)) (mo_l (mo_ic _ _))))))) (mo_d (mo_d (mo_d (mo_d (mo_l (mo_iload _ _)) (mo_d (mo_l (mo_ic _ _)) (mo_l (mo_ic _ _)))) (mo_d (mo_l (mo_ic _ _)) (mo_d (mo_l (mo_ic _ _)) (mo_l (mo_cI _ _ _ _ zPre_S zHm_0))))) (mo_d (mo_d (mo_l (mo_iload _ _)) (mo_d (mo_l (mo_ifne _ _)) (mo_l (mo_ic _ _)))) (mo_d (mo_l (mo_goto _)) (mo_d (mo_l (mo_iload _ _)) (mo_l (mo_ifeq _ _)))))) (mo_d (mo_d (mo_d (mo_l (mo_aload _ _)) (mo_d (mo_l (mo_ic _ _)) (mo_l (mo_iload _ _)))) (mo_d (mo_l (mo_iadd _)) (mo_d (mo_l (mo_iald _)) (mo_l (mo_goto _))))) (mo_d (mo_d (mo_l (mo_ic _ _)) (mo_d (mo_l (mo_cmpne _ _)) (mo_l (mo_ic _ _)))) (mo_d (mo_l (mo_goto _)) (mo_d (mo_l (mo_ic _ _)) (mo_l (mo_rZ))))))))))))
def zc_L_window (G : Nat × Nat) : Nat → zSem := fun pc =>
 znd pc 30
 (znd pc 16
 (znd pc 6
 (znd pc 3
 (znd pc 1
 (zlf pc 0 (s_aload 1 1))
 (zlf pc 1 (s_ic 7 3)))
 (znd pc 4
 (zlf pc 3 (s_iald 4))
 (zlf pc 4 (s_ic 8 6))))
 (znd pc 10
 (znd pc 9
 (zlf pc 6 (s_cmpge 16 9))
 (zlf pc 9 (s_aload 1 10)))
 (znd pc 12
 (zlf pc 10 (s_ic 7 12))
 (znd pc 13
 (zlf pc 12 (s_iald 13))
 (zlf pc 13 (s_goto 18))))))
 (znd pc 21
 (znd pc 19
 (znd pc 18
 (zlf pc 16 (s_ic 8 18))
 (zlf pc 18 (s_istore 2 19)))
 (znd pc 20
 (zlf pc 19 (s_ic 0 20))
 (zlf pc 20 (s_istore 3 21))))
 (znd pc 24
 (znd pc 22
 (zlf pc 21 (s_ic 0 22))
 (zlf pc 22 (s_istore 4 24)))
 (znd pc 26
 (zlf pc 24 (s_iload 4 26))
 (znd pc 27
 (zlf pc 26 (s_iload 2 27))
 (zlf pc 27 (s_cmpge 43 30)))))))
 (znd pc 44
 (znd pc 35
 (znd pc 32
 (znd pc 31
 (zlf pc 30 (s_iload 3 31))
 (zlf pc 31 (s_aload 0 32)))
 (znd pc 34
 (zlf pc 32 (s_iload 4 34))
 (zlf pc 34 (s_iald 35))))
 (znd pc 37
 (znd pc 36
 (zlf pc 35 (s_iadd 36))
 (zlf pc 36 (s_istore 3 37)))
 (znd pc 40
 (zlf pc 37 (s_iinc 4 1 40))
 (znd pc 43
 (zlf pc 40 (s_goto 24))
 (zlf pc 43 (s_aload 1 44))))))
 (znd pc 52
 (znd pc 47
 (znd pc 46
 (zlf pc 44 (s_ic 7 46))
 (zlf pc 46 (s_iald 47)))
 (znd pc 48
 (zlf pc 47 (s_ic 3 48))
 (znd pc 51
 (zlf pc 48 (s_cmpge 55 51))
 (zlf pc 51 (s_ic 0 52)))))
 (znd pc 56
 (znd pc 55
 (zlf pc 52 (s_goto 58))
 (zlf pc 55 (s_iload 3 56)))
 (znd pc 57
 (zlf pc 56 (s_iload 2 57))
 (znd pc 58
 (zlf pc 57 (s_idiv 58))
 (zlf pc 58 (s_rI)))))))
theorem zm_L_window (G : Nat × Nat) (pc : Nat) : zMon (zc_L_window G pc) := (mo_d (mo_d (mo_d (mo_d (mo_d (mo_l (mo_aload _ _)) (mo_l (mo_ic _ _))) (mo_d (mo_l (mo_iald _)) (mo_l (mo_ic _ _)))) (mo_d (mo_d (mo_l (mo_cmpge _ _)) (mo_l (mo_aload _ _))) (mo_d (mo_l (mo_ic _ _)) (mo_d (mo_l (mo_iald _)) (mo_l (mo_goto _)))))) (mo_d (mo_d (mo_d (mo_l (mo_ic _ _)) (mo_l (mo_istore _ _))) (mo_d (mo_l (mo_ic _ _)) (mo_l (mo_istore _ _)))) (mo_d (mo_d (mo_l (mo_ic _ _)) (mo_l (mo_istore _ _))) (mo_d (mo_l (mo_iload _ _)) (mo_d (mo_l (mo_iload _ _)) (mo_l (mo_cmpge _ _))))))) (mo_d (mo_d (mo_d (mo_d (mo_l (mo_iload _ _)) (mo_l (mo_aload _ _))) (mo_d (mo_l (mo_iload _ _)) (mo_l (mo_iald _)))) (mo_d (mo_d (mo_l (mo_iadd _)) (mo_l (mo_istore _ _))) (mo_d (mo_l (mo_iinc _ _ _)) (mo_d (mo_l (mo_goto _)) (mo_l (mo_aload _ _)))))) (mo_d (mo_d (mo_d (mo_l (mo_ic _ _)) (mo_l (mo_iald _))) (mo_d (mo_l (mo_ic _ _)) (mo_d (mo_l (mo_cmpge _ _)) (mo_l (mo_ic _ _))))) (mo_d (mo_d (mo_l (mo_goto _)) (mo_l (mo_iload _ _))) (mo_d (mo_l (mo_iload _ _)) (mo_d (mo_l (mo_idiv _)) (mo_l (mo_rI))))))))
def zc_L_isReel (G : Nat × Nat) : Nat → zSem := fun pc =>
 znd pc 283
 (znd pc 154
 (znd pc 71
 (znd pc 37
 (znd pc 18
 (znd pc 8
 (znd pc 5
 (znd pc 2
 (zlf pc 0 (s_iload 7 2))
 (zlf pc 2 (s_ifne 247 5)))
 (znd pc 7
 (zlf pc 5 (s_aload 6 7))
 (zlf pc 7 (s_ic 4 8))))
 (znd pc 11
 (znd pc 9
 (zlf pc 8 (s_iald 9))
 (zlf pc 9 (s_ic 12 11)))
 (znd pc 14
 (zlf pc 11 (s_cmpge 247 14))
 (znd pc 16
 (zlf pc 14 (s_iload 8 16))
 (zlf pc 16 (s_ic 9 18))))))
 (znd pc 29
 (znd pc 21
 (znd pc 19
 (zlf pc 18 (s_irem 19))
 (zlf pc 19 (s_ic 8 21)))
 (znd pc 24
 (zlf pc 21 (s_cmpne 29 24))
 (znd pc 26
 (zlf pc 24 (s_ic 6 26))
 (zlf pc 26 (s_goto 33)))))
 (znd pc 32
 (znd pc 31
 (zlf pc 29 (s_iload 8 31))
 (zlf pc 31 (s_ic 3 32)))
 (znd pc 33
 (zlf pc 32 (s_irem 33))
 (znd pc 35
 (zlf pc 33 (s_istore 10 35))
 (zlf pc 35 (s_iload 8 37)))))))
 (znd pc 54
 (znd pc 46
 (znd pc 40
 (znd pc 39
 (zlf pc 37 (s_ic 9 39))
 (zlf pc 39 (s_idiv 40)))
 (znd pc 42
 (zlf pc 40 (s_ic 9 42))
 (znd pc 43
 (zlf pc 42 (s_irem 43))
 (zlf pc 43 (s_ifne 57 46)))))
 (znd pc 50
 (znd pc 48
 (zlf pc 46 (s_iload 8 48))
 (zlf pc 48 (s_ic 81 50)))
 (znd pc 51
 (zlf pc 50 (s_idiv 51))
 (znd pc 53
 (zlf pc 51 (s_ic 101 53))
 (zlf pc 53 (s_irem 54))))))
 (znd pc 63
 (znd pc 58
 (znd pc 57
 (zlf pc 54 (s_goto 67))
 (zlf pc 57 (s_ic 1 58)))
 (znd pc 60
 (zlf pc 58 (s_iload 8 60))
 (znd pc 62
 (zlf pc 60 (s_ic 81 62))
 (zlf pc 62 (s_idiv 63)))))
 (znd pc 66
 (znd pc 65
 (zlf pc 63 (s_ic 9 65))
 (zlf pc 65 (s_irem 66)))
 (znd pc 67
 (zlf pc 66 (s_iadd 67))
 (znd pc 69
 (zlf pc 67 (s_istore 11 69))
 (zlf pc 69 (s_iload 9 71))))))))
 (znd pc 110
 (znd pc 91
 (znd pc 81
 (znd pc 74
 (znd pc 73
 (zlf pc 71 (s_ic 9 73))
 (zlf pc 73 (s_irem 74)))
 (znd pc 77
 (zlf pc 74 (s_ifne 89 77))
 (znd pc 79
 (zlf pc 77 (s_iload 9 79))
 (zlf pc 79 (s_ic 9 81)))))
 (znd pc 85
 (znd pc 82
 (zlf pc 81 (s_idiv 82))
 (zlf pc 82 (s_ic 5002 85)))
 (znd pc 86
 (zlf pc 85 (s_irem 86))
 (znd pc 89
 (zlf pc 86 (s_goto 101))
 (zlf pc 89 (s_ic 20 91))))))
 (znd pc 100
 (znd pc 95
 (znd pc 93
 (zlf pc 91 (s_iload 9 93))
 (zlf pc 93 (s_ic 9 95)))
 (znd pc 96
 (zlf pc 95 (s_idiv 96))
 (znd pc 99
 (zlf pc 96 (s_ic 400 99))
 (zlf pc 99 (s_irem 100)))))
 (znd pc 103
 (znd pc 101
 (zlf pc 100 (s_iadd 101))
 (zlf pc 101 (s_istore 12 103)))
 (znd pc 105
 (zlf pc 103 (s_iload 11 105))
 (znd pc 108
 (zlf pc 105 (s_ifle 132 108))
 (zlf pc 108 (s_iload 11 110)))))))
 (znd pc 133
 (znd pc 122
 (znd pc 115
 (znd pc 112
 (zlf pc 110 (s_ic 100 112))
 (zlf pc 112 (s_cmpge 132 115)))
 (znd pc 117
 (zlf pc 115 (s_iload 12 117))
 (znd pc 120
 (zlf pc 117 (s_ifle 132 120))
 (zlf pc 120 (s_iload 12 122)))))
 (znd pc 128
 (znd pc 125
 (zlf pc 122 (s_ic 5001 125))
 (zlf pc 125 (s_cmpge 132 128)))
 (znd pc 129
 (zlf pc 128 (s_ic 1 129))
 (znd pc 132
 (zlf pc 129 (s_goto 133))
 (zlf pc 132 (s_ic 0 133))))))
 (znd pc 144
 (znd pc 137
 (znd pc 135
 (zlf pc 133 (s_istore 13 135))
 (zlf pc 135 (s_iload 10 137)))
 (znd pc 139
 (zlf pc 137 (s_ic 6 139))
 (znd pc 142
 (zlf pc 139 (s_cmpge 151 142))
 (zlf pc 142 (s_iload 13 144)))))
 (znd pc 148
 (znd pc 147
 (zlf pc 144 (s_ifeq 151 147))
 (zlf pc 147 (s_ic 1 148)))
 (znd pc 151
 (zlf pc 148 (s_goto 152))
 (znd pc 152
 (zlf pc 151 (s_ic 0 152))
 (zlf pc 152 (s_istore 14 154)))))))))
 (znd pc 212
 (znd pc 184
 (znd pc 171
 (znd pc 163
 (znd pc 159
 (znd pc 156
 (zlf pc 154 (s_iload 14 156))
 (zlf pc 156 (s_ifeq 196 159)))
 (znd pc 160
 (zlf pc 159 (s_aload 1 160))
 (znd pc 162
 (zlf pc 160 (s_aload 6 162))
 (zlf pc 162 (s_ic 4 163)))))
 (znd pc 166
 (znd pc 164
 (zlf pc 163 (s_iald 164))
 (zlf pc 164 (s_iload 10 166)))
 (znd pc 168
 (zlf pc 166 (s_ic 8 168))
 (znd pc 170
 (zlf pc 168 (s_iload 12 170))
 (zlf pc 170 (s_imul 171))))))
 (znd pc 177
 (znd pc 173
 (znd pc 172
 (zlf pc 171 (s_iadd 172))
 (zlf pc 172 (s_iast 173)))
 (znd pc 174
 (zlf pc 173 (s_aload 2 174))
 (znd pc 176
 (zlf pc 174 (s_aload 6 176))
 (zlf pc 176 (s_ic 4 177)))))
 (znd pc 180
 (znd pc 178
 (zlf pc 177 (s_iald 178))
 (zlf pc 178 (s_iload 11 180)))
 (znd pc 181
 (zlf pc 180 (s_iast 181))
 (znd pc 182
 (zlf pc 181 (s_aload 3 182))
 (zlf pc 182 (s_aload 6 184)))))))
 (znd pc 195
 (znd pc 190
 (znd pc 186
 (znd pc 185
 (zlf pc 184 (s_ic 4 185))
 (zlf pc 185 (s_iald 186)))
 (znd pc 187
 (zlf pc 186 (s_ic (-1) 187))
 (znd pc 188
 (zlf pc 187 (s_iast 188))
 (zlf pc 188 (s_aload 6 190)))))
 (znd pc 192
 (znd pc 191
 (zlf pc 190 (s_ic 4 191))
 (zlf pc 191 (s_dup2 192)))
 (znd pc 193
 (zlf pc 192 (s_iald 193))
 (znd pc 194
 (zlf pc 193 (s_ic 1 194))
 (zlf pc 194 (s_iadd 195))))))
 (znd pc 203
 (znd pc 197
 (znd pc 196
 (zlf pc 195 (s_iast 196))
 (zlf pc 196 (s_aload 0 197)))
 (znd pc 199
 (zlf pc 197 (s_ic 8 199))
 (znd pc 201
 (zlf pc 199 (s_iload 10 201))
 (zlf pc 201 (s_iload 11 203)))))
 (znd pc 206
 (znd pc 205
 (zlf pc 203 (s_iload 12 205))
 (zlf pc 205 (s_ic 0 206)))
 (znd pc 207
 (zlf pc 206 (s_ic 0 207))
 (znd pc 210
 (zlf pc 207 (s_cI zpS 207 7 [zU] zx0 210))
 (zlf pc 210 (s_iload 10 212))))))))
 (znd pc 250
 (znd pc 232
 (znd pc 224
 (znd pc 217
 (znd pc 214
 (zlf pc 212 (s_ic 6 214))
 (zlf pc 214 (s_cmpne 222 217)))
 (znd pc 219
 (zlf pc 217 (s_ic (-3000000) 219))
 (znd pc 222
 (zlf pc 219 (s_goto 238))
 (zlf pc 222 (s_iload 14 224)))))
 (znd pc 229
 (znd pc 227
 (zlf pc 224 (s_ifeq 236 227))
 (zlf pc 227 (s_aload 6 229)))
 (znd pc 230
 (zlf pc 229 (s_ic 4 230))
 (znd pc 231
 (zlf pc 230 (s_iald 231))
 (zlf pc 231 (s_ic 1 232))))))
 (znd pc 242
 (znd pc 236
 (znd pc 233
 (zlf pc 232 (s_isub 233))
 (zlf pc 233 (s_goto 238)))
 (znd pc 238
 (zlf pc 236 (s_ic (-2000000) 238))
 (znd pc 241
 (zlf pc 238 (s_cmpne 245 241))
 (zlf pc 241 (s_ic 1 242)))))
 (znd pc 246
 (znd pc 245
 (zlf pc 242 (s_goto 246))
 (zlf pc 245 (s_ic 0 246)))
 (znd pc 247
 (zlf pc 246 (s_rZ))
 (znd pc 249
 (zlf pc 247 (s_iload 7 249))
 (zlf pc 249 (s_ic 2 250)))))))
 (znd pc 266
 (znd pc 259
 (znd pc 255
 (znd pc 253
 (zlf pc 250 (s_cmpge 394 253))
 (zlf pc 253 (s_iload 8 255)))
 (znd pc 257
 (zlf pc 255 (s_aload 6 257))
 (znd pc 258
 (zlf pc 257 (s_ic 4 258))
 (zlf pc 258 (s_iald 259)))))
 (znd pc 261
 (znd pc 260
 (zlf pc 259 (s_ic 1 260))
 (zlf pc 260 (s_iadd 261)))
 (znd pc 262
 (zlf pc 261 (s_irem 262))
 (znd pc 264
 (zlf pc 262 (s_istore 10 264))
 (zlf pc 264 (s_iload 9 266))))))
 (znd pc 275
 (znd pc 268
 (znd pc 267
 (zlf pc 266 (s_ic 3 267))
 (zlf pc 267 (s_irem 268)))
 (znd pc 271
 (zlf pc 268 (s_ifne 275 271))
 (znd pc 272
 (zlf pc 271 (s_ic 1 272))
 (zlf pc 272 (s_goto 276)))))
 (znd pc 278
 (znd pc 276
 (zlf pc 275 (s_ic 0 276))
 (zlf pc 276 (s_istore 11 278)))
 (znd pc 280
 (zlf pc 278 (s_iload 10 280))
 (znd pc 282
 (zlf pc 280 (s_aload 6 282))
 (zlf pc 282 (s_ic 4 283))))))))))
 (znd pc 440
 (znd pc 358
 (znd pc 321
 (znd pc 302
 (znd pc 292
 (znd pc 287
 (znd pc 284
 (zlf pc 283 (s_iald 284))
 (zlf pc 284 (s_cmpge 291 287)))
 (znd pc 288
 (zlf pc 287 (s_ic 1 288))
 (znd pc 291
 (zlf pc 288 (s_goto 292))
 (zlf pc 291 (s_ic 0 292)))))
 (znd pc 296
 (znd pc 294
 (zlf pc 292 (s_istore 12 294))
 (zlf pc 294 (s_iload 12 296)))
 (znd pc 299
 (zlf pc 296 (s_ifeq 315 299))
 (znd pc 300
 (zlf pc 299 (s_aload 3 300))
 (zlf pc 300 (s_iload 10 302))))))
 (znd pc 312
 (znd pc 306
 (znd pc 303
 (zlf pc 302 (s_iald 303))
 (zlf pc 303 (s_iflt 311 306)))
 (znd pc 308
 (zlf pc 306 (s_iload 11 308))
 (znd pc 311
 (zlf pc 308 (s_ifeq 315 311))
 (zlf pc 311 (s_ic 1 312)))))
 (znd pc 316
 (znd pc 315
 (zlf pc 312 (s_goto 316))
 (zlf pc 315 (s_ic 0 316)))
 (znd pc 318
 (zlf pc 316 (s_istore 13 318))
 (znd pc 319
 (zlf pc 318 (s_aload 3 319))
 (zlf pc 319 (s_iload 13 321)))))))
 (znd pc 340
 (znd pc 333
 (znd pc 326
 (znd pc 324
 (zlf pc 321 (s_ifeq 329 324))
 (zlf pc 324 (s_iload 10 326)))
 (znd pc 329
 (zlf pc 326 (s_goto 331))
 (znd pc 331
 (zlf pc 329 (s_ic 12 331))
 (zlf pc 331 (s_aload 4 333)))))
 (znd pc 336
 (znd pc 335
 (zlf pc 333 (s_ic 17 335))
 (zlf pc 335 (s_iald 336)))
 (znd pc 337
 (zlf pc 336 (s_iast 337))
 (znd pc 338
 (zlf pc 337 (s_aload 0 338))
 (zlf pc 338 (s_ic 9 340))))))
 (znd pc 351
 (znd pc 344
 (znd pc 342
 (zlf pc 340 (s_iload 10 342))
 (zlf pc 342 (s_iload 11 344)))
 (znd pc 347
 (zlf pc 344 (s_ifeq 351 347))
 (znd pc 348
 (zlf pc 347 (s_ic 1 348))
 (zlf pc 348 (s_goto 352)))))
 (znd pc 353
 (znd pc 352
 (zlf pc 351 (s_ic 0 352))
 (zlf pc 352 (s_ic 0 353)))
 (znd pc 354
 (zlf pc 353 (s_ic 0 354))
 (znd pc 355
 (zlf pc 354 (s_ic 0 355))
 (zlf pc 355 (s_cI zpS 207 7 [zU] zx0 358))))))))
 (znd pc 398
 (znd pc 379
 (znd pc 370
 (znd pc 363
 (znd pc 360
 (zlf pc 358 (s_iload 12 360))
 (zlf pc 360 (s_ifne 368 363)))
 (znd pc 365
 (zlf pc 363 (s_ic (-3000000) 365))
 (znd pc 368
 (zlf pc 365 (s_goto 385))
 (zlf pc 368 (s_iload 13 370)))))
 (znd pc 374
 (znd pc 373
 (zlf pc 370 (s_ifeq 383 373))
 (zlf pc 373 (s_aload 1 374)))
 (znd pc 376
 (zlf pc 374 (s_iload 10 376))
 (znd pc 377
 (zlf pc 376 (s_iald 377))
 (zlf pc 377 (s_ic 8 379))))))
 (znd pc 389
 (znd pc 383
 (znd pc 380
 (zlf pc 379 (s_idiv 380))
 (zlf pc 380 (s_goto 385)))
 (znd pc 385
 (zlf pc 383 (s_ic (-1000000) 385))
 (znd pc 388
 (zlf pc 385 (s_cmpne 392 388))
 (zlf pc 388 (s_ic 1 389)))))
 (znd pc 393
 (znd pc 392
 (zlf pc 389 (s_goto 393))
 (zlf pc 392 (s_ic 0 393)))
 (znd pc 394
 (zlf pc 393 (s_rZ))
 (znd pc 396
 (zlf pc 394 (s_iload 8 396))
 (zlf pc 396 (s_ic 9 398)))))))
 (znd pc 419
 (znd pc 408
 (znd pc 402
 (znd pc 399
 (zlf pc 398 (s_irem 399))
 (zlf pc 399 (s_ifne 411 402)))
 (znd pc 404
 (zlf pc 402 (s_iload 9 404))
 (znd pc 407
 (zlf pc 404 (s_ic 10001 407))
 (zlf pc 407 (s_irem 408)))))
 (znd pc 414
 (znd pc 411
 (zlf pc 408 (s_goto 420))
 (zlf pc 411 (s_ic 450 414)))
 (znd pc 416
 (zlf pc 414 (s_iload 9 416))
 (znd pc 418
 (zlf pc 416 (s_ic 120 418))
 (zlf pc 418 (s_irem 419))))))
 (znd pc 429
 (znd pc 422
 (znd pc 420
 (zlf pc 419 (s_iadd 420))
 (zlf pc 420 (s_istore 10 422)))
 (znd pc 424
 (zlf pc 422 (s_iload 10 424))
 (znd pc 427
 (zlf pc 424 (s_ifle 439 427))
 (zlf pc 427 (s_iload 10 429)))))
 (znd pc 435
 (znd pc 432
 (zlf pc 429 (s_ic 10000 432))
 (zlf pc 432 (s_cmpge 439 435)))
 (znd pc 436
 (zlf pc 435 (s_ic 1 436))
 (znd pc 439
 (zlf pc 436 (s_goto 440))
 (zlf pc 439 (s_ic 0 440)))))))))
 (znd pc 516
 (znd pc 479
 (znd pc 459
 (znd pc 451
 (znd pc 444
 (znd pc 442
 (zlf pc 440 (s_istore 11 442))
 (zlf pc 442 (s_iload 10 444)))
 (znd pc 446
 (zlf pc 444 (s_aload 5 446))
 (znd pc 448
 (zlf pc 446 (s_aload 6 448))
 (zlf pc 448 (s_cI zpS 215 2 [zU, zU, zU] zx0 451)))))
 (znd pc 454
 (znd pc 452
 (zlf pc 451 (s_isub 452))
 (zlf pc 452 (s_istore 12 454)))
 (znd pc 456
 (zlf pc 454 (s_aload 6 456))
 (znd pc 458
 (zlf pc 456 (s_ic 7 458))
 (zlf pc 458 (s_iald 459))))))
 (znd pc 470
 (znd pc 463
 (znd pc 460
 (zlf pc 459 (s_ic 3 460))
 (zlf pc 460 (s_cmplt 489 463)))
 (znd pc 465
 (zlf pc 463 (s_ic 10 465))
 (znd pc 467
 (zlf pc 465 (s_iload 12 467))
 (zlf pc 467 (s_ifge 476 470)))))
 (znd pc 473
 (znd pc 472
 (zlf pc 470 (s_iload 12 472))
 (zlf pc 472 (s_ineg 473)))
 (znd pc 476
 (zlf pc 473 (s_goto 478))
 (znd pc 478
 (zlf pc 476 (s_iload 12 478))
 (zlf pc 478 (s_imul 479)))))))
 (znd pc 500
 (znd pc 490
 (znd pc 483
 (znd pc 481
 (zlf pc 479 (s_aload 5 481))
 (zlf pc 481 (s_aload 6 483)))
 (znd pc 486
 (zlf pc 483 (s_cI zpS 215 2 [zU, zU, zU] zx0 486))
 (znd pc 489
 (zlf pc 486 (s_cmpgt 493 489))
 (zlf pc 489 (s_ic 1 490)))))
 (znd pc 494
 (znd pc 493
 (zlf pc 490 (s_goto 494))
 (zlf pc 493 (s_ic 0 494)))
 (znd pc 496
 (zlf pc 494 (s_istore 13 496))
 (znd pc 498
 (zlf pc 496 (s_aload 6 498))
 (zlf pc 498 (s_ic 6 500))))))
 (znd pc 508
 (znd pc 502
 (znd pc 501
 (zlf pc 500 (s_dup2 501))
 (zlf pc 501 (s_iald 502)))
 (znd pc 504
 (zlf pc 502 (s_iload 11 504))
 (znd pc 507
 (zlf pc 504 (s_ifeq 511 507))
 (zlf pc 507 (s_ic 1 508)))))
 (znd pc 512
 (znd pc 511
 (zlf pc 508 (s_goto 512))
 (zlf pc 511 (s_ic 0 512)))
 (znd pc 513
 (zlf pc 512 (s_iadd 513))
 (znd pc 514
 (zlf pc 513 (s_iast 514))
 (zlf pc 514 (s_iload 11 516))))))))
 (znd pc 549
 (znd pc 536
 (znd pc 528
 (znd pc 521
 (znd pc 519
 (zlf pc 516 (s_ifeq 546 519))
 (zlf pc 519 (s_iload 13 521)))
 (znd pc 524
 (zlf pc 521 (s_ifeq 546 524))
 (znd pc 526
 (zlf pc 524 (s_aload 5 526))
 (zlf pc 526 (s_aload 6 528)))))
 (znd pc 531
 (znd pc 530
 (zlf pc 528 (s_ic 7 530))
 (zlf pc 530 (s_iald 531)))
 (znd pc 533
 (zlf pc 531 (s_ic 8 533))
 (znd pc 534
 (zlf pc 533 (s_irem 534))
 (zlf pc 534 (s_iload 10 536))))))
 (znd pc 543
 (znd pc 539
 (znd pc 537
 (zlf pc 536 (s_iast 537))
 (zlf pc 537 (s_aload 6 539)))
 (znd pc 541
 (zlf pc 539 (s_ic 7 541))
 (znd pc 542
 (zlf pc 541 (s_dup2 542))
 (zlf pc 542 (s_iald 543)))))
 (znd pc 545
 (znd pc 544
 (zlf pc 543 (s_ic 1 544))
 (zlf pc 544 (s_iadd 545)))
 (znd pc 546
 (zlf pc 545 (s_iast 546))
 (znd pc 547
 (zlf pc 546 (s_aload 0 547))
 (zlf pc 547 (s_ic 7 549)))))))
 (znd pc 568
 (znd pc 555
 (znd pc 552
 (znd pc 551
 (zlf pc 549 (s_iload 10 551))
 (zlf pc 551 (s_ic 0 552)))
 (znd pc 553
 (zlf pc 552 (s_ic 0 553))
 (znd pc 554
 (zlf pc 553 (s_ic 0 554))
 (zlf pc 554 (s_ic 0 555)))))
 (znd pc 560
 (znd pc 558
 (zlf pc 555 (s_cI zpS 207 7 [zU] zx0 558))
 (zlf pc 558 (s_iload 11 560)))
 (znd pc 563
 (zlf pc 560 (s_ifne 568 563))
 (znd pc 565
 (zlf pc 563 (s_ic (-2000000) 565))
 (zlf pc 565 (s_goto 578))))))
 (znd pc 578
 (znd pc 573
 (znd pc 570
 (zlf pc 568 (s_iload 13 570))
 (zlf pc 570 (s_ifeq 577 573)))
 (znd pc 574
 (zlf pc 573 (s_ic 1 574))
 (znd pc 577
 (zlf pc 574 (s_goto 578))
 (zlf pc 577 (s_ic 0 578)))))
 (znd pc 582
 (znd pc 581
 (zlf pc 578 (s_cmpne 585 581))
 (zlf pc 581 (s_ic 1 582)))
 (znd pc 585
 (zlf pc 582 (s_goto 586))
 (znd pc 586
 (zlf pc 585 (s_ic 0 586))
 (zlf pc 586 (s_rZ))))))))))
theorem zm_L_isReel (G : Nat × Nat) (pc : Nat) : zMon (zc_L_isReel G pc) := (mo_d (mo_d (mo_d (mo_d (mo_d (mo_d (mo_d (mo_d (mo_l (mo_iload _ _)) (mo_l (mo_ifne _ _))) (mo_d (mo_l (mo_aload _ _)) (mo_l (mo_ic _ _)))) (mo_d (mo_d (mo_l (mo_iald _)) (mo_l (mo_ic _ _))) (mo_d (mo_l (mo_cmpge _ _)) (mo_d (mo_l (mo_iload _ _)) (mo_l (mo_ic _ _)))))) (mo_d (mo_d (mo_d (mo_l (mo_irem _)) (mo_l (mo_ic _ _))) (mo_d (mo_l (mo_cmpne _ _)) (mo_d (mo_l (mo_ic _ _)) (mo_l (mo_goto _))))) (mo_d (mo_d (mo_l (mo_iload _ _)) (mo_l (mo_ic _ _))) (mo_d (mo_l (mo_irem _)) (mo_d (mo_l (mo_istore _ _)) (mo_l (mo_iload _ _))))))) (mo_d (mo_d (mo_d (mo_d (mo_l (mo_ic _ _)) (mo_l (mo_idiv _))) (mo_d (mo_l (mo_ic _ _)) (mo_d (mo_l (mo_irem _)) (mo_l (mo_ifne _ _))))) (mo_d (mo_d (mo_l (mo_iload _ _)) (mo_l (mo_ic _ _))) (mo_d (mo_l (mo_idiv _)) (mo_d (mo_l (mo_ic _ _)) (mo_l (mo_irem _)))))) (mo_d (mo_d (mo_d (mo_l (mo_goto _)) (mo_l (mo_ic _ _))) (mo_d (mo_l (mo_iload _ _)) (mo_d (mo_l (mo_ic _ _)) (mo_l (mo_idiv _))))) (mo_d (mo_d (mo_l (mo_ic _ _)) (mo_l (mo_irem _))) (mo_d (mo_l (mo_iadd _)) (mo_d (mo_l (mo_istore _ _)) (mo_l (mo_iload _ _)))))))) (mo_d (mo_d (mo_d (mo_d (mo_d (mo_l (mo_ic _ _)) (mo_l (mo_irem _))) (mo_d (mo_l (mo_ifne _ _)) (mo_d (mo_l (mo_iload _ _)) (mo_l (mo_ic _ _))))) (mo_d (mo_d (mo_l (mo_idiv _)) (mo_l (mo_ic _ _))) (mo_d (mo_l (mo_irem _)) (mo_d (mo_l (mo_goto _)) (mo_l (mo_ic _ _)))))) (mo_d (mo_d (mo_d (mo_l (mo_iload _ _)) (mo_l (mo_ic _ _))) (mo_d (mo_l (mo_idiv _)) (mo_d (mo_l (mo_ic _ _)) (mo_l (mo_irem _))))) (mo_d (mo_d (mo_l (mo_iadd _)) (mo_l (mo_istore _ _))) (mo_d (mo_l (mo_iload _ _)) (mo_d (mo_l (mo_ifle _ _)) (mo_l (mo_iload _ _))))))) (mo_d (mo_d (mo_d (mo_d (mo_l (mo_ic _ _)) (mo_l (mo_cmpge _ _))) (mo_d (mo_l (mo_iload _ _)) (mo_d (mo_l (mo_ifle _ _)) (mo_l (mo_iload _ _))))) (mo_d (mo_d (mo_l (mo_ic _ _)) (mo_l (mo_cmpge _ _))) (mo_d (mo_l (mo_ic _ _)) (mo_d (mo_l (mo_goto _)) (mo_l (mo_ic _ _)))))) (mo_d (mo_d (mo_d (mo_l (mo_istore _ _)) (mo_l (mo_iload _ _))) (mo_d (mo_l (mo_ic _ _)) (mo_d (mo_l (mo_cmpge _ _)) (mo_l (mo_iload _ _))))) (mo_d (mo_d (mo_l (mo_ifeq _ _)) (mo_l (mo_ic _ _))) (mo_d (mo_l (mo_goto _)) (mo_d (mo_l (mo_ic _ _)) (mo_l (mo_istore _ _))))))))) (mo_d (mo_d (mo_d (mo_d (mo_d (mo_d (mo_l (mo_iload _ _)) (mo_l (mo_ifeq _ _))) (mo_d (mo_l (mo_aload _ _)) (mo_d (mo_l (mo_aload _ _)) (mo_l (mo_ic _ _))))) (mo_d (mo_d (mo_l (mo_iald _)) (mo_l (mo_iload _ _))) (mo_d (mo_l (mo_ic _ _)) (mo_d (mo_l (mo_iload _ _)) (mo_l (mo_imul _)))))) (mo_d (mo_d (mo_d (mo_l (mo_iadd _)) (mo_l (mo_iast _))) (mo_d (mo_l (mo_aload _ _)) (mo_d (mo_l (mo_aload _ _)) (mo_l (mo_ic _ _))))) (mo_d (mo_d (mo_l (mo_iald _)) (mo_l (mo_iload _ _))) (mo_d (mo_l (mo_iast _)) (mo_d (mo_l (mo_aload _ _)) (mo_l (mo_aload _ _))))))) (mo_d (mo_d (mo_d (mo_d (mo_l (mo_ic _ _)) (mo_l (mo_iald _))) (mo_d (mo_l (mo_ic _ _)) (mo_d (mo_l (mo_iast _)) (mo_l (mo_aload _ _))))) (mo_d (mo_d (mo_l (mo_ic _ _)) (mo_l (mo_dup2 _))) (mo_d (mo_l (mo_iald _)) (mo_d (mo_l (mo_ic _ _)) (mo_l (mo_iadd _)))))) (mo_d (mo_d (mo_d (mo_l (mo_iast _)) (mo_l (mo_aload _ _))) (mo_d (mo_l (mo_ic _ _)) (mo_d (mo_l (mo_iload _ _)) (mo_l (mo_iload _ _))))) (mo_d (mo_d (mo_l (mo_iload _ _)) (mo_l (mo_ic _ _))) (mo_d (mo_l (mo_ic _ _)) (mo_d (mo_l (mo_cI _ _ _ _ zPre_S zHm_0)) (mo_l (mo_iload _ _)))))))) (mo_d (mo_d (mo_d (mo_d (mo_d (mo_l (mo_ic _ _)) (mo_l (mo_cmpne _ _))) (mo_d (mo_l (mo_ic _ _)) (mo_d (mo_l (mo_goto _)) (mo_l (mo_iload _ _))))) (mo_d (mo_d (mo_l (mo_ifeq _ _)) (mo_l (mo_aload _ _))) (mo_d (mo_l (mo_ic _ _)) (mo_d (mo_l (mo_iald _)) (mo_l (mo_ic _ _)))))) (mo_d (mo_d (mo_d (mo_l (mo_isub _)) (mo_l (mo_goto _))) (mo_d (mo_l (mo_ic _ _)) (mo_d (mo_l (mo_cmpne _ _)) (mo_l (mo_ic _ _))))) (mo_d (mo_d (mo_l (mo_goto _)) (mo_l (mo_ic _ _))) (mo_d (mo_l (mo_rZ)) (mo_d (mo_l (mo_iload _ _)) (mo_l (mo_ic _ _))))))) (mo_d (mo_d (mo_d (mo_d (mo_l (mo_cmpge _ _)) (mo_l (mo_iload _ _))) (mo_d (mo_l (mo_aload _ _)) (mo_d (mo_l (mo_ic _ _)) (mo_l (mo_iald _))))) (mo_d (mo_d (mo_l (mo_ic _ _)) (mo_l (mo_iadd _))) (mo_d (mo_l (mo_irem _)) (mo_d (mo_l (mo_istore _ _)) (mo_l (mo_iload _ _)))))) (mo_d (mo_d (mo_d (mo_l (mo_ic _ _)) (mo_l (mo_irem _))) (mo_d (mo_l (mo_ifne _ _)) (mo_d (mo_l (mo_ic _ _)) (mo_l (mo_goto _))))) (mo_d (mo_d (mo_l (mo_ic _ _)) (mo_l (mo_istore _ _))) (mo_d (mo_l (mo_iload _ _)) (mo_d (mo_l (mo_aload _ _)) (mo_l (mo_ic _ _)))))))))) (mo_d (mo_d (mo_d (mo_d (mo_d (mo_d (mo_d (mo_l (mo_iald _)) (mo_l (mo_cmpge _ _))) (mo_d (mo_l (mo_ic _ _)) (mo_d (mo_l (mo_goto _)) (mo_l (mo_ic _ _))))) (mo_d (mo_d (mo_l (mo_istore _ _)) (mo_l (mo_iload _ _))) (mo_d (mo_l (mo_ifeq _ _)) (mo_d (mo_l (mo_aload _ _)) (mo_l (mo_iload _ _)))))) (mo_d (mo_d (mo_d (mo_l (mo_iald _)) (mo_l (mo_iflt _ _))) (mo_d (mo_l (mo_iload _ _)) (mo_d (mo_l (mo_ifeq _ _)) (mo_l (mo_ic _ _))))) (mo_d (mo_d (mo_l (mo_goto _)) (mo_l (mo_ic _ _))) (mo_d (mo_l (mo_istore _ _)) (mo_d (mo_l (mo_aload _ _)) (mo_l (mo_iload _ _))))))) (mo_d (mo_d (mo_d (mo_d (mo_l (mo_ifeq _ _)) (mo_l (mo_iload _ _))) (mo_d (mo_l (mo_goto _)) (mo_d (mo_l (mo_ic _ _)) (mo_l (mo_aload _ _))))) (mo_d (mo_d (mo_l (mo_ic _ _)) (mo_l (mo_iald _))) (mo_d (mo_l (mo_iast _)) (mo_d (mo_l (mo_aload _ _)) (mo_l (mo_ic _ _)))))) (mo_d (mo_d (mo_d (mo_l (mo_iload _ _)) (mo_l (mo_iload _ _))) (mo_d (mo_l (mo_ifeq _ _)) (mo_d (mo_l (mo_ic _ _)) (mo_l (mo_goto _))))) (mo_d (mo_d (mo_l (mo_ic _ _)) (mo_l (mo_ic _ _))) (mo_d (mo_l (mo_ic _ _)) (mo_d (mo_l (mo_ic _ _)) (mo_l (mo_cI _ _ _ _ zPre_S zHm_0)))))))) (mo_d (mo_d (mo_d (mo_d (mo_d (mo_l (mo_iload _ _)) (mo_l (mo_ifne _ _))) (mo_d (mo_l (mo_ic _ _)) (mo_d (mo_l (mo_goto _)) (mo_l (mo_iload _ _))))) (mo_d (mo_d (mo_l (mo_ifeq _ _)) (mo_l (mo_aload _ _))) (mo_d (mo_l (mo_iload _ _)) (mo_d (mo_l (mo_iald _)) (mo_l (mo_ic _ _)))))) (mo_d (mo_d (mo_d (mo_l (mo_idiv _)) (mo_l (mo_goto _))) (mo_d (mo_l (mo_ic _ _)) (mo_d (mo_l (mo_cmpne _ _)) (mo_l (mo_ic _ _))))) (mo_d (mo_d (mo_l (mo_goto _)) (mo_l (mo_ic _ _))) (mo_d (mo_l (mo_rZ)) (mo_d (mo_l (mo_iload _ _)) (mo_l (mo_ic _ _))))))) (mo_d (mo_d (mo_d (mo_d (mo_l (mo_irem _)) (mo_l (mo_ifne _ _))) (mo_d (mo_l (mo_iload _ _)) (mo_d (mo_l (mo_ic _ _)) (mo_l (mo_irem _))))) (mo_d (mo_d (mo_l (mo_goto _)) (mo_l (mo_ic _ _))) (mo_d (mo_l (mo_iload _ _)) (mo_d (mo_l (mo_ic _ _)) (mo_l (mo_irem _)))))) (mo_d (mo_d (mo_d (mo_l (mo_iadd _)) (mo_l (mo_istore _ _))) (mo_d (mo_l (mo_iload _ _)) (mo_d (mo_l (mo_ifle _ _)) (mo_l (mo_iload _ _))))) (mo_d (mo_d (mo_l (mo_ic _ _)) (mo_l (mo_cmpge _ _))) (mo_d (mo_l (mo_ic _ _)) (mo_d (mo_l (mo_goto _)) (mo_l (mo_ic _ _))))))))) (mo_d (mo_d (mo_d (mo_d (mo_d (mo_d (mo_l (mo_istore _ _)) (mo_l (mo_iload _ _))) (mo_d (mo_l (mo_aload _ _)) (mo_d (mo_l (mo_aload _ _)) (mo_l (mo_cI _ _ _ _ zPre_S zHm_0))))) (mo_d (mo_d (mo_l (mo_isub _)) (mo_l (mo_istore _ _))) (mo_d (mo_l (mo_aload _ _)) (mo_d (mo_l (mo_ic _ _)) (mo_l (mo_iald _)))))) (mo_d (mo_d (mo_d (mo_l (mo_ic _ _)) (mo_l (mo_cmplt _ _))) (mo_d (mo_l (mo_ic _ _)) (mo_d (mo_l (mo_iload _ _)) (mo_l (mo_ifge _ _))))) (mo_d (mo_d (mo_l (mo_iload _ _)) (mo_l (mo_ineg _))) (mo_d (mo_l (mo_goto _)) (mo_d (mo_l (mo_iload _ _)) (mo_l (mo_imul _))))))) (mo_d (mo_d (mo_d (mo_d (mo_l (mo_aload _ _)) (mo_l (mo_aload _ _))) (mo_d (mo_l (mo_cI _ _ _ _ zPre_S zHm_0)) (mo_d (mo_l (mo_cmpgt _ _)) (mo_l (mo_ic _ _))))) (mo_d (mo_d (mo_l (mo_goto _)) (mo_l (mo_ic _ _))) (mo_d (mo_l (mo_istore _ _)) (mo_d (mo_l (mo_aload _ _)) (mo_l (mo_ic _ _)))))) (mo_d (mo_d (mo_d (mo_l (mo_dup2 _)) (mo_l (mo_iald _))) (mo_d (mo_l (mo_iload _ _)) (mo_d (mo_l (mo_ifeq _ _)) (mo_l (mo_ic _ _))))) (mo_d (mo_d (mo_l (mo_goto _)) (mo_l (mo_ic _ _))) (mo_d (mo_l (mo_iadd _)) (mo_d (mo_l (mo_iast _)) (mo_l (mo_iload _ _)))))))) (mo_d (mo_d (mo_d (mo_d (mo_d (mo_l (mo_ifeq _ _)) (mo_l (mo_iload _ _))) (mo_d (mo_l (mo_ifeq _ _)) (mo_d (mo_l (mo_aload _ _)) (mo_l (mo_aload _ _))))) (mo_d (mo_d (mo_l (mo_ic _ _)) (mo_l (mo_iald _))) (mo_d (mo_l (mo_ic _ _)) (mo_d (mo_l (mo_irem _)) (mo_l (mo_iload _ _)))))) (mo_d (mo_d (mo_d (mo_l (mo_iast _)) (mo_l (mo_aload _ _))) (mo_d (mo_l (mo_ic _ _)) (mo_d (mo_l (mo_dup2 _)) (mo_l (mo_iald _))))) (mo_d (mo_d (mo_l (mo_ic _ _)) (mo_l (mo_iadd _))) (mo_d (mo_l (mo_iast _)) (mo_d (mo_l (mo_aload _ _)) (mo_l (mo_ic _ _))))))) (mo_d (mo_d (mo_d (mo_d (mo_l (mo_iload _ _)) (mo_l (mo_ic _ _))) (mo_d (mo_l (mo_ic _ _)) (mo_d (mo_l (mo_ic _ _)) (mo_l (mo_ic _ _))))) (mo_d (mo_d (mo_l (mo_cI _ _ _ _ zPre_S zHm_0)) (mo_l (mo_iload _ _))) (mo_d (mo_l (mo_ifne _ _)) (mo_d (mo_l (mo_ic _ _)) (mo_l (mo_goto _)))))) (mo_d (mo_d (mo_d (mo_l (mo_iload _ _)) (mo_l (mo_ifeq _ _))) (mo_d (mo_l (mo_ic _ _)) (mo_d (mo_l (mo_goto _)) (mo_l (mo_ic _ _))))) (mo_d (mo_d (mo_l (mo_cmpne _ _)) (mo_l (mo_ic _ _))) (mo_d (mo_l (mo_goto _)) (mo_d (mo_l (mo_ic _ _)) (mo_l (mo_rZ)))))))))))
def zc_L_runs (G : Nat × Nat) : Nat → zSem := fun pc =>
 znd pc 19
 (znd pc 10
 (znd pc 3
 (znd pc 1
 (zlf pc 0 (s_aload 1 1))
 (znd pc 2
 (zlf pc 1 (s_iload 3 2))
 (zlf pc 2 (s_iald 3))))
 (znd pc 6
 (zlf pc 3 (s_ifge 10 6))
 (znd pc 7
 (zlf pc 6 (s_ic (-1) 7))
 (zlf pc 7 (s_goto 25)))))
 (znd pc 13
 (znd pc 11
 (zlf pc 10 (s_aload 0 11))
 (znd pc 12
 (zlf pc 11 (s_iload 3 12))
 (zlf pc 12 (s_iald 13))))
 (znd pc 16
 (znd pc 15
 (zlf pc 13 (s_ic 8 15))
 (zlf pc 15 (s_idiv 16)))
 (znd pc 17
 (zlf pc 16 (s_aload 2 17))
 (zlf pc 17 (s_ic 17 19))))))
 (znd pc 25
 (znd pc 22
 (znd pc 20
 (zlf pc 19 (s_iald 20))
 (znd pc 21
 (zlf pc 20 (s_aload 1 21))
 (zlf pc 21 (s_iload 3 22))))
 (znd pc 23
 (zlf pc 22 (s_iald 23))
 (znd pc 24
 (zlf pc 23 (s_isub 24))
 (zlf pc 24 (s_isub 25)))))
 (znd pc 32
 (znd pc 27
 (zlf pc 25 (s_istore 4 27))
 (znd pc 29
 (zlf pc 27 (s_iload 4 29))
 (zlf pc 29 (s_ifge 36 32))))
 (znd pc 36
 (znd pc 33
 (zlf pc 32 (s_ic (-1) 33))
 (zlf pc 33 (s_goto 38)))
 (znd pc 38
 (zlf pc 36 (s_iload 4 38))
 (zlf pc 38 (s_rI))))))
theorem zm_L_runs (G : Nat × Nat) (pc : Nat) : zMon (zc_L_runs G pc) := (mo_d (mo_d (mo_d (mo_d (mo_l (mo_aload _ _)) (mo_d (mo_l (mo_iload _ _)) (mo_l (mo_iald _)))) (mo_d (mo_l (mo_ifge _ _)) (mo_d (mo_l (mo_ic _ _)) (mo_l (mo_goto _))))) (mo_d (mo_d (mo_l (mo_aload _ _)) (mo_d (mo_l (mo_iload _ _)) (mo_l (mo_iald _)))) (mo_d (mo_d (mo_l (mo_ic _ _)) (mo_l (mo_idiv _))) (mo_d (mo_l (mo_aload _ _)) (mo_l (mo_ic _ _)))))) (mo_d (mo_d (mo_d (mo_l (mo_iald _)) (mo_d (mo_l (mo_aload _ _)) (mo_l (mo_iload _ _)))) (mo_d (mo_l (mo_iald _)) (mo_d (mo_l (mo_isub _)) (mo_l (mo_isub _))))) (mo_d (mo_d (mo_l (mo_istore _ _)) (mo_d (mo_l (mo_iload _ _)) (mo_l (mo_ifge _ _)))) (mo_d (mo_d (mo_l (mo_ic _ _)) (mo_l (mo_goto _))) (mo_d (mo_l (mo_iload _ _)) (mo_l (mo_rI)))))))
def zc_L_gives (G : Nat × Nat) : Nat → zSem := fun pc =>
 znd pc 12
 (znd pc 3
 (znd pc 1
 (zlf pc 0 (s_aload 0 1))
 (znd pc 2
 (zlf pc 1 (s_aload 2 2))
 (zlf pc 2 (s_aload 3 3))))
 (znd pc 8
 (znd pc 5
 (zlf pc 3 (s_iload 4 5))
 (zlf pc 5 (s_cI zpS 213 4 [zU] zx0 8)))
 (znd pc 11
 (zlf pc 8 (s_iflt 22 11))
 (zlf pc 11 (s_aload 1 12)))))
 (znd pc 18
 (znd pc 14
 (zlf pc 12 (s_iload 4 14))
 (znd pc 15
 (zlf pc 14 (s_iald 15))
 (zlf pc 15 (s_ifle 22 18))))
 (znd pc 22
 (znd pc 19
 (zlf pc 18 (s_ic 1 19))
 (zlf pc 19 (s_goto 23)))
 (znd pc 23
 (zlf pc 22 (s_ic 0 23))
 (zlf pc 23 (s_rZ)))))
theorem zm_L_gives (G : Nat × Nat) (pc : Nat) : zMon (zc_L_gives G pc) := (mo_d (mo_d (mo_d (mo_l (mo_aload _ _)) (mo_d (mo_l (mo_aload _ _)) (mo_l (mo_aload _ _)))) (mo_d (mo_d (mo_l (mo_iload _ _)) (mo_l (mo_cI _ _ _ _ zPre_S zHm_0))) (mo_d (mo_l (mo_iflt _ _)) (mo_l (mo_aload _ _))))) (mo_d (mo_d (mo_l (mo_iload _ _)) (mo_d (mo_l (mo_iald _)) (mo_l (mo_ifle _ _)))) (mo_d (mo_d (mo_l (mo_ic _ _)) (mo_l (mo_goto _))) (mo_d (mo_l (mo_ic _ _)) (mo_l (mo_rZ))))))
def zc_L_soldered (G : Nat × Nat) : Nat → zSem := fun pc =>
 znd pc 123
 (znd pc 61
 (znd pc 27
 (znd pc 13
 (znd pc 6
 (znd pc 3
 (znd pc 1
 (zlf pc 0 (s_ic 2 1))
 (zlf pc 1 (s_istore 4 3)))
 (znd pc 5
 (zlf pc 3 (s_ic 8 5))
 (zlf pc 5 (s_iload 3 6))))
 (znd pc 9
 (znd pc 7
 (zlf pc 6 (s_imul 7))
 (zlf pc 7 (s_istore 5 9)))
 (znd pc 11
 (zlf pc 9 (s_iload 5 11))
 (zlf pc 11 (s_ic 8 13)))))
 (znd pc 18
 (znd pc 15
 (znd pc 14
 (zlf pc 13 (s_iload 3 14))
 (zlf pc 14 (s_imul 15)))
 (znd pc 17
 (zlf pc 15 (s_ic 8 17))
 (zlf pc 17 (s_iadd 18))))
 (znd pc 23
 (znd pc 21
 (zlf pc 18 (s_cmpge 47 21))
 (zlf pc 21 (s_iload 4 23)))
 (znd pc 24
 (zlf pc 23 (s_aload 2 24))
 (znd pc 26
 (zlf pc 24 (s_iload 5 26))
 (zlf pc 26 (s_iald 27)))))))
 (znd pc 41
 (znd pc 34
 (znd pc 30
 (znd pc 29
 (zlf pc 27 (s_ic 64 29))
 (zlf pc 29 (s_irem 30)))
 (znd pc 33
 (zlf pc 30 (s_ifle 37 33))
 (zlf pc 33 (s_ic 1 34))))
 (znd pc 38
 (znd pc 37
 (zlf pc 34 (s_goto 38))
 (zlf pc 37 (s_ic 0 38)))
 (znd pc 39
 (zlf pc 38 (s_iadd 39))
 (zlf pc 39 (s_istore 4 41)))))
 (znd pc 51
 (znd pc 47
 (znd pc 44
 (zlf pc 41 (s_iinc 5 1 44))
 (zlf pc 44 (s_goto 9)))
 (znd pc 49
 (zlf pc 47 (s_ic 25 49))
 (zlf pc 49 (s_istore 5 51))))
 (znd pc 56
 (znd pc 54
 (zlf pc 51 (s_ic (-1000) 54))
 (zlf pc 54 (s_istore 6 56)))
 (znd pc 57
 (zlf pc 56 (s_ic 0 57))
 (znd pc 59
 (zlf pc 57 (s_istore 7 59))
 (zlf pc 59 (s_iload 7 61))))))))
 (znd pc 90
 (znd pc 74
 (znd pc 69
 (znd pc 66
 (znd pc 63
 (zlf pc 61 (s_ic 12 63))
 (zlf pc 63 (s_cmpge 129 66)))
 (znd pc 67
 (zlf pc 66 (s_aload 1 67))
 (zlf pc 67 (s_iload 7 69))))
 (znd pc 71
 (znd pc 70
 (zlf pc 69 (s_ic 3 70))
 (zlf pc 70 (s_idiv 71)))
 (znd pc 72
 (zlf pc 71 (s_iald 72))
 (zlf pc 72 (s_iload 5 74)))))
 (znd pc 81
 (znd pc 77
 (znd pc 75
 (zlf pc 74 (s_isub 75))
 (zlf pc 75 (s_istore 8 77)))
 (znd pc 79
 (zlf pc 77 (s_iload 5 79))
 (zlf pc 79 (s_iload 8 81))))
 (znd pc 86
 (znd pc 84
 (zlf pc 81 (s_ifge 99 84))
 (zlf pc 84 (s_iload 8 86)))
 (znd pc 87
 (zlf pc 86 (s_ineg 87))
 (znd pc 89
 (zlf pc 87 (s_iload 4 89))
 (zlf pc 89 (s_iadd 90)))))))
 (znd pc 104
 (znd pc 95
 (znd pc 92
 (znd pc 91
 (zlf pc 90 (s_ic 1 91))
 (zlf pc 91 (s_isub 92)))
 (znd pc 94
 (zlf pc 92 (s_iload 4 94))
 (zlf pc 94 (s_idiv 95))))
 (znd pc 99
 (znd pc 96
 (zlf pc 95 (s_ineg 96))
 (zlf pc 96 (s_goto 104)))
 (znd pc 101
 (zlf pc 99 (s_iload 8 101))
 (znd pc 103
 (zlf pc 101 (s_iload 4 103))
 (zlf pc 103 (s_idiv 104))))))
 (znd pc 111
 (znd pc 107
 (znd pc 105
 (zlf pc 104 (s_iadd 105))
 (zlf pc 105 (s_istore 5 107)))
 (znd pc 109
 (zlf pc 107 (s_iload 5 109))
 (zlf pc 109 (s_iload 6 111))))
 (znd pc 116
 (znd pc 114
 (zlf pc 111 (s_cmple 119 114))
 (zlf pc 114 (s_iload 5 116)))
 (znd pc 119
 (zlf pc 116 (s_goto 121))
 (znd pc 121
 (zlf pc 119 (s_iload 6 121))
 (zlf pc 121 (s_istore 6 123)))))))))
 (znd pc 178
 (znd pc 153
 (znd pc 139
 (znd pc 132
 (znd pc 129
 (znd pc 126
 (zlf pc 123 (s_iinc 7 1 126))
 (zlf pc 126 (s_goto 59)))
 (znd pc 131
 (zlf pc 129 (s_ic 8 131))
 (zlf pc 131 (s_iload 3 132))))
 (znd pc 135
 (znd pc 133
 (zlf pc 132 (s_imul 133))
 (zlf pc 133 (s_istore 7 135)))
 (znd pc 137
 (zlf pc 135 (s_iload 7 137))
 (zlf pc 137 (s_ic 8 139)))))
 (znd pc 144
 (znd pc 141
 (znd pc 140
 (zlf pc 139 (s_iload 3 140))
 (zlf pc 140 (s_imul 141)))
 (znd pc 143
 (zlf pc 141 (s_ic 8 143))
 (zlf pc 143 (s_iadd 144))))
 (znd pc 148
 (znd pc 147
 (zlf pc 144 (s_cmpge 234 147))
 (zlf pc 147 (s_aload 2 148)))
 (znd pc 150
 (zlf pc 148 (s_iload 7 150))
 (znd pc 151
 (zlf pc 150 (s_iald 151))
 (zlf pc 151 (s_ic 64 153)))))))
 (znd pc 166
 (znd pc 159
 (znd pc 157
 (znd pc 154
 (zlf pc 153 (s_irem 154))
 (zlf pc 154 (s_ifle 228 157)))
 (znd pc 158
 (zlf pc 157 (s_aload 0 158))
 (zlf pc 158 (s_aload 2 159))))
 (znd pc 162
 (znd pc 161
 (zlf pc 159 (s_iload 7 161))
 (zlf pc 161 (s_iald 162)))
 (znd pc 164
 (zlf pc 162 (s_ic 64 164))
 (znd pc 165
 (zlf pc 164 (s_irem 165))
 (zlf pc 165 (s_ic 1 166))))))
 (znd pc 171
 (znd pc 168
 (znd pc 167
 (zlf pc 166 (s_isub 167))
 (zlf pc 167 (s_iald 168)))
 (znd pc 170
 (zlf pc 168 (s_ic 8 170))
 (zlf pc 170 (s_irem 171))))
 (znd pc 174
 (znd pc 173
 (zlf pc 171 (s_istore 8 173))
 (zlf pc 173 (s_aload 1 174)))
 (znd pc 175
 (zlf pc 174 (s_ic 4 175))
 (znd pc 177
 (zlf pc 175 (s_iload 8 177))
 (zlf pc 177 (s_iadd 178))))))))
 (znd pc 208
 (znd pc 193
 (znd pc 185
 (znd pc 181
 (znd pc 179
 (zlf pc 178 (s_iald 179))
 (zlf pc 179 (s_iload 6 181)))
 (znd pc 184
 (zlf pc 181 (s_cmple 188 184))
 (zlf pc 184 (s_ic 1 185))))
 (znd pc 189
 (znd pc 188
 (zlf pc 185 (s_goto 205))
 (zlf pc 188 (s_aload 1 189)))
 (znd pc 191
 (zlf pc 189 (s_ic 10 191))
 (zlf pc 191 (s_iload 8 193)))))
 (znd pc 200
 (znd pc 195
 (znd pc 194
 (zlf pc 193 (s_iadd 194))
 (zlf pc 194 (s_iald 195)))
 (znd pc 197
 (zlf pc 195 (s_iload 6 197))
 (zlf pc 197 (s_cmpge 204 200))))
 (znd pc 204
 (znd pc 201
 (zlf pc 200 (s_ic 2 201))
 (zlf pc 201 (s_goto 205)))
 (znd pc 205
 (zlf pc 204 (s_ic 0 205))
 (znd pc 207
 (zlf pc 205 (s_istore 9 207))
 (zlf pc 207 (s_aload 2 208)))))))
 (znd pc 223
 (znd pc 214
 (znd pc 211
 (znd pc 210
 (zlf pc 208 (s_iload 7 210))
 (zlf pc 210 (s_dup2 211)))
 (znd pc 212
 (zlf pc 211 (s_iald 212))
 (zlf pc 212 (s_ic 64 214))))
 (znd pc 217
 (znd pc 216
 (zlf pc 214 (s_iload 9 216))
 (zlf pc 216 (s_imul 217)))
 (znd pc 220
 (zlf pc 217 (s_ic 2048 220))
 (znd pc 222
 (zlf pc 220 (s_iload 9 222))
 (zlf pc 222 (s_ic 1 223))))))
 (znd pc 227
 (znd pc 225
 (znd pc 224
 (zlf pc 223 (s_iadd 224))
 (zlf pc 224 (s_imul 225)))
 (znd pc 226
 (zlf pc 225 (s_iadd 226))
 (zlf pc 226 (s_iadd 227))))
 (znd pc 231
 (znd pc 228
 (zlf pc 227 (s_iast 228))
 (zlf pc 228 (s_iinc 7 1 231)))
 (znd pc 234
 (zlf pc 231 (s_goto 135))
 (znd pc 236
 (zlf pc 234 (s_iload 6 236))
 (zlf pc 236 (s_rI)))))))))
theorem zm_L_soldered (G : Nat × Nat) (pc : Nat) : zMon (zc_L_soldered G pc) := (mo_d (mo_d (mo_d (mo_d (mo_d (mo_d (mo_d (mo_l (mo_ic _ _)) (mo_l (mo_istore _ _))) (mo_d (mo_l (mo_ic _ _)) (mo_l (mo_iload _ _)))) (mo_d (mo_d (mo_l (mo_imul _)) (mo_l (mo_istore _ _))) (mo_d (mo_l (mo_iload _ _)) (mo_l (mo_ic _ _))))) (mo_d (mo_d (mo_d (mo_l (mo_iload _ _)) (mo_l (mo_imul _))) (mo_d (mo_l (mo_ic _ _)) (mo_l (mo_iadd _)))) (mo_d (mo_d (mo_l (mo_cmpge _ _)) (mo_l (mo_iload _ _))) (mo_d (mo_l (mo_aload _ _)) (mo_d (mo_l (mo_iload _ _)) (mo_l (mo_iald _))))))) (mo_d (mo_d (mo_d (mo_d (mo_l (mo_ic _ _)) (mo_l (mo_irem _))) (mo_d (mo_l (mo_ifle _ _)) (mo_l (mo_ic _ _)))) (mo_d (mo_d (mo_l (mo_goto _)) (mo_l (mo_ic _ _))) (mo_d (mo_l (mo_iadd _)) (mo_l (mo_istore _ _))))) (mo_d (mo_d (mo_d (mo_l (mo_iinc _ _ _)) (mo_l (mo_goto _))) (mo_d (mo_l (mo_ic _ _)) (mo_l (mo_istore _ _)))) (mo_d (mo_d (mo_l (mo_ic _ _)) (mo_l (mo_istore _ _))) (mo_d (mo_l (mo_ic _ _)) (mo_d (mo_l (mo_istore _ _)) (mo_l (mo_iload _ _)))))))) (mo_d (mo_d (mo_d (mo_d (mo_d (mo_l (mo_ic _ _)) (mo_l (mo_cmpge _ _))) (mo_d (mo_l (mo_aload _ _)) (mo_l (mo_iload _ _)))) (mo_d (mo_d (mo_l (mo_ic _ _)) (mo_l (mo_idiv _))) (mo_d (mo_l (mo_iald _)) (mo_l (mo_iload _ _))))) (mo_d (mo_d (mo_d (mo_l (mo_isub _)) (mo_l (mo_istore _ _))) (mo_d (mo_l (mo_iload _ _)) (mo_l (mo_iload _ _)))) (mo_d (mo_d (mo_l (mo_ifge _ _)) (mo_l (mo_iload _ _))) (mo_d (mo_l (mo_ineg _)) (mo_d (mo_l (mo_iload _ _)) (mo_l (mo_iadd _))))))) (mo_d (mo_d (mo_d (mo_d (mo_l (mo_ic _ _)) (mo_l (mo_isub _))) (mo_d (mo_l (mo_iload _ _)) (mo_l (mo_idiv _)))) (mo_d (mo_d (mo_l (mo_ineg _)) (mo_l (mo_goto _))) (mo_d (mo_l (mo_iload _ _)) (mo_d (mo_l (mo_iload _ _)) (mo_l (mo_idiv _)))))) (mo_d (mo_d (mo_d (mo_l (mo_iadd _)) (mo_l (mo_istore _ _))) (mo_d (mo_l (mo_iload _ _)) (mo_l (mo_iload _ _)))) (mo_d (mo_d (mo_l (mo_cmple _ _)) (mo_l (mo_iload _ _))) (mo_d (mo_l (mo_goto _)) (mo_d (mo_l (mo_iload _ _)) (mo_l (mo_istore _ _))))))))) (mo_d (mo_d (mo_d (mo_d (mo_d (mo_d (mo_l (mo_iinc _ _ _)) (mo_l (mo_goto _))) (mo_d (mo_l (mo_ic _ _)) (mo_l (mo_iload _ _)))) (mo_d (mo_d (mo_l (mo_imul _)) (mo_l (mo_istore _ _))) (mo_d (mo_l (mo_iload _ _)) (mo_l (mo_ic _ _))))) (mo_d (mo_d (mo_d (mo_l (mo_iload _ _)) (mo_l (mo_imul _))) (mo_d (mo_l (mo_ic _ _)) (mo_l (mo_iadd _)))) (mo_d (mo_d (mo_l (mo_cmpge _ _)) (mo_l (mo_aload _ _))) (mo_d (mo_l (mo_iload _ _)) (mo_d (mo_l (mo_iald _)) (mo_l (mo_ic _ _))))))) (mo_d (mo_d (mo_d (mo_d (mo_l (mo_irem _)) (mo_l (mo_ifle _ _))) (mo_d (mo_l (mo_aload _ _)) (mo_l (mo_aload _ _)))) (mo_d (mo_d (mo_l (mo_iload _ _)) (mo_l (mo_iald _))) (mo_d (mo_l (mo_ic _ _)) (mo_d (mo_l (mo_irem _)) (mo_l (mo_ic _ _)))))) (mo_d (mo_d (mo_d (mo_l (mo_isub _)) (mo_l (mo_iald _))) (mo_d (mo_l (mo_ic _ _)) (mo_l (mo_irem _)))) (mo_d (mo_d (mo_l (mo_istore _ _)) (mo_l (mo_aload _ _))) (mo_d (mo_l (mo_ic _ _)) (mo_d (mo_l (mo_iload _ _)) (mo_l (mo_iadd _)))))))) (mo_d (mo_d (mo_d (mo_d (mo_d (mo_l (mo_iald _)) (mo_l (mo_iload _ _))) (mo_d (mo_l (mo_cmple _ _)) (mo_l (mo_ic _ _)))) (mo_d (mo_d (mo_l (mo_goto _)) (mo_l (mo_aload _ _))) (mo_d (mo_l (mo_ic _ _)) (mo_l (mo_iload _ _))))) (mo_d (mo_d (mo_d (mo_l (mo_iadd _)) (mo_l (mo_iald _))) (mo_d (mo_l (mo_iload _ _)) (mo_l (mo_cmpge _ _)))) (mo_d (mo_d (mo_l (mo_ic _ _)) (mo_l (mo_goto _))) (mo_d (mo_l (mo_ic _ _)) (mo_d (mo_l (mo_istore _ _)) (mo_l (mo_aload _ _))))))) (mo_d (mo_d (mo_d (mo_d (mo_l (mo_iload _ _)) (mo_l (mo_dup2 _))) (mo_d (mo_l (mo_iald _)) (mo_l (mo_ic _ _)))) (mo_d (mo_d (mo_l (mo_iload _ _)) (mo_l (mo_imul _))) (mo_d (mo_l (mo_ic _ _)) (mo_d (mo_l (mo_iload _ _)) (mo_l (mo_ic _ _)))))) (mo_d (mo_d (mo_d (mo_l (mo_iadd _)) (mo_l (mo_imul _))) (mo_d (mo_l (mo_iadd _)) (mo_l (mo_iadd _)))) (mo_d (mo_d (mo_l (mo_iast _)) (mo_l (mo_iinc _ _ _))) (mo_d (mo_l (mo_goto _)) (mo_d (mo_l (mo_iload _ _)) (mo_l (mo_rI))))))))))
def zc_L_faults (G : Nat × Nat) : Nat → zSem := fun pc =>
 znd pc 32
 (znd pc 14
 (znd pc 6
 (znd pc 2
 (znd pc 1
 (zlf pc 0 (s_ic 0 1))
 (zlf pc 1 (s_istore 3 2)))
 (znd pc 4
 (zlf pc 2 (s_ic 8 4))
 (znd pc 5
 (zlf pc 4 (s_iload 1 5))
 (zlf pc 5 (s_imul 6)))))
 (znd pc 10
 (znd pc 8
 (zlf pc 6 (s_istore 4 8))
 (zlf pc 8 (s_iload 4 10)))
 (znd pc 12
 (zlf pc 10 (s_ic 8 12))
 (znd pc 13
 (zlf pc 12 (s_iload 1 13))
 (zlf pc 13 (s_imul 14))))))
 (znd pc 23
 (znd pc 17
 (znd pc 16
 (zlf pc 14 (s_ic 8 16))
 (zlf pc 16 (s_iadd 17)))
 (znd pc 20
 (zlf pc 17 (s_cmpge 63 20))
 (znd pc 21
 (zlf pc 20 (s_aload 0 21))
 (zlf pc 21 (s_iload 4 23)))))
 (znd pc 27
 (znd pc 24
 (zlf pc 23 (s_iald 24))
 (znd pc 26
 (zlf pc 24 (s_ic 64 26))
 (zlf pc 26 (s_idiv 27))))
 (znd pc 29
 (zlf pc 27 (s_ic 32 29))
 (znd pc 30
 (zlf pc 29 (s_irem 30))
 (zlf pc 30 (s_istore 5 32)))))))
 (znd pc 46
 (znd pc 40
 (znd pc 35
 (znd pc 33
 (zlf pc 32 (s_iload 3 33))
 (zlf pc 33 (s_iload 5 35)))
 (znd pc 36
 (zlf pc 35 (s_ic 4 36))
 (znd pc 37
 (zlf pc 36 (s_irem 37))
 (zlf pc 37 (s_ifle 54 40)))))
 (znd pc 43
 (znd pc 42
 (zlf pc 40 (s_iload 5 42))
 (zlf pc 42 (s_ic 4 43)))
 (znd pc 44
 (zlf pc 43 (s_idiv 44))
 (znd pc 45
 (zlf pc 44 (s_ic 2 45))
 (zlf pc 45 (s_irem 46))))))
 (znd pc 55
 (znd pc 50
 (znd pc 47
 (zlf pc 46 (s_iload 2 47))
 (zlf pc 47 (s_cmpne 54 50)))
 (znd pc 51
 (zlf pc 50 (s_ic 1 51))
 (znd pc 54
 (zlf pc 51 (s_goto 55))
 (zlf pc 54 (s_ic 0 55)))))
 (znd pc 60
 (znd pc 56
 (zlf pc 55 (s_iadd 56))
 (znd pc 57
 (zlf pc 56 (s_istore 3 57))
 (zlf pc 57 (s_iinc 4 1 60))))
 (znd pc 63
 (zlf pc 60 (s_goto 8))
 (znd pc 64
 (zlf pc 63 (s_iload 3 64))
 (zlf pc 64 (s_rI)))))))
theorem zm_L_faults (G : Nat × Nat) (pc : Nat) : zMon (zc_L_faults G pc) := (mo_d (mo_d (mo_d (mo_d (mo_d (mo_l (mo_ic _ _)) (mo_l (mo_istore _ _))) (mo_d (mo_l (mo_ic _ _)) (mo_d (mo_l (mo_iload _ _)) (mo_l (mo_imul _))))) (mo_d (mo_d (mo_l (mo_istore _ _)) (mo_l (mo_iload _ _))) (mo_d (mo_l (mo_ic _ _)) (mo_d (mo_l (mo_iload _ _)) (mo_l (mo_imul _)))))) (mo_d (mo_d (mo_d (mo_l (mo_ic _ _)) (mo_l (mo_iadd _))) (mo_d (mo_l (mo_cmpge _ _)) (mo_d (mo_l (mo_aload _ _)) (mo_l (mo_iload _ _))))) (mo_d (mo_d (mo_l (mo_iald _)) (mo_d (mo_l (mo_ic _ _)) (mo_l (mo_idiv _)))) (mo_d (mo_l (mo_ic _ _)) (mo_d (mo_l (mo_irem _)) (mo_l (mo_istore _ _))))))) (mo_d (mo_d (mo_d (mo_d (mo_l (mo_iload _ _)) (mo_l (mo_iload _ _))) (mo_d (mo_l (mo_ic _ _)) (mo_d (mo_l (mo_irem _)) (mo_l (mo_ifle _ _))))) (mo_d (mo_d (mo_l (mo_iload _ _)) (mo_l (mo_ic _ _))) (mo_d (mo_l (mo_idiv _)) (mo_d (mo_l (mo_ic _ _)) (mo_l (mo_irem _)))))) (mo_d (mo_d (mo_d (mo_l (mo_iload _ _)) (mo_l (mo_cmpne _ _))) (mo_d (mo_l (mo_ic _ _)) (mo_d (mo_l (mo_goto _)) (mo_l (mo_ic _ _))))) (mo_d (mo_d (mo_l (mo_iadd _)) (mo_d (mo_l (mo_istore _ _)) (mo_l (mo_iinc _ _ _)))) (mo_d (mo_l (mo_goto _)) (mo_d (mo_l (mo_iload _ _)) (mo_l (mo_rI))))))))
def zc_L_isBoard (G : Nat × Nat) : Nat → zSem := fun pc =>
 znd pc 497
 (znd pc 240
 (znd pc 107
 (znd pc 51
 (znd pc 25
 (znd pc 15
 (znd pc 8
 (znd pc 5
 (znd pc 2
 (zlf pc 0 (s_iload 9 2))
 (zlf pc 2 (s_ifne 47 5)))
 (znd pc 7
 (zlf pc 5 (s_aload 8 7))
 (zlf pc 7 (s_ic 5 8))))
 (znd pc 10
 (znd pc 9
 (zlf pc 8 (s_iald 9))
 (zlf pc 9 (s_ic 4 10)))
 (znd pc 13
 (zlf pc 10 (s_cmpge 47 13))
 (zlf pc 13 (s_aload 8 15)))))
 (znd pc 19
 (znd pc 17
 (znd pc 16
 (zlf pc 15 (s_ic 5 16))
 (zlf pc 16 (s_dup2 17)))
 (znd pc 18
 (zlf pc 17 (s_iald 18))
 (zlf pc 18 (s_ic 1 19))))
 (znd pc 21
 (znd pc 20
 (zlf pc 19 (s_iadd 20))
 (zlf pc 20 (s_iast 21)))
 (znd pc 22
 (zlf pc 21 (s_aload 0 22))
 (znd pc 24
 (zlf pc 22 (s_ic 11 24))
 (zlf pc 24 (s_ic 0 25)))))))
 (znd pc 36
 (znd pc 29
 (znd pc 27
 (znd pc 26
 (zlf pc 25 (s_ic 0 26))
 (zlf pc 26 (s_ic 0 27)))
 (znd pc 28
 (zlf pc 27 (s_ic 0 28))
 (zlf pc 28 (s_ic 0 29))))
 (znd pc 34
 (znd pc 32
 (zlf pc 29 (s_cI zpS 207 7 [zU] zx0 32))
 (zlf pc 32 (s_aload 8 34)))
 (znd pc 35
 (zlf pc 34 (s_ic 5 35))
 (zlf pc 35 (s_iald 36)))))
 (znd pc 42
 (znd pc 38
 (znd pc 37
 (zlf pc 36 (s_ic 1 37))
 (zlf pc 37 (s_isub 38)))
 (znd pc 41
 (zlf pc 38 (s_cmpne 45 41))
 (zlf pc 41 (s_ic 1 42))))
 (znd pc 46
 (znd pc 45
 (zlf pc 42 (s_goto 46))
 (zlf pc 45 (s_ic 0 46)))
 (znd pc 47
 (zlf pc 46 (s_rZ))
 (znd pc 49
 (zlf pc 47 (s_iload 10 49))
 (zlf pc 49 (s_aload 8 51))))))))
 (znd pc 79
 (znd pc 62
 (znd pc 55
 (znd pc 53
 (znd pc 52
 (zlf pc 51 (s_ic 5 52))
 (zlf pc 52 (s_iald 53)))
 (znd pc 54
 (zlf pc 53 (s_ic 1 54))
 (zlf pc 54 (s_iadd 55))))
 (znd pc 58
 (znd pc 56
 (zlf pc 55 (s_irem 56))
 (zlf pc 56 (s_istore 12 58)))
 (znd pc 60
 (zlf pc 58 (s_iload 11 60))
 (zlf pc 60 (s_ic 9 62)))))
 (znd pc 70
 (znd pc 65
 (znd pc 63
 (zlf pc 62 (s_irem 63))
 (zlf pc 63 (s_ic 8 65)))
 (znd pc 68
 (zlf pc 65 (s_cmpne 73 68))
 (zlf pc 68 (s_ic 8 70))))
 (znd pc 75
 (znd pc 73
 (zlf pc 70 (s_goto 77))
 (zlf pc 73 (s_iload 11 75)))
 (znd pc 76
 (zlf pc 75 (s_ic 4 76))
 (znd pc 77
 (zlf pc 76 (s_irem 77))
 (zlf pc 77 (s_istore 13 79)))))))
 (znd pc 91
 (znd pc 86
 (znd pc 83
 (znd pc 81
 (zlf pc 79 (s_iload 11 81))
 (zlf pc 81 (s_ic 9 83)))
 (znd pc 84
 (zlf pc 83 (s_idiv 84))
 (zlf pc 84 (s_aload 8 86))))
 (znd pc 88
 (znd pc 87
 (zlf pc 86 (s_ic 4 87))
 (zlf pc 87 (s_iald 88)))
 (znd pc 89
 (zlf pc 88 (s_ic 1 89))
 (znd pc 90
 (zlf pc 89 (s_iadd 90))
 (zlf pc 90 (s_irem 91))))))
 (znd pc 98
 (znd pc 95
 (znd pc 93
 (zlf pc 91 (s_istore 14 93))
 (zlf pc 93 (s_iload 12 95)))
 (znd pc 97
 (zlf pc 95 (s_aload 8 97))
 (zlf pc 97 (s_ic 5 98))))
 (znd pc 102
 (znd pc 99
 (zlf pc 98 (s_iald 99))
 (zlf pc 99 (s_cmpge 106 102)))
 (znd pc 103
 (zlf pc 102 (s_ic 1 103))
 (znd pc 106
 (zlf pc 103 (s_goto 107))
 (zlf pc 106 (s_ic 0 107)))))))))
 (znd pc 176
 (znd pc 142
 (znd pc 125
 (znd pc 116
 (znd pc 111
 (znd pc 109
 (zlf pc 107 (s_istore 15 109))
 (zlf pc 109 (s_iload 15 111)))
 (znd pc 114
 (zlf pc 111 (s_ifeq 125 114))
 (zlf pc 114 (s_iload 13 116))))
 (znd pc 121
 (znd pc 118
 (zlf pc 116 (s_ic 8 118))
 (zlf pc 118 (s_cmpge 125 121)))
 (znd pc 122
 (zlf pc 121 (s_ic 1 122))
 (zlf pc 122 (s_goto 126)))))
 (znd pc 133
 (znd pc 128
 (znd pc 126
 (zlf pc 125 (s_ic 0 126))
 (zlf pc 126 (s_istore 16 128)))
 (znd pc 130
 (zlf pc 128 (s_iload 16 130))
 (zlf pc 130 (s_ifeq 146 133))))
 (znd pc 137
 (znd pc 135
 (zlf pc 133 (s_iload 14 135))
 (zlf pc 135 (s_aload 8 137)))
 (znd pc 138
 (zlf pc 137 (s_ic 4 138))
 (znd pc 139
 (zlf pc 138 (s_iald 139))
 (zlf pc 139 (s_cmpge 146 142)))))))
 (znd pc 159
 (znd pc 149
 (znd pc 146
 (znd pc 143
 (zlf pc 142 (s_ic 1 143))
 (zlf pc 143 (s_goto 147)))
 (znd pc 147
 (zlf pc 146 (s_ic 0 147))
 (zlf pc 147 (s_istore 17 149))))
 (znd pc 154
 (znd pc 151
 (zlf pc 149 (s_iload 16 151))
 (zlf pc 151 (s_ifeq 165 154)))
 (znd pc 156
 (zlf pc 154 (s_ic 8 156))
 (znd pc 158
 (zlf pc 156 (s_iload 12 158))
 (zlf pc 158 (s_imul 159))))))
 (znd pc 166
 (znd pc 162
 (znd pc 161
 (zlf pc 159 (s_iload 13 161))
 (zlf pc 161 (s_iadd 162)))
 (znd pc 165
 (zlf pc 162 (s_goto 166))
 (zlf pc 165 (s_ic 0 166))))
 (znd pc 170
 (znd pc 168
 (zlf pc 166 (s_istore 18 168))
 (zlf pc 168 (s_iload 9 170)))
 (znd pc 171
 (zlf pc 170 (s_ic 2 171))
 (znd pc 174
 (zlf pc 171 (s_cmpge 294 174))
 (zlf pc 174 (s_iload 17 176))))))))
 (znd pc 209
 (znd pc 192
 (znd pc 184
 (znd pc 181
 (znd pc 179
 (zlf pc 176 (s_ifeq 212 179))
 (zlf pc 179 (s_aload 7 181)))
 (znd pc 183
 (zlf pc 181 (s_iload 12 183))
 (zlf pc 183 (s_iald 184))))
 (znd pc 189
 (znd pc 187
 (zlf pc 184 (s_ifne 212 187))
 (zlf pc 187 (s_aload 5 189)))
 (znd pc 191
 (zlf pc 189 (s_iload 18 191))
 (zlf pc 191 (s_iald 192)))))
 (znd pc 198
 (znd pc 196
 (znd pc 195
 (zlf pc 192 (s_ifne 212 195))
 (zlf pc 195 (s_aload 1 196)))
 (znd pc 197
 (zlf pc 196 (s_aload 2 197))
 (zlf pc 197 (s_aload 3 198))))
 (znd pc 202
 (znd pc 200
 (zlf pc 198 (s_aload 4 200))
 (zlf pc 200 (s_iload 14 202)))
 (znd pc 205
 (zlf pc 202 (s_cI zpS 214 5 [] zx0 205))
 (znd pc 208
 (zlf pc 205 (s_ifeq 212 208))
 (zlf pc 208 (s_ic 1 209)))))))
 (znd pc 227
 (znd pc 217
 (znd pc 213
 (znd pc 212
 (zlf pc 209 (s_goto 213))
 (zlf pc 212 (s_ic 0 213)))
 (znd pc 215
 (zlf pc 213 (s_istore 19 215))
 (zlf pc 215 (s_iload 19 217))))
 (znd pc 222
 (znd pc 220
 (zlf pc 217 (s_ifeq 247 220))
 (zlf pc 220 (s_aload 5 222)))
 (znd pc 224
 (zlf pc 222 (s_iload 18 224))
 (znd pc 226
 (zlf pc 224 (s_iload 14 226))
 (zlf pc 226 (s_ic 1 227))))))
 (znd pc 233
 (znd pc 229
 (znd pc 228
 (zlf pc 227 (s_iadd 228))
 (zlf pc 228 (s_iast 229)))
 (znd pc 231
 (zlf pc 229 (s_aload 6 231))
 (zlf pc 231 (s_iload 18 233))))
 (znd pc 237
 (znd pc 235
 (zlf pc 233 (s_aload 4 235))
 (zlf pc 235 (s_ic 17 237)))
 (znd pc 238
 (zlf pc 237 (s_iald 238))
 (znd pc 239
 (zlf pc 238 (s_iast 239))
 (zlf pc 239 (s_aload 2 240))))))))))
 (znd pc 370
 (znd pc 305
 (znd pc 268
 (znd pc 250
 (znd pc 245
 (znd pc 243
 (znd pc 242
 (zlf pc 240 (s_iload 14 242))
 (zlf pc 242 (s_dup2 243)))
 (znd pc 244
 (zlf pc 243 (s_iald 244))
 (zlf pc 244 (s_ic 1 245))))
 (znd pc 247
 (znd pc 246
 (zlf pc 245 (s_isub 246))
 (zlf pc 246 (s_iast 247)))
 (znd pc 248
 (zlf pc 247 (s_aload 0 248))
 (zlf pc 248 (s_ic 12 250)))))
 (znd pc 257
 (znd pc 254
 (znd pc 252
 (zlf pc 250 (s_iload 12 252))
 (zlf pc 252 (s_iload 13 254)))
 (znd pc 256
 (zlf pc 254 (s_iload 14 256))
 (zlf pc 256 (s_ic 0 257))))
 (znd pc 261
 (znd pc 258
 (zlf pc 257 (s_ic 0 258))
 (zlf pc 258 (s_cI zpS 207 7 [zU] zx0 261)))
 (znd pc 263
 (zlf pc 261 (s_iload 17 263))
 (znd pc 266
 (zlf pc 263 (s_ifne 271 266))
 (zlf pc 266 (s_ic (-3000000) 268)))))))
 (znd pc 288
 (znd pc 277
 (znd pc 273
 (znd pc 271
 (zlf pc 268 (s_goto 285))
 (zlf pc 271 (s_iload 19 273)))
 (znd pc 276
 (zlf pc 273 (s_ifeq 283 276))
 (zlf pc 276 (s_aload 2 277))))
 (znd pc 280
 (znd pc 279
 (zlf pc 277 (s_iload 14 279))
 (zlf pc 279 (s_iald 280)))
 (znd pc 283
 (zlf pc 280 (s_goto 285))
 (znd pc 285
 (zlf pc 283 (s_ic (-1000000) 285))
 (zlf pc 285 (s_cmpne 292 288))))))
 (znd pc 294
 (znd pc 292
 (znd pc 289
 (zlf pc 288 (s_ic 1 289))
 (zlf pc 289 (s_goto 293)))
 (znd pc 293
 (zlf pc 292 (s_ic 0 293))
 (zlf pc 293 (s_rZ))))
 (znd pc 297
 (znd pc 296
 (zlf pc 294 (s_iload 9 296))
 (zlf pc 296 (s_ic 2 297)))
 (znd pc 300
 (zlf pc 297 (s_cmpne 399 300))
 (znd pc 302
 (zlf pc 300 (s_iload 15 302))
 (zlf pc 302 (s_ifeq 317 305))))))))
 (znd pc 339
 (znd pc 320
 (znd pc 313
 (znd pc 309
 (znd pc 307
 (zlf pc 305 (s_aload 7 307))
 (zlf pc 307 (s_iload 12 309)))
 (znd pc 310
 (zlf pc 309 (s_iald 310))
 (zlf pc 310 (s_ifne 317 313))))
 (znd pc 317
 (znd pc 314
 (zlf pc 313 (s_ic 1 314))
 (zlf pc 314 (s_goto 318)))
 (znd pc 318
 (zlf pc 317 (s_ic 0 318))
 (zlf pc 318 (s_istore 19 320)))))
 (znd pc 328
 (znd pc 325
 (znd pc 322
 (zlf pc 320 (s_iload 19 322))
 (zlf pc 322 (s_ifeq 338 325)))
 (znd pc 326
 (zlf pc 325 (s_aload 1 326))
 (zlf pc 326 (s_aload 4 328))))
 (znd pc 332
 (znd pc 330
 (zlf pc 328 (s_aload 5 330))
 (zlf pc 330 (s_iload 12 332)))
 (znd pc 335
 (zlf pc 332 (s_cI zpS 220 4 [zU, zU, zU, zU, zU, zU] zx0 335))
 (znd pc 338
 (zlf pc 335 (s_goto 339))
 (zlf pc 338 (s_ic 0 339)))))))
 (znd pc 356
 (znd pc 348
 (znd pc 343
 (znd pc 341
 (zlf pc 339 (s_istore 20 341))
 (zlf pc 341 (s_aload 7 343)))
 (znd pc 345
 (zlf pc 343 (s_iload 19 345))
 (zlf pc 345 (s_ifeq 353 348))))
 (znd pc 353
 (znd pc 350
 (zlf pc 348 (s_iload 12 350))
 (zlf pc 350 (s_goto 354)))
 (znd pc 354
 (zlf pc 353 (s_ic 4 354))
 (znd pc 355
 (zlf pc 354 (s_ic 1 355))
 (zlf pc 355 (s_iast 356))))))
 (znd pc 362
 (znd pc 359
 (znd pc 357
 (zlf pc 356 (s_aload 0 357))
 (zlf pc 357 (s_ic 14 359)))
 (znd pc 361
 (zlf pc 359 (s_iload 12 361))
 (zlf pc 361 (s_ic 0 362))))
 (znd pc 364
 (znd pc 363
 (zlf pc 362 (s_ic 0 363))
 (zlf pc 363 (s_ic 0 364)))
 (znd pc 365
 (zlf pc 364 (s_ic 0 365))
 (znd pc 368
 (zlf pc 365 (s_cI zpS 207 7 [zU] zx0 368))
 (zlf pc 368 (s_iload 15 370)))))))))
 (znd pc 438
 (znd pc 407
 (znd pc 390
 (znd pc 380
 (znd pc 375
 (znd pc 373
 (zlf pc 370 (s_ifne 378 373))
 (zlf pc 373 (s_ic (-3000000) 375)))
 (znd pc 378
 (zlf pc 375 (s_goto 390))
 (zlf pc 378 (s_iload 19 380))))
 (znd pc 385
 (znd pc 383
 (zlf pc 380 (s_ifeq 388 383))
 (zlf pc 383 (s_iload 20 385)))
 (znd pc 388
 (zlf pc 385 (s_goto 390))
 (zlf pc 388 (s_ic (-1000000) 390)))))
 (znd pc 398
 (znd pc 394
 (znd pc 393
 (zlf pc 390 (s_cmpne 397 393))
 (zlf pc 393 (s_ic 1 394)))
 (znd pc 397
 (zlf pc 394 (s_goto 398))
 (zlf pc 397 (s_ic 0 398))))
 (znd pc 401
 (znd pc 399
 (zlf pc 398 (s_rZ))
 (zlf pc 399 (s_iload 9 401)))
 (znd pc 402
 (zlf pc 401 (s_ic 3 402))
 (znd pc 405
 (zlf pc 402 (s_cmpne 520 405))
 (zlf pc 405 (s_iload 16 407)))))))
 (znd pc 423
 (znd pc 415
 (znd pc 412
 (znd pc 410
 (zlf pc 407 (s_ifeq 445 410))
 (zlf pc 410 (s_aload 7 412)))
 (znd pc 414
 (zlf pc 412 (s_iload 12 414))
 (zlf pc 414 (s_iald 415))))
 (znd pc 417
 (znd pc 416
 (zlf pc 415 (s_ic 2 416))
 (zlf pc 416 (s_irem 417)))
 (znd pc 418
 (zlf pc 417 (s_ic 1 418))
 (znd pc 421
 (zlf pc 418 (s_cmpne 445 421))
 (zlf pc 421 (s_aload 7 423))))))
 (znd pc 430
 (znd pc 426
 (znd pc 425
 (zlf pc 423 (s_iload 12 425))
 (zlf pc 425 (s_iald 426)))
 (znd pc 427
 (zlf pc 426 (s_ic 4 427))
 (zlf pc 427 (s_cmpge 445 430))))
 (znd pc 434
 (znd pc 432
 (zlf pc 430 (s_aload 5 432))
 (zlf pc 432 (s_iload 18 434)))
 (znd pc 435
 (zlf pc 434 (s_iald 435))
 (znd pc 437
 (zlf pc 435 (s_ic 64 437))
 (zlf pc 437 (s_irem 438))))))))
 (znd pc 469
 (znd pc 455
 (znd pc 446
 (znd pc 442
 (znd pc 441
 (zlf pc 438 (s_ifle 445 441))
 (zlf pc 441 (s_ic 1 442)))
 (znd pc 445
 (zlf pc 442 (s_goto 446))
 (zlf pc 445 (s_ic 0 446))))
 (znd pc 450
 (znd pc 448
 (zlf pc 446 (s_istore 19 448))
 (zlf pc 448 (s_iload 19 450)))
 (znd pc 453
 (zlf pc 450 (s_ifeq 477 453))
 (zlf pc 453 (s_aload 5 455)))))
 (znd pc 461
 (znd pc 458
 (znd pc 457
 (zlf pc 455 (s_iload 18 457))
 (zlf pc 457 (s_dup2 458)))
 (znd pc 459
 (zlf pc 458 (s_iald 459))
 (zlf pc 459 (s_ic 64 461))))
 (znd pc 464
 (znd pc 462
 (zlf pc 461 (s_ic 3 462))
 (zlf pc 462 (s_aload 5 464)))
 (znd pc 466
 (zlf pc 464 (s_iload 18 466))
 (znd pc 467
 (zlf pc 466 (s_iald 467))
 (zlf pc 467 (s_ic 64 469)))))))
 (znd pc 480
 (znd pc 474
 (znd pc 472
 (znd pc 470
 (zlf pc 469 (s_idiv 470))
 (zlf pc 470 (s_ic 8 472)))
 (znd pc 473
 (zlf pc 472 (s_irem 473))
 (zlf pc 473 (s_isub 474))))
 (znd pc 476
 (znd pc 475
 (zlf pc 474 (s_imul 475))
 (zlf pc 475 (s_iadd 476)))
 (znd pc 477
 (zlf pc 476 (s_iast 477))
 (znd pc 478
 (zlf pc 477 (s_aload 0 478))
 (zlf pc 478 (s_ic 15 480))))))
 (znd pc 486
 (znd pc 484
 (znd pc 482
 (zlf pc 480 (s_iload 12 482))
 (zlf pc 482 (s_iload 13 484)))
 (znd pc 485
 (zlf pc 484 (s_ic 0 485))
 (zlf pc 485 (s_ic 0 486))))
 (znd pc 490
 (znd pc 487
 (zlf pc 486 (s_ic 0 487))
 (zlf pc 487 (s_cI zpS 207 7 [zU] zx0 490)))
 (znd pc 492
 (zlf pc 490 (s_iload 16 492))
 (znd pc 495
 (zlf pc 492 (s_ifne 500 495))
 (zlf pc 495 (s_ic (-3000000) 497)))))))))))
 (znd pc 755
 (znd pc 624
 (znd pc 563
 (znd pc 533
 (znd pc 515
 (znd pc 506
 (znd pc 502
 (znd pc 500
 (zlf pc 497 (s_goto 511))
 (zlf pc 500 (s_iload 19 502)))
 (znd pc 505
 (zlf pc 502 (s_ifeq 509 505))
 (zlf pc 505 (s_ic 0 506))))
 (znd pc 511
 (znd pc 509
 (zlf pc 506 (s_goto 511))
 (zlf pc 509 (s_ic (-1000000) 511)))
 (znd pc 514
 (zlf pc 511 (s_cmpne 518 514))
 (zlf pc 514 (s_ic 1 515)))))
 (znd pc 522
 (znd pc 519
 (znd pc 518
 (zlf pc 515 (s_goto 519))
 (zlf pc 518 (s_ic 0 519)))
 (znd pc 520
 (zlf pc 519 (s_rZ))
 (zlf pc 520 (s_iload 9 522))))
 (znd pc 526
 (znd pc 523
 (zlf pc 522 (s_ic 4 523))
 (zlf pc 523 (s_cmpne 708 526)))
 (znd pc 528
 (zlf pc 526 (s_iload 15 528))
 (znd pc 531
 (zlf pc 528 (s_ifeq 555 531))
 (zlf pc 531 (s_aload 7 533)))))))
 (znd pc 547
 (znd pc 538
 (znd pc 536
 (znd pc 535
 (zlf pc 533 (s_iload 12 535))
 (zlf pc 535 (s_iald 536)))
 (znd pc 537
 (zlf pc 536 (s_ic 2 537))
 (zlf pc 537 (s_irem 538))))
 (znd pc 542
 (znd pc 539
 (zlf pc 538 (s_ic 1 539))
 (zlf pc 539 (s_cmpne 555 542)))
 (znd pc 544
 (zlf pc 542 (s_aload 7 544))
 (znd pc 546
 (zlf pc 544 (s_iload 12 546))
 (zlf pc 546 (s_iald 547))))))
 (znd pc 555
 (znd pc 551
 (znd pc 548
 (zlf pc 547 (s_ic 4 548))
 (zlf pc 548 (s_cmpge 555 551)))
 (znd pc 552
 (zlf pc 551 (s_ic 1 552))
 (zlf pc 552 (s_goto 556))))
 (znd pc 558
 (znd pc 556
 (zlf pc 555 (s_ic 0 556))
 (zlf pc 556 (s_istore 19 558)))
 (znd pc 559
 (zlf pc 558 (s_ic 0 559))
 (znd pc 561
 (zlf pc 559 (s_istore 20 561))
 (zlf pc 561 (s_iload 20 563))))))))
 (znd pc 594
 (znd pc 580
 (znd pc 573
 (znd pc 568
 (znd pc 565
 (zlf pc 563 (s_ic 8 565))
 (zlf pc 565 (s_cmpge 644 568)))
 (znd pc 570
 (zlf pc 568 (s_iload 19 570))
 (zlf pc 570 (s_ifeq 644 573))))
 (znd pc 577
 (znd pc 575
 (zlf pc 573 (s_aload 5 575))
 (zlf pc 575 (s_ic 8 577)))
 (znd pc 579
 (zlf pc 577 (s_iload 12 579))
 (zlf pc 579 (s_imul 580)))))
 (znd pc 586
 (znd pc 583
 (znd pc 582
 (zlf pc 580 (s_iload 20 582))
 (zlf pc 582 (s_iadd 583)))
 (znd pc 584
 (zlf pc 583 (s_iald 584))
 (zlf pc 584 (s_ic 64 586))))
 (znd pc 589
 (znd pc 587
 (zlf pc 586 (s_idiv 587))
 (zlf pc 587 (s_ic 8 589)))
 (znd pc 590
 (zlf pc 589 (s_irem 590))
 (znd pc 592
 (zlf pc 590 (s_istore 21 592))
 (zlf pc 592 (s_aload 5 594)))))))
 (znd pc 609
 (znd pc 601
 (znd pc 598
 (znd pc 596
 (zlf pc 594 (s_ic 8 596))
 (zlf pc 596 (s_iload 12 598)))
 (znd pc 599
 (zlf pc 598 (s_imul 599))
 (zlf pc 599 (s_iload 20 601))))
 (znd pc 603
 (znd pc 602
 (zlf pc 601 (s_iadd 602))
 (zlf pc 602 (s_dup2 603)))
 (znd pc 604
 (zlf pc 603 (s_iald 604))
 (znd pc 606
 (zlf pc 604 (s_iload 21 606))
 (zlf pc 606 (s_ifle 635 609))))))
 (znd pc 617
 (znd pc 612
 (znd pc 611
 (zlf pc 609 (s_iload 21 611))
 (zlf pc 611 (s_ic 4 612)))
 (znd pc 615
 (zlf pc 612 (s_cmpge 635 615))
 (zlf pc 615 (s_aload 4 617))))
 (znd pc 620
 (znd pc 619
 (zlf pc 617 (s_ic 16 619))
 (zlf pc 619 (s_iald 620)))
 (znd pc 622
 (zlf pc 620 (s_iload 20 622))
 (znd pc 623
 (zlf pc 622 (s_ishr 623))
 (zlf pc 623 (s_ic 1 624)))))))))
 (znd pc 691
 (znd pc 658
 (znd pc 638
 (znd pc 632
 (znd pc 626
 (znd pc 625
 (zlf pc 624 (s_iand 625))
 (zlf pc 625 (s_ic 1 626)))
 (znd pc 629
 (zlf pc 626 (s_cmpne 635 629))
 (zlf pc 629 (s_ic 256 632))))
 (znd pc 636
 (znd pc 635
 (zlf pc 632 (s_goto 636))
 (zlf pc 635 (s_ic 0 636)))
 (znd pc 637
 (zlf pc 636 (s_iadd 637))
 (zlf pc 637 (s_iast 638)))))
 (znd pc 648
 (znd pc 644
 (znd pc 641
 (zlf pc 638 (s_iinc 20 1 641))
 (zlf pc 641 (s_goto 561)))
 (znd pc 646
 (zlf pc 644 (s_aload 7 646))
 (zlf pc 646 (s_iload 19 648))))
 (znd pc 653
 (znd pc 651
 (zlf pc 648 (s_ifeq 656 651))
 (zlf pc 651 (s_iload 12 653)))
 (znd pc 656
 (zlf pc 653 (s_goto 657))
 (znd pc 657
 (zlf pc 656 (s_ic 4 657))
 (zlf pc 657 (s_ic 3 658)))))))
 (znd pc 671
 (znd pc 664
 (znd pc 660
 (znd pc 659
 (zlf pc 658 (s_iast 659))
 (zlf pc 659 (s_aload 0 660)))
 (znd pc 662
 (zlf pc 660 (s_ic 17 662))
 (zlf pc 662 (s_iload 12 664))))
 (znd pc 666
 (znd pc 665
 (zlf pc 664 (s_ic 0 665))
 (zlf pc 665 (s_ic 0 666)))
 (znd pc 667
 (zlf pc 666 (s_ic 0 667))
 (znd pc 668
 (zlf pc 667 (s_ic 0 668))
 (zlf pc 668 (s_cI zpS 207 7 [zU] zx0 671))))))
 (znd pc 681
 (znd pc 676
 (znd pc 673
 (zlf pc 671 (s_iload 15 673))
 (zlf pc 673 (s_ifne 681 676)))
 (znd pc 678
 (zlf pc 676 (s_ic (-3000000) 678))
 (zlf pc 678 (s_goto 699))))
 (znd pc 686
 (znd pc 683
 (zlf pc 681 (s_iload 19 683))
 (zlf pc 683 (s_ifeq 697 686)))
 (znd pc 688
 (zlf pc 686 (s_aload 5 688))
 (znd pc 690
 (zlf pc 688 (s_iload 12 690))
 (zlf pc 690 (s_ic 1 691))))))))
 (znd pc 727
 (znd pc 708
 (znd pc 702
 (znd pc 697
 (znd pc 694
 (zlf pc 691 (s_cI zpS 216 3 [zU, zU, zU] zx0 694))
 (zlf pc 694 (s_goto 699)))
 (znd pc 699
 (zlf pc 697 (s_ic (-1000000) 699))
 (zlf pc 699 (s_cmpne 706 702))))
 (znd pc 706
 (znd pc 703
 (zlf pc 702 (s_ic 1 703))
 (zlf pc 703 (s_goto 707)))
 (znd pc 707
 (zlf pc 706 (s_ic 0 707))
 (zlf pc 707 (s_rZ)))))
 (znd pc 716
 (znd pc 711
 (znd pc 710
 (zlf pc 708 (s_iload 9 710))
 (zlf pc 710 (s_ic 5 711)))
 (znd pc 714
 (zlf pc 711 (s_cmpne 915 714))
 (zlf pc 714 (s_iload 17 716))))
 (znd pc 721
 (znd pc 719
 (zlf pc 716 (s_ifeq 805 719))
 (zlf pc 719 (s_aload 5 721)))
 (znd pc 723
 (zlf pc 721 (s_iload 18 723))
 (znd pc 724
 (zlf pc 723 (s_iald 724))
 (zlf pc 724 (s_ic 256 727)))))))
 (znd pc 742
 (znd pc 731
 (znd pc 729
 (znd pc 728
 (zlf pc 727 (s_idiv 728))
 (zlf pc 728 (s_ic 2 729)))
 (znd pc 730
 (zlf pc 729 (s_irem 730))
 (zlf pc 730 (s_ic 1 731))))
 (znd pc 736
 (znd pc 734
 (zlf pc 731 (s_cmpne 805 734))
 (zlf pc 734 (s_aload 5 736)))
 (znd pc 738
 (zlf pc 736 (s_iload 18 738))
 (znd pc 739
 (zlf pc 738 (s_iald 739))
 (zlf pc 739 (s_ic 512 742))))))
 (znd pc 748
 (znd pc 744
 (znd pc 743
 (zlf pc 742 (s_idiv 743))
 (zlf pc 743 (s_ic 2 744)))
 (znd pc 745
 (zlf pc 744 (s_irem 745))
 (zlf pc 745 (s_ifne 805 748))))
 (znd pc 751
 (znd pc 749
 (zlf pc 748 (s_aload 1 749))
 (zlf pc 749 (s_iload 14 751)))
 (znd pc 752
 (zlf pc 751 (s_iald 752))
 (znd pc 754
 (zlf pc 752 (s_ic 8 754))
 (zlf pc 754 (s_irem 755))))))))))
 (znd pc 871
 (znd pc 817
 (znd pc 782
 (znd pc 768
 (znd pc 761
 (znd pc 758
 (znd pc 756
 (zlf pc 755 (s_aload 1 756))
 (zlf pc 756 (s_aload 5 758)))
 (znd pc 760
 (zlf pc 758 (s_iload 18 760))
 (zlf pc 760 (s_iald 761))))
 (znd pc 764
 (znd pc 763
 (zlf pc 761 (s_ic 64 763))
 (zlf pc 763 (s_irem 764)))
 (znd pc 767
 (zlf pc 764 (s_ifne 771 767))
 (zlf pc 767 (s_ic 0 768)))))
 (znd pc 776
 (znd pc 773
 (znd pc 771
 (zlf pc 768 (s_goto 781))
 (zlf pc 771 (s_aload 5 773)))
 (znd pc 775
 (zlf pc 773 (s_iload 18 775))
 (zlf pc 775 (s_iald 776))))
 (znd pc 779
 (znd pc 778
 (zlf pc 776 (s_ic 64 778))
 (zlf pc 778 (s_irem 779)))
 (znd pc 780
 (zlf pc 779 (s_ic 1 780))
 (znd pc 781
 (zlf pc 780 (s_isub 781))
 (zlf pc 781 (s_iald 782)))))))
 (znd pc 798
 (znd pc 789
 (znd pc 785
 (znd pc 784
 (zlf pc 782 (s_ic 8 784))
 (zlf pc 784 (s_irem 785)))
 (znd pc 788
 (zlf pc 785 (s_cmpne 805 788))
 (zlf pc 788 (s_aload 1 789))))
 (znd pc 791
 (znd pc 790
 (zlf pc 789 (s_aload 2 790))
 (zlf pc 790 (s_aload 3 791)))
 (znd pc 793
 (zlf pc 791 (s_aload 4 793))
 (znd pc 795
 (zlf pc 793 (s_iload 14 795))
 (zlf pc 795 (s_cI zpS 214 5 [] zx0 798))))))
 (znd pc 806
 (znd pc 802
 (znd pc 801
 (zlf pc 798 (s_ifeq 805 801))
 (zlf pc 801 (s_ic 1 802)))
 (znd pc 805
 (zlf pc 802 (s_goto 806))
 (zlf pc 805 (s_ic 0 806))))
 (znd pc 810
 (znd pc 808
 (zlf pc 806 (s_istore 19 808))
 (zlf pc 808 (s_iload 19 810)))
 (znd pc 813
 (zlf pc 810 (s_ifeq 864 813))
 (znd pc 815
 (zlf pc 813 (s_aload 5 815))
 (zlf pc 815 (s_iload 18 817))))))))
 (znd pc 846
 (znd pc 833
 (znd pc 825
 (znd pc 821
 (znd pc 819
 (zlf pc 817 (s_aload 5 819))
 (zlf pc 819 (s_iload 18 821)))
 (znd pc 822
 (zlf pc 821 (s_iald 822))
 (zlf pc 822 (s_ic 2048 825))))
 (znd pc 829
 (znd pc 826
 (zlf pc 825 (s_idiv 826))
 (zlf pc 826 (s_ic 2048 829)))
 (znd pc 830
 (zlf pc 829 (s_imul 830))
 (zlf pc 830 (s_ic 512 833)))))
 (znd pc 838
 (znd pc 836
 (znd pc 834
 (zlf pc 833 (s_iadd 834))
 (zlf pc 834 (s_iload 14 836)))
 (znd pc 837
 (zlf pc 836 (s_iadd 837))
 (zlf pc 837 (s_ic 1 838))))
 (znd pc 840
 (znd pc 839
 (zlf pc 838 (s_iadd 839))
 (zlf pc 839 (s_iast 840)))
 (znd pc 842
 (zlf pc 840 (s_aload 6 842))
 (znd pc 844
 (zlf pc 842 (s_iload 18 844))
 (zlf pc 844 (s_aload 4 846)))))))
 (znd pc 857
 (znd pc 851
 (znd pc 849
 (znd pc 848
 (zlf pc 846 (s_ic 17 848))
 (zlf pc 848 (s_iald 849)))
 (znd pc 850
 (zlf pc 849 (s_iast 850))
 (zlf pc 850 (s_aload 2 851))))
 (znd pc 854
 (znd pc 853
 (zlf pc 851 (s_iload 14 853))
 (zlf pc 853 (s_dup2 854)))
 (znd pc 855
 (zlf pc 854 (s_iald 855))
 (znd pc 856
 (zlf pc 855 (s_ic 1 856))
 (zlf pc 856 (s_isub 857))))))
 (znd pc 863
 (znd pc 860
 (znd pc 858
 (zlf pc 857 (s_iast 858))
 (zlf pc 858 (s_aload 7 860)))
 (znd pc 862
 (zlf pc 860 (s_iload 12 862))
 (zlf pc 862 (s_ic 1 863))))
 (znd pc 865
 (znd pc 864
 (zlf pc 863 (s_iast 864))
 (zlf pc 864 (s_aload 0 865)))
 (znd pc 867
 (zlf pc 865 (s_ic 18 867))
 (znd pc 869
 (zlf pc 867 (s_iload 12 869))
 (zlf pc 869 (s_iload 13 871)))))))))
 (znd pc 944
 (znd pc 909
 (znd pc 888
 (znd pc 878
 (znd pc 874
 (znd pc 873
 (zlf pc 871 (s_iload 14 873))
 (zlf pc 873 (s_ic 0 874)))
 (znd pc 875
 (zlf pc 874 (s_ic 0 875))
 (zlf pc 875 (s_cI zpS 207 7 [zU] zx0 878))))
 (znd pc 883
 (znd pc 880
 (zlf pc 878 (s_iload 17 880))
 (zlf pc 880 (s_ifne 888 883)))
 (znd pc 885
 (zlf pc 883 (s_ic (-3000000) 885))
 (zlf pc 885 (s_goto 906)))))
 (znd pc 897
 (znd pc 893
 (znd pc 890
 (zlf pc 888 (s_iload 19 890))
 (zlf pc 890 (s_ifeq 904 893)))
 (znd pc 895
 (zlf pc 893 (s_aload 5 895))
 (zlf pc 895 (s_iload 12 897))))
 (znd pc 901
 (znd pc 898
 (zlf pc 897 (s_ic 1 898))
 (zlf pc 898 (s_cI zpS 216 3 [zU, zU, zU] zx0 901)))
 (znd pc 904
 (zlf pc 901 (s_goto 906))
 (znd pc 906
 (zlf pc 904 (s_ic (-1000000) 906))
 (zlf pc 906 (s_cmpne 913 909)))))))
 (znd pc 925
 (znd pc 915
 (znd pc 913
 (znd pc 910
 (zlf pc 909 (s_ic 1 910))
 (zlf pc 910 (s_goto 914)))
 (znd pc 914
 (zlf pc 913 (s_ic 0 914))
 (zlf pc 914 (s_rZ))))
 (znd pc 920
 (znd pc 917
 (zlf pc 915 (s_iload 15 917))
 (zlf pc 917 (s_ifeq 944 920)))
 (znd pc 922
 (zlf pc 920 (s_aload 7 922))
 (znd pc 924
 (zlf pc 922 (s_iload 12 924))
 (zlf pc 924 (s_iald 925))))))
 (znd pc 933
 (znd pc 929
 (znd pc 926
 (zlf pc 925 (s_ic 3 926))
 (zlf pc 926 (s_cmpne 944 929)))
 (znd pc 931
 (zlf pc 929 (s_aload 5 931))
 (zlf pc 931 (s_iload 12 933))))
 (znd pc 937
 (znd pc 934
 (zlf pc 933 (s_ic 1 934))
 (zlf pc 934 (s_cI zpS 216 3 [zU, zU, zU] zx0 937)))
 (znd pc 940
 (zlf pc 937 (s_ifne 944 940))
 (znd pc 941
 (zlf pc 940 (s_ic 1 941))
 (zlf pc 941 (s_goto 945))))))))
 (znd pc 972
 (znd pc 960
 (znd pc 951
 (znd pc 947
 (znd pc 945
 (zlf pc 944 (s_ic 0 945))
 (zlf pc 945 (s_istore 19 947)))
 (znd pc 949
 (zlf pc 947 (s_aload 7 949))
 (zlf pc 949 (s_iload 19 951))))
 (znd pc 956
 (znd pc 954
 (zlf pc 951 (s_ifeq 959 954))
 (zlf pc 954 (s_iload 12 956)))
 (znd pc 959
 (zlf pc 956 (s_goto 960))
 (zlf pc 959 (s_ic 4 960)))))
 (znd pc 966
 (znd pc 963
 (znd pc 962
 (zlf pc 960 (s_ic 7 962))
 (zlf pc 962 (s_iast 963)))
 (znd pc 964
 (zlf pc 963 (s_aload 0 964))
 (zlf pc 964 (s_ic 19 966))))
 (znd pc 969
 (znd pc 968
 (zlf pc 966 (s_iload 12 968))
 (zlf pc 968 (s_ic 0 969)))
 (znd pc 970
 (zlf pc 969 (s_ic 0 970))
 (znd pc 971
 (zlf pc 970 (s_ic 0 971))
 (zlf pc 971 (s_ic 0 972)))))))
 (znd pc 994
 (znd pc 982
 (znd pc 977
 (znd pc 975
 (zlf pc 972 (s_cI zpS 207 7 [zU] zx0 975))
 (zlf pc 975 (s_iload 15 977)))
 (znd pc 980
 (zlf pc 977 (s_ifne 985 980))
 (zlf pc 980 (s_ic (-3000000) 982))))
 (znd pc 987
 (znd pc 985
 (zlf pc 982 (s_goto 1003))
 (zlf pc 985 (s_iload 19 987)))
 (znd pc 990
 (zlf pc 987 (s_ifeq 1001 990))
 (znd pc 992
 (zlf pc 990 (s_aload 5 992))
 (zlf pc 992 (s_iload 12 994))))))
 (znd pc 1003
 (znd pc 998
 (znd pc 995
 (zlf pc 994 (s_ic 0 995))
 (zlf pc 995 (s_cI zpS 216 3 [zU, zU, zU] zx0 998)))
 (znd pc 1001
 (zlf pc 998 (s_goto 1003))
 (zlf pc 1001 (s_ic (-1000000) 1003))))
 (znd pc 1007
 (znd pc 1006
 (zlf pc 1003 (s_cmpne 1010 1006))
 (zlf pc 1006 (s_ic 1 1007)))
 (znd pc 1010
 (zlf pc 1007 (s_goto 1011))
 (znd pc 1011
 (zlf pc 1010 (s_ic 0 1011))
 (zlf pc 1011 (s_rZ)))))))))))
theorem zm_L_isBoard (G : Nat × Nat) (pc : Nat) : zMon (zc_L_isBoard G pc) := (mo_d (mo_d (mo_d (mo_d (mo_d (mo_d (mo_d (mo_d (mo_d (mo_l (mo_iload _ _)) (mo_l (mo_ifne _ _))) (mo_d (mo_l (mo_aload _ _)) (mo_l (mo_ic _ _)))) (mo_d (mo_d (mo_l (mo_iald _)) (mo_l (mo_ic _ _))) (mo_d (mo_l (mo_cmpge _ _)) (mo_l (mo_aload _ _))))) (mo_d (mo_d (mo_d (mo_l (mo_ic _ _)) (mo_l (mo_dup2 _))) (mo_d (mo_l (mo_iald _)) (mo_l (mo_ic _ _)))) (mo_d (mo_d (mo_l (mo_iadd _)) (mo_l (mo_iast _))) (mo_d (mo_l (mo_aload _ _)) (mo_d (mo_l (mo_ic _ _)) (mo_l (mo_ic _ _))))))) (mo_d (mo_d (mo_d (mo_d (mo_l (mo_ic _ _)) (mo_l (mo_ic _ _))) (mo_d (mo_l (mo_ic _ _)) (mo_l (mo_ic _ _)))) (mo_d (mo_d (mo_l (mo_cI _ _ _ _ zPre_S zHm_0)) (mo_l (mo_aload _ _))) (mo_d (mo_l (mo_ic _ _)) (mo_l (mo_iald _))))) (mo_d (mo_d (mo_d (mo_l (mo_ic _ _)) (mo_l (mo_isub _))) (mo_d (mo_l (mo_cmpne _ _)) (mo_l (mo_ic _ _)))) (mo_d (mo_d (mo_l (mo_goto _)) (mo_l (mo_ic _ _))) (mo_d (mo_l (mo_rZ)) (mo_d (mo_l (mo_iload _ _)) (mo_l (mo_aload _ _)))))))) (mo_d (mo_d (mo_d (mo_d (mo_d (mo_l (mo_ic _ _)) (mo_l (mo_iald _))) (mo_d (mo_l (mo_ic _ _)) (mo_l (mo_iadd _)))) (mo_d (mo_d (mo_l (mo_irem _)) (mo_l (mo_istore _ _))) (mo_d (mo_l (mo_iload _ _)) (mo_l (mo_ic _ _))))) (mo_d (mo_d (mo_d (mo_l (mo_irem _)) (mo_l (mo_ic _ _))) (mo_d (mo_l (mo_cmpne _ _)) (mo_l (mo_ic _ _)))) (mo_d (mo_d (mo_l (mo_goto _)) (mo_l (mo_iload _ _))) (mo_d (mo_l (mo_ic _ _)) (mo_d (mo_l (mo_irem _)) (mo_l (mo_istore _ _))))))) (mo_d (mo_d (mo_d (mo_d (mo_l (mo_iload _ _)) (mo_l (mo_ic _ _))) (mo_d (mo_l (mo_idiv _)) (mo_l (mo_aload _ _)))) (mo_d (mo_d (mo_l (mo_ic _ _)) (mo_l (mo_iald _))) (mo_d (mo_l (mo_ic _ _)) (mo_d (mo_l (mo_iadd _)) (mo_l (mo_irem _)))))) (mo_d (mo_d (mo_d (mo_l (mo_istore _ _)) (mo_l (mo_iload _ _))) (mo_d (mo_l (mo_aload _ _)) (mo_l (mo_ic _ _)))) (mo_d (mo_d (mo_l (mo_iald _)) (mo_l (mo_cmpge _ _))) (mo_d (mo_l (mo_ic _ _)) (mo_d (mo_l (mo_goto _)) (mo_l (mo_ic _ _))))))))) (mo_d (mo_d (mo_d (mo_d (mo_d (mo_d (mo_l (mo_istore _ _)) (mo_l (mo_iload _ _))) (mo_d (mo_l (mo_ifeq _ _)) (mo_l (mo_iload _ _)))) (mo_d (mo_d (mo_l (mo_ic _ _)) (mo_l (mo_cmpge _ _))) (mo_d (mo_l (mo_ic _ _)) (mo_l (mo_goto _))))) (mo_d (mo_d (mo_d (mo_l (mo_ic _ _)) (mo_l (mo_istore _ _))) (mo_d (mo_l (mo_iload _ _)) (mo_l (mo_ifeq _ _)))) (mo_d (mo_d (mo_l (mo_iload _ _)) (mo_l (mo_aload _ _))) (mo_d (mo_l (mo_ic _ _)) (mo_d (mo_l (mo_iald _)) (mo_l (mo_cmpge _ _))))))) (mo_d (mo_d (mo_d (mo_d (mo_l (mo_ic _ _)) (mo_l (mo_goto _))) (mo_d (mo_l (mo_ic _ _)) (mo_l (mo_istore _ _)))) (mo_d (mo_d (mo_l (mo_iload _ _)) (mo_l (mo_ifeq _ _))) (mo_d (mo_l (mo_ic _ _)) (mo_d (mo_l (mo_iload _ _)) (mo_l (mo_imul _)))))) (mo_d (mo_d (mo_d (mo_l (mo_iload _ _)) (mo_l (mo_iadd _))) (mo_d (mo_l (mo_goto _)) (mo_l (mo_ic _ _)))) (mo_d (mo_d (mo_l (mo_istore _ _)) (mo_l (mo_iload _ _))) (mo_d (mo_l (mo_ic _ _)) (mo_d (mo_l (mo_cmpge _ _)) (mo_l (mo_iload _ _)))))))) (mo_d (mo_d (mo_d (mo_d (mo_d (mo_l (mo_ifeq _ _)) (mo_l (mo_aload _ _))) (mo_d (mo_l (mo_iload _ _)) (mo_l (mo_iald _)))) (mo_d (mo_d (mo_l (mo_ifne _ _)) (mo_l (mo_aload _ _))) (mo_d (mo_l (mo_iload _ _)) (mo_l (mo_iald _))))) (mo_d (mo_d (mo_d (mo_l (mo_ifne _ _)) (mo_l (mo_aload _ _))) (mo_d (mo_l (mo_aload _ _)) (mo_l (mo_aload _ _)))) (mo_d (mo_d (mo_l (mo_aload _ _)) (mo_l (mo_iload _ _))) (mo_d (mo_l (mo_cI _ _ _ _ zPre_S zHm_0)) (mo_d (mo_l (mo_ifeq _ _)) (mo_l (mo_ic _ _))))))) (mo_d (mo_d (mo_d (mo_d (mo_l (mo_goto _)) (mo_l (mo_ic _ _))) (mo_d (mo_l (mo_istore _ _)) (mo_l (mo_iload _ _)))) (mo_d (mo_d (mo_l (mo_ifeq _ _)) (mo_l (mo_aload _ _))) (mo_d (mo_l (mo_iload _ _)) (mo_d (mo_l (mo_iload _ _)) (mo_l (mo_ic _ _)))))) (mo_d (mo_d (mo_d (mo_l (mo_iadd _)) (mo_l (mo_iast _))) (mo_d (mo_l (mo_aload _ _)) (mo_l (mo_iload _ _)))) (mo_d (mo_d (mo_l (mo_aload _ _)) (mo_l (mo_ic _ _))) (mo_d (mo_l (mo_iald _)) (mo_d (mo_l (mo_iast _)) (mo_l (mo_aload _ _)))))))))) (mo_d (mo_d (mo_d (mo_d (mo_d (mo_d (mo_d (mo_l (mo_iload _ _)) (mo_l (mo_dup2 _))) (mo_d (mo_l (mo_iald _)) (mo_l (mo_ic _ _)))) (mo_d (mo_d (mo_l (mo_isub _)) (mo_l (mo_iast _))) (mo_d (mo_l (mo_aload _ _)) (mo_l (mo_ic _ _))))) (mo_d (mo_d (mo_d (mo_l (mo_iload _ _)) (mo_l (mo_iload _ _))) (mo_d (mo_l (mo_iload _ _)) (mo_l (mo_ic _ _)))) (mo_d (mo_d (mo_l (mo_ic _ _)) (mo_l (mo_cI _ _ _ _ zPre_S zHm_0))) (mo_d (mo_l (mo_iload _ _)) (mo_d (mo_l (mo_ifne _ _)) (mo_l (mo_ic _ _))))))) (mo_d (mo_d (mo_d (mo_d (mo_l (mo_goto _)) (mo_l (mo_iload _ _))) (mo_d (mo_l (mo_ifeq _ _)) (mo_l (mo_aload _ _)))) (mo_d (mo_d (mo_l (mo_iload _ _)) (mo_l (mo_iald _))) (mo_d (mo_l (mo_goto _)) (mo_d (mo_l (mo_ic _ _)) (mo_l (mo_cmpne _ _)))))) (mo_d (mo_d (mo_d (mo_l (mo_ic _ _)) (mo_l (mo_goto _))) (mo_d (mo_l (mo_ic _ _)) (mo_l (mo_rZ)))) (mo_d (mo_d (mo_l (mo_iload _ _)) (mo_l (mo_ic _ _))) (mo_d (mo_l (mo_cmpne _ _)) (mo_d (mo_l (mo_iload _ _)) (mo_l (mo_ifeq _ _)))))))) (mo_d (mo_d (mo_d (mo_d (mo_d (mo_l (mo_aload _ _)) (mo_l (mo_iload _ _))) (mo_d (mo_l (mo_iald _)) (mo_l (mo_ifne _ _)))) (mo_d (mo_d (mo_l (mo_ic _ _)) (mo_l (mo_goto _))) (mo_d (mo_l (mo_ic _ _)) (mo_l (mo_istore _ _))))) (mo_d (mo_d (mo_d (mo_l (mo_iload _ _)) (mo_l (mo_ifeq _ _))) (mo_d (mo_l (mo_aload _ _)) (mo_l (mo_aload _ _)))) (mo_d (mo_d (mo_l (mo_aload _ _)) (mo_l (mo_iload _ _))) (mo_d (mo_l (mo_cI _ _ _ _ zPre_S zHm_0)) (mo_d (mo_l (mo_goto _)) (mo_l (mo_ic _ _))))))) (mo_d (mo_d (mo_d (mo_d (mo_l (mo_istore _ _)) (mo_l (mo_aload _ _))) (mo_d (mo_l (mo_iload _ _)) (mo_l (mo_ifeq _ _)))) (mo_d (mo_d (mo_l (mo_iload _ _)) (mo_l (mo_goto _))) (mo_d (mo_l (mo_ic _ _)) (mo_d (mo_l (mo_ic _ _)) (mo_l (mo_iast _)))))) (mo_d (mo_d (mo_d (mo_l (mo_aload _ _)) (mo_l (mo_ic _ _))) (mo_d (mo_l (mo_iload _ _)) (mo_l (mo_ic _ _)))) (mo_d (mo_d (mo_l (mo_ic _ _)) (mo_l (mo_ic _ _))) (mo_d (mo_l (mo_ic _ _)) (mo_d (mo_l (mo_cI _ _ _ _ zPre_S zHm_0)) (mo_l (mo_iload _ _))))))))) (mo_d (mo_d (mo_d (mo_d (mo_d (mo_d (mo_l (mo_ifne _ _)) (mo_l (mo_ic _ _))) (mo_d (mo_l (mo_goto _)) (mo_l (mo_iload _ _)))) (mo_d (mo_d (mo_l (mo_ifeq _ _)) (mo_l (mo_iload _ _))) (mo_d (mo_l (mo_goto _)) (mo_l (mo_ic _ _))))) (mo_d (mo_d (mo_d (mo_l (mo_cmpne _ _)) (mo_l (mo_ic _ _))) (mo_d (mo_l (mo_goto _)) (mo_l (mo_ic _ _)))) (mo_d (mo_d (mo_l (mo_rZ)) (mo_l (mo_iload _ _))) (mo_d (mo_l (mo_ic _ _)) (mo_d (mo_l (mo_cmpne _ _)) (mo_l (mo_iload _ _))))))) (mo_d (mo_d (mo_d (mo_d (mo_l (mo_ifeq _ _)) (mo_l (mo_aload _ _))) (mo_d (mo_l (mo_iload _ _)) (mo_l (mo_iald _)))) (mo_d (mo_d (mo_l (mo_ic _ _)) (mo_l (mo_irem _))) (mo_d (mo_l (mo_ic _ _)) (mo_d (mo_l (mo_cmpne _ _)) (mo_l (mo_aload _ _)))))) (mo_d (mo_d (mo_d (mo_l (mo_iload _ _)) (mo_l (mo_iald _))) (mo_d (mo_l (mo_ic _ _)) (mo_l (mo_cmpge _ _)))) (mo_d (mo_d (mo_l (mo_aload _ _)) (mo_l (mo_iload _ _))) (mo_d (mo_l (mo_iald _)) (mo_d (mo_l (mo_ic _ _)) (mo_l (mo_irem _)))))))) (mo_d (mo_d (mo_d (mo_d (mo_d (mo_l (mo_ifle _ _)) (mo_l (mo_ic _ _))) (mo_d (mo_l (mo_goto _)) (mo_l (mo_ic _ _)))) (mo_d (mo_d (mo_l (mo_istore _ _)) (mo_l (mo_iload _ _))) (mo_d (mo_l (mo_ifeq _ _)) (mo_l (mo_aload _ _))))) (mo_d (mo_d (mo_d (mo_l (mo_iload _ _)) (mo_l (mo_dup2 _))) (mo_d (mo_l (mo_iald _)) (mo_l (mo_ic _ _)))) (mo_d (mo_d (mo_l (mo_ic _ _)) (mo_l (mo_aload _ _))) (mo_d (mo_l (mo_iload _ _)) (mo_d (mo_l (mo_iald _)) (mo_l (mo_ic _ _))))))) (mo_d (mo_d (mo_d (mo_d (mo_l (mo_idiv _)) (mo_l (mo_ic _ _))) (mo_d (mo_l (mo_irem _)) (mo_l (mo_isub _)))) (mo_d (mo_d (mo_l (mo_imul _)) (mo_l (mo_iadd _))) (mo_d (mo_l (mo_iast _)) (mo_d (mo_l (mo_aload _ _)) (mo_l (mo_ic _ _)))))) (mo_d (mo_d (mo_d (mo_l (mo_iload _ _)) (mo_l (mo_iload _ _))) (mo_d (mo_l (mo_ic _ _)) (mo_l (mo_ic _ _)))) (mo_d (mo_d (mo_l (mo_ic _ _)) (mo_l (mo_cI _ _ _ _ zPre_S zHm_0))) (mo_d (mo_l (mo_iload _ _)) (mo_d (mo_l (mo_ifne _ _)) (mo_l (mo_ic _ _))))))))))) (mo_d (mo_d (mo_d (mo_d (mo_d (mo_d (mo_d (mo_d (mo_l (mo_goto _)) (mo_l (mo_iload _ _))) (mo_d (mo_l (mo_ifeq _ _)) (mo_l (mo_ic _ _)))) (mo_d (mo_d (mo_l (mo_goto _)) (mo_l (mo_ic _ _))) (mo_d (mo_l (mo_cmpne _ _)) (mo_l (mo_ic _ _))))) (mo_d (mo_d (mo_d (mo_l (mo_goto _)) (mo_l (mo_ic _ _))) (mo_d (mo_l (mo_rZ)) (mo_l (mo_iload _ _)))) (mo_d (mo_d (mo_l (mo_ic _ _)) (mo_l (mo_cmpne _ _))) (mo_d (mo_l (mo_iload _ _)) (mo_d (mo_l (mo_ifeq _ _)) (mo_l (mo_aload _ _))))))) (mo_d (mo_d (mo_d (mo_d (mo_l (mo_iload _ _)) (mo_l (mo_iald _))) (mo_d (mo_l (mo_ic _ _)) (mo_l (mo_irem _)))) (mo_d (mo_d (mo_l (mo_ic _ _)) (mo_l (mo_cmpne _ _))) (mo_d (mo_l (mo_aload _ _)) (mo_d (mo_l (mo_iload _ _)) (mo_l (mo_iald _)))))) (mo_d (mo_d (mo_d (mo_l (mo_ic _ _)) (mo_l (mo_cmpge _ _))) (mo_d (mo_l (mo_ic _ _)) (mo_l (mo_goto _)))) (mo_d (mo_d (mo_l (mo_ic _ _)) (mo_l (mo_istore _ _))) (mo_d (mo_l (mo_ic _ _)) (mo_d (mo_l (mo_istore _ _)) (mo_l (mo_iload _ _)))))))) (mo_d (mo_d (mo_d (mo_d (mo_d (mo_l (mo_ic _ _)) (mo_l (mo_cmpge _ _))) (mo_d (mo_l (mo_iload _ _)) (mo_l (mo_ifeq _ _)))) (mo_d (mo_d (mo_l (mo_aload _ _)) (mo_l (mo_ic _ _))) (mo_d (mo_l (mo_iload _ _)) (mo_l (mo_imul _))))) (mo_d (mo_d (mo_d (mo_l (mo_iload _ _)) (mo_l (mo_iadd _))) (mo_d (mo_l (mo_iald _)) (mo_l (mo_ic _ _)))) (mo_d (mo_d (mo_l (mo_idiv _)) (mo_l (mo_ic _ _))) (mo_d (mo_l (mo_irem _)) (mo_d (mo_l (mo_istore _ _)) (mo_l (mo_aload _ _))))))) (mo_d (mo_d (mo_d (mo_d (mo_l (mo_ic _ _)) (mo_l (mo_iload _ _))) (mo_d (mo_l (mo_imul _)) (mo_l (mo_iload _ _)))) (mo_d (mo_d (mo_l (mo_iadd _)) (mo_l (mo_dup2 _))) (mo_d (mo_l (mo_iald _)) (mo_d (mo_l (mo_iload _ _)) (mo_l (mo_ifle _ _)))))) (mo_d (mo_d (mo_d (mo_l (mo_iload _ _)) (mo_l (mo_ic _ _))) (mo_d (mo_l (mo_cmpge _ _)) (mo_l (mo_aload _ _)))) (mo_d (mo_d (mo_l (mo_ic _ _)) (mo_l (mo_iald _))) (mo_d (mo_l (mo_iload _ _)) (mo_d (mo_l (mo_ishr _)) (mo_l (mo_ic _ _))))))))) (mo_d (mo_d (mo_d (mo_d (mo_d (mo_d (mo_l (mo_iand _)) (mo_l (mo_ic _ _))) (mo_d (mo_l (mo_cmpne _ _)) (mo_l (mo_ic _ _)))) (mo_d (mo_d (mo_l (mo_goto _)) (mo_l (mo_ic _ _))) (mo_d (mo_l (mo_iadd _)) (mo_l (mo_iast _))))) (mo_d (mo_d (mo_d (mo_l (mo_iinc _ _ _)) (mo_l (mo_goto _))) (mo_d (mo_l (mo_aload _ _)) (mo_l (mo_iload _ _)))) (mo_d (mo_d (mo_l (mo_ifeq _ _)) (mo_l (mo_iload _ _))) (mo_d (mo_l (mo_goto _)) (mo_d (mo_l (mo_ic _ _)) (mo_l (mo_ic _ _))))))) (mo_d (mo_d (mo_d (mo_d (mo_l (mo_iast _)) (mo_l (mo_aload _ _))) (mo_d (mo_l (mo_ic _ _)) (mo_l (mo_iload _ _)))) (mo_d (mo_d (mo_l (mo_ic _ _)) (mo_l (mo_ic _ _))) (mo_d (mo_l (mo_ic _ _)) (mo_d (mo_l (mo_ic _ _)) (mo_l (mo_cI _ _ _ _ zPre_S zHm_0)))))) (mo_d (mo_d (mo_d (mo_l (mo_iload _ _)) (mo_l (mo_ifne _ _))) (mo_d (mo_l (mo_ic _ _)) (mo_l (mo_goto _)))) (mo_d (mo_d (mo_l (mo_iload _ _)) (mo_l (mo_ifeq _ _))) (mo_d (mo_l (mo_aload _ _)) (mo_d (mo_l (mo_iload _ _)) (mo_l (mo_ic _ _)))))))) (mo_d (mo_d (mo_d (mo_d (mo_d (mo_l (mo_cI _ _ _ _ zPre_S zHm_0)) (mo_l (mo_goto _))) (mo_d (mo_l (mo_ic _ _)) (mo_l (mo_cmpne _ _)))) (mo_d (mo_d (mo_l (mo_ic _ _)) (mo_l (mo_goto _))) (mo_d (mo_l (mo_ic _ _)) (mo_l (mo_rZ))))) (mo_d (mo_d (mo_d (mo_l (mo_iload _ _)) (mo_l (mo_ic _ _))) (mo_d (mo_l (mo_cmpne _ _)) (mo_l (mo_iload _ _)))) (mo_d (mo_d (mo_l (mo_ifeq _ _)) (mo_l (mo_aload _ _))) (mo_d (mo_l (mo_iload _ _)) (mo_d (mo_l (mo_iald _)) (mo_l (mo_ic _ _))))))) (mo_d (mo_d (mo_d (mo_d (mo_l (mo_idiv _)) (mo_l (mo_ic _ _))) (mo_d (mo_l (mo_irem _)) (mo_l (mo_ic _ _)))) (mo_d (mo_d (mo_l (mo_cmpne _ _)) (mo_l (mo_aload _ _))) (mo_d (mo_l (mo_iload _ _)) (mo_d (mo_l (mo_iald _)) (mo_l (mo_ic _ _)))))) (mo_d (mo_d (mo_d (mo_l (mo_idiv _)) (mo_l (mo_ic _ _))) (mo_d (mo_l (mo_irem _)) (mo_l (mo_ifne _ _)))) (mo_d (mo_d (mo_l (mo_aload _ _)) (mo_l (mo_iload _ _))) (mo_d (mo_l (mo_iald _)) (mo_d (mo_l (mo_ic _ _)) (mo_l (mo_irem _)))))))))) (mo_d (mo_d (mo_d (mo_d (mo_d (mo_d (mo_d (mo_l (mo_aload _ _)) (mo_l (mo_aload _ _))) (mo_d (mo_l (mo_iload _ _)) (mo_l (mo_iald _)))) (mo_d (mo_d (mo_l (mo_ic _ _)) (mo_l (mo_irem _))) (mo_d (mo_l (mo_ifne _ _)) (mo_l (mo_ic _ _))))) (mo_d (mo_d (mo_d (mo_l (mo_goto _)) (mo_l (mo_aload _ _))) (mo_d (mo_l (mo_iload _ _)) (mo_l (mo_iald _)))) (mo_d (mo_d (mo_l (mo_ic _ _)) (mo_l (mo_irem _))) (mo_d (mo_l (mo_ic _ _)) (mo_d (mo_l (mo_isub _)) (mo_l (mo_iald _))))))) (mo_d (mo_d (mo_d (mo_d (mo_l (mo_ic _ _)) (mo_l (mo_irem _))) (mo_d (mo_l (mo_cmpne _ _)) (mo_l (mo_aload _ _)))) (mo_d (mo_d (mo_l (mo_aload _ _)) (mo_l (mo_aload _ _))) (mo_d (mo_l (mo_aload _ _)) (mo_d (mo_l (mo_iload _ _)) (mo_l (mo_cI _ _ _ _ zPre_S zHm_0)))))) (mo_d (mo_d (mo_d (mo_l (mo_ifeq _ _)) (mo_l (mo_ic _ _))) (mo_d (mo_l (mo_goto _)) (mo_l (mo_ic _ _)))) (mo_d (mo_d (mo_l (mo_istore _ _)) (mo_l (mo_iload _ _))) (mo_d (mo_l (mo_ifeq _ _)) (mo_d (mo_l (mo_aload _ _)) (mo_l (mo_iload _ _)))))))) (mo_d (mo_d (mo_d (mo_d (mo_d (mo_l (mo_aload _ _)) (mo_l (mo_iload _ _))) (mo_d (mo_l (mo_iald _)) (mo_l (mo_ic _ _)))) (mo_d (mo_d (mo_l (mo_idiv _)) (mo_l (mo_ic _ _))) (mo_d (mo_l (mo_imul _)) (mo_l (mo_ic _ _))))) (mo_d (mo_d (mo_d (mo_l (mo_iadd _)) (mo_l (mo_iload _ _))) (mo_d (mo_l (mo_iadd _)) (mo_l (mo_ic _ _)))) (mo_d (mo_d (mo_l (mo_iadd _)) (mo_l (mo_iast _))) (mo_d (mo_l (mo_aload _ _)) (mo_d (mo_l (mo_iload _ _)) (mo_l (mo_aload _ _))))))) (mo_d (mo_d (mo_d (mo_d (mo_l (mo_ic _ _)) (mo_l (mo_iald _))) (mo_d (mo_l (mo_iast _)) (mo_l (mo_aload _ _)))) (mo_d (mo_d (mo_l (mo_iload _ _)) (mo_l (mo_dup2 _))) (mo_d (mo_l (mo_iald _)) (mo_d (mo_l (mo_ic _ _)) (mo_l (mo_isub _)))))) (mo_d (mo_d (mo_d (mo_l (mo_iast _)) (mo_l (mo_aload _ _))) (mo_d (mo_l (mo_iload _ _)) (mo_l (mo_ic _ _)))) (mo_d (mo_d (mo_l (mo_iast _)) (mo_l (mo_aload _ _))) (mo_d (mo_l (mo_ic _ _)) (mo_d (mo_l (mo_iload _ _)) (mo_l (mo_iload _ _))))))))) (mo_d (mo_d (mo_d (mo_d (mo_d (mo_d (mo_l (mo_iload _ _)) (mo_l (mo_ic _ _))) (mo_d (mo_l (mo_ic _ _)) (mo_l (mo_cI _ _ _ _ zPre_S zHm_0)))) (mo_d (mo_d (mo_l (mo_iload _ _)) (mo_l (mo_ifne _ _))) (mo_d (mo_l (mo_ic _ _)) (mo_l (mo_goto _))))) (mo_d (mo_d (mo_d (mo_l (mo_iload _ _)) (mo_l (mo_ifeq _ _))) (mo_d (mo_l (mo_aload _ _)) (mo_l (mo_iload _ _)))) (mo_d (mo_d (mo_l (mo_ic _ _)) (mo_l (mo_cI _ _ _ _ zPre_S zHm_0))) (mo_d (mo_l (mo_goto _)) (mo_d (mo_l (mo_ic _ _)) (mo_l (mo_cmpne _ _))))))) (mo_d (mo_d (mo_d (mo_d (mo_l (mo_ic _ _)) (mo_l (mo_goto _))) (mo_d (mo_l (mo_ic _ _)) (mo_l (mo_rZ)))) (mo_d (mo_d (mo_l (mo_iload _ _)) (mo_l (mo_ifeq _ _))) (mo_d (mo_l (mo_aload _ _)) (mo_d (mo_l (mo_iload _ _)) (mo_l (mo_iald _)))))) (mo_d (mo_d (mo_d (mo_l (mo_ic _ _)) (mo_l (mo_cmpne _ _))) (mo_d (mo_l (mo_aload _ _)) (mo_l (mo_iload _ _)))) (mo_d (mo_d (mo_l (mo_ic _ _)) (mo_l (mo_cI _ _ _ _ zPre_S zHm_0))) (mo_d (mo_l (mo_ifne _ _)) (mo_d (mo_l (mo_ic _ _)) (mo_l (mo_goto _)))))))) (mo_d (mo_d (mo_d (mo_d (mo_d (mo_l (mo_ic _ _)) (mo_l (mo_istore _ _))) (mo_d (mo_l (mo_aload _ _)) (mo_l (mo_iload _ _)))) (mo_d (mo_d (mo_l (mo_ifeq _ _)) (mo_l (mo_iload _ _))) (mo_d (mo_l (mo_goto _)) (mo_l (mo_ic _ _))))) (mo_d (mo_d (mo_d (mo_l (mo_ic _ _)) (mo_l (mo_iast _))) (mo_d (mo_l (mo_aload _ _)) (mo_l (mo_ic _ _)))) (mo_d (mo_d (mo_l (mo_iload _ _)) (mo_l (mo_ic _ _))) (mo_d (mo_l (mo_ic _ _)) (mo_d (mo_l (mo_ic _ _)) (mo_l (mo_ic _ _))))))) (mo_d (mo_d (mo_d (mo_d (mo_l (mo_cI _ _ _ _ zPre_S zHm_0)) (mo_l (mo_iload _ _))) (mo_d (mo_l (mo_ifne _ _)) (mo_l (mo_ic _ _)))) (mo_d (mo_d (mo_l (mo_goto _)) (mo_l (mo_iload _ _))) (mo_d (mo_l (mo_ifeq _ _)) (mo_d (mo_l (mo_aload _ _)) (mo_l (mo_iload _ _)))))) (mo_d (mo_d (mo_d (mo_l (mo_ic _ _)) (mo_l (mo_cI _ _ _ _ zPre_S zHm_0))) (mo_d (mo_l (mo_goto _)) (mo_l (mo_ic _ _)))) (mo_d (mo_d (mo_l (mo_cmpne _ _)) (mo_l (mo_ic _ _))) (mo_d (mo_l (mo_goto _)) (mo_d (mo_l (mo_ic _ _)) (mo_l (mo_rZ))))))))))))
def zc_L_isTold (G : Nat × Nat) : Nat → zSem := fun pc =>
 znd pc 285
 (znd pc 128
 (znd pc 64
 (znd pc 33
 (znd pc 16
 (znd pc 7
 (znd pc 4
 (znd pc 1
 (zlf pc 0 (s_iload 3 1))
 (zlf pc 1 (s_ifne 278 4)))
 (znd pc 6
 (zlf pc 4 (s_iload 4 6))
 (zlf pc 6 (s_ic 2 7))))
 (znd pc 9
 (znd pc 8
 (zlf pc 7 (s_irem 8))
 (zlf pc 8 (s_ic 1 9)))
 (znd pc 12
 (zlf pc 9 (s_cmpne 16 12))
 (znd pc 13
 (zlf pc 12 (s_ic 1 13))
 (zlf pc 13 (s_goto 17))))))
 (znd pc 23
 (znd pc 19
 (znd pc 17
 (zlf pc 16 (s_ic 0 17))
 (zlf pc 17 (s_istore 6 19)))
 (znd pc 21
 (zlf pc 19 (s_iload 4 21))
 (znd pc 22
 (zlf pc 21 (s_ic 2 22))
 (zlf pc 22 (s_idiv 23)))))
 (znd pc 26
 (znd pc 25
 (zlf pc 23 (s_ic 9 25))
 (zlf pc 25 (s_irem 26)))
 (znd pc 28
 (zlf pc 26 (s_ic 8 28))
 (znd pc 31
 (zlf pc 28 (s_cmpne 36 31))
 (zlf pc 31 (s_ic 6 33)))))))
 (znd pc 47
 (znd pc 40
 (znd pc 38
 (znd pc 36
 (zlf pc 33 (s_goto 42))
 (zlf pc 36 (s_iload 4 38)))
 (znd pc 39
 (zlf pc 38 (s_ic 2 39))
 (zlf pc 39 (s_idiv 40))))
 (znd pc 42
 (znd pc 41
 (zlf pc 40 (s_ic 3 41))
 (zlf pc 41 (s_irem 42)))
 (znd pc 44
 (zlf pc 42 (s_istore 7 44))
 (znd pc 46
 (zlf pc 44 (s_iload 5 46))
 (zlf pc 46 (s_ic 5 47))))))
 (znd pc 55
 (znd pc 51
 (znd pc 48
 (zlf pc 47 (s_irem 48))
 (zlf pc 48 (s_ifne 64 51)))
 (znd pc 53
 (zlf pc 51 (s_iload 5 53))
 (znd pc 54
 (zlf pc 53 (s_ic 5 54))
 (zlf pc 54 (s_idiv 55)))))
 (znd pc 59
 (znd pc 58
 (zlf pc 55 (s_ic 403 58))
 (zlf pc 58 (s_irem 59)))
 (znd pc 60
 (zlf pc 59 (s_ic 1 60))
 (znd pc 61
 (zlf pc 60 (s_isub 61))
 (zlf pc 61 (s_goto 75))))))))
 (znd pc 95
 (znd pc 79
 (znd pc 71
 (znd pc 69
 (znd pc 67
 (zlf pc 64 (s_ic 140 67))
 (zlf pc 67 (s_iload 5 69)))
 (znd pc 70
 (zlf pc 69 (s_ic 5 70))
 (zlf pc 70 (s_idiv 71))))
 (znd pc 74
 (znd pc 73
 (zlf pc 71 (s_ic 110 73))
 (zlf pc 73 (s_irem 74)))
 (znd pc 75
 (zlf pc 74 (s_iadd 75))
 (znd pc 77
 (zlf pc 75 (s_istore 8 77))
 (zlf pc 77 (s_iload 4 79))))))
 (znd pc 87
 (znd pc 82
 (znd pc 81
 (zlf pc 79 (s_ic 18 81))
 (zlf pc 81 (s_idiv 82)))
 (znd pc 83
 (zlf pc 82 (s_ic 5 83))
 (znd pc 84
 (zlf pc 83 (s_irem 84))
 (zlf pc 84 (s_ifne 102 87)))))
 (znd pc 90
 (znd pc 89
 (zlf pc 87 (s_iload 8 89))
 (zlf pc 89 (s_ic 1 90)))
 (znd pc 91
 (zlf pc 90 (s_isub 91))
 (znd pc 93
 (zlf pc 91 (s_iload 4 93))
 (zlf pc 93 (s_ic 90 95)))))))
 (znd pc 109
 (znd pc 99
 (znd pc 97
 (znd pc 96
 (zlf pc 95 (s_idiv 96))
 (zlf pc 96 (s_ic 3 97)))
 (znd pc 98
 (zlf pc 97 (s_irem 98))
 (zlf pc 98 (s_iadd 99))))
 (znd pc 104
 (znd pc 102
 (zlf pc 99 (s_goto 113))
 (zlf pc 102 (s_iload 8 104)))
 (znd pc 106
 (zlf pc 104 (s_iload 4 106))
 (znd pc 108
 (zlf pc 106 (s_ic 90 108))
 (zlf pc 108 (s_idiv 109))))))
 (znd pc 117
 (znd pc 112
 (znd pc 111
 (zlf pc 109 (s_ic 60 111))
 (zlf pc 111 (s_irem 112)))
 (znd pc 113
 (zlf pc 112 (s_iadd 113))
 (znd pc 115
 (zlf pc 113 (s_istore 9 115))
 (zlf pc 115 (s_iload 7 117)))))
 (znd pc 122
 (znd pc 119
 (zlf pc 117 (s_iload 6 119))
 (zlf pc 119 (s_ifeq 126 122)))
 (znd pc 123
 (zlf pc 122 (s_ic 4 123))
 (znd pc 126
 (zlf pc 123 (s_goto 128))
 (zlf pc 126 (s_ic 6 128)))))))))
 (znd pc 209
 (znd pc 172
 (znd pc 148
 (znd pc 136
 (znd pc 132
 (znd pc 131
 (zlf pc 128 (s_cmpge 135 131))
 (zlf pc 131 (s_ic 1 132)))
 (znd pc 135
 (zlf pc 132 (s_goto 136))
 (zlf pc 135 (s_ic 0 136))))
 (znd pc 140
 (znd pc 138
 (zlf pc 136 (s_istore 10 138))
 (zlf pc 138 (s_iload 8 140)))
 (znd pc 143
 (zlf pc 140 (s_iflt 175 143))
 (znd pc 145
 (zlf pc 143 (s_iload 8 145))
 (zlf pc 145 (s_ic 401 148))))))
 (znd pc 160
 (znd pc 153
 (znd pc 151
 (zlf pc 148 (s_cmpge 175 151))
 (zlf pc 151 (s_iload 6 153)))
 (znd pc 156
 (zlf pc 153 (s_ifne 171 156))
 (znd pc 158
 (zlf pc 156 (s_iload 9 158))
 (zlf pc 158 (s_iload 8 160)))))
 (znd pc 165
 (znd pc 163
 (zlf pc 160 (s_cmplt 175 163))
 (zlf pc 163 (s_iload 9 165)))
 (znd pc 168
 (zlf pc 165 (s_ic 401 168))
 (znd pc 171
 (zlf pc 168 (s_cmpge 175 171))
 (zlf pc 171 (s_ic 1 172)))))))
 (znd pc 191
 (znd pc 180
 (znd pc 176
 (znd pc 175
 (zlf pc 172 (s_goto 176))
 (zlf pc 175 (s_ic 0 176)))
 (znd pc 178
 (zlf pc 176 (s_istore 11 178))
 (zlf pc 178 (s_iload 10 180))))
 (znd pc 185
 (znd pc 183
 (zlf pc 180 (s_ifeq 225 183))
 (zlf pc 183 (s_iload 11 185)))
 (znd pc 188
 (zlf pc 185 (s_ifeq 225 188))
 (znd pc 189
 (zlf pc 188 (s_aload 1 189))
 (zlf pc 189 (s_iload 6 191))))))
 (znd pc 202
 (znd pc 196
 (znd pc 194
 (zlf pc 191 (s_ifeq 199 194))
 (zlf pc 194 (s_iload 7 196)))
 (znd pc 199
 (zlf pc 196 (s_goto 203))
 (znd pc 200
 (zlf pc 199 (s_ic 4 200))
 (zlf pc 200 (s_iload 7 202)))))
 (znd pc 205
 (znd pc 203
 (zlf pc 202 (s_iadd 203))
 (zlf pc 203 (s_iload 8 205)))
 (znd pc 206
 (zlf pc 205 (s_iast 206))
 (znd pc 207
 (zlf pc 206 (s_aload 1 207))
 (zlf pc 207 (s_iload 6 209))))))))
 (znd pc 245
 (znd pc 226
 (znd pc 219
 (znd pc 214
 (znd pc 212
 (zlf pc 209 (s_ifeq 217 212))
 (zlf pc 212 (s_ic 18 214)))
 (znd pc 217
 (zlf pc 214 (s_goto 222))
 (zlf pc 217 (s_ic 10 219))))
 (znd pc 222
 (znd pc 221
 (zlf pc 219 (s_iload 7 221))
 (zlf pc 221 (s_iadd 222)))
 (znd pc 224
 (zlf pc 222 (s_iload 9 224))
 (znd pc 225
 (zlf pc 224 (s_iast 225))
 (zlf pc 225 (s_aload 0 226))))))
 (znd pc 237
 (znd pc 230
 (znd pc 228
 (zlf pc 226 (s_ic 13 228))
 (zlf pc 228 (s_iload 6 230)))
 (znd pc 233
 (zlf pc 230 (s_ifeq 237 233))
 (znd pc 234
 (zlf pc 233 (s_ic 1 234))
 (zlf pc 234 (s_goto 238)))))
 (znd pc 240
 (znd pc 238
 (zlf pc 237 (s_ic 0 238))
 (zlf pc 238 (s_iload 7 240)))
 (znd pc 242
 (zlf pc 240 (s_iload 8 242))
 (znd pc 244
 (zlf pc 242 (s_iload 9 244))
 (zlf pc 244 (s_ic 0 245)))))))
 (znd pc 267
 (znd pc 255
 (znd pc 250
 (znd pc 248
 (zlf pc 245 (s_cI zpS 207 7 [zU] zx0 248))
 (zlf pc 248 (s_iload 10 250)))
 (znd pc 253
 (zlf pc 250 (s_ifne 258 253))
 (zlf pc 253 (s_ic (-3000000) 255))))
 (znd pc 260
 (znd pc 258
 (zlf pc 255 (s_goto 269))
 (zlf pc 258 (s_iload 11 260)))
 (znd pc 263
 (zlf pc 260 (s_ifeq 267 263))
 (znd pc 264
 (zlf pc 263 (s_ic 0 264))
 (zlf pc 264 (s_goto 269))))))
 (znd pc 277
 (znd pc 272
 (znd pc 269
 (zlf pc 267 (s_ic (-2000000) 269))
 (zlf pc 269 (s_cmpne 276 272)))
 (znd pc 273
 (zlf pc 272 (s_ic 1 273))
 (znd pc 276
 (zlf pc 273 (s_goto 277))
 (zlf pc 276 (s_ic 0 277)))))
 (znd pc 279
 (znd pc 278
 (zlf pc 277 (s_rZ))
 (zlf pc 278 (s_iload 3 279)))
 (znd pc 280
 (zlf pc 279 (s_ic 1 280))
 (znd pc 283
 (zlf pc 280 (s_cmpne 427 283))
 (zlf pc 283 (s_iload 4 285))))))))))
 (znd pc 416
 (znd pc 348
 (znd pc 318
 (znd pc 301
 (znd pc 292
 (znd pc 288
 (znd pc 287
 (zlf pc 285 (s_ic 9 287))
 (zlf pc 287 (s_irem 288)))
 (znd pc 290
 (zlf pc 288 (s_istore 6 290))
 (zlf pc 290 (s_iload 5 292))))
 (znd pc 294
 (znd pc 293
 (zlf pc 292 (s_ic 3 293))
 (zlf pc 293 (s_irem 294)))
 (znd pc 297
 (zlf pc 294 (s_ifle 301 297))
 (znd pc 298
 (zlf pc 297 (s_ic 1 298))
 (zlf pc 298 (s_goto 302))))))
 (znd pc 309
 (znd pc 304
 (znd pc 302
 (zlf pc 301 (s_ic 0 302))
 (zlf pc 302 (s_istore 7 304)))
 (znd pc 305
 (zlf pc 304 (s_aload 1 305))
 (znd pc 307
 (zlf pc 305 (s_ic 16 307))
 (zlf pc 307 (s_iload 6 309)))))
 (znd pc 314
 (znd pc 311
 (zlf pc 309 (s_ic 8 311))
 (zlf pc 311 (s_cmpne 321 314)))
 (znd pc 315
 (zlf pc 314 (s_aload 1 315))
 (znd pc 317
 (zlf pc 315 (s_ic 16 317))
 (zlf pc 317 (s_iald 318)))))))
 (znd pc 334
 (znd pc 327
 (znd pc 323
 (znd pc 321
 (zlf pc 318 (s_goto 349))
 (zlf pc 321 (s_iload 7 323)))
 (znd pc 326
 (zlf pc 323 (s_ifeq 338 326))
 (zlf pc 326 (s_aload 1 327))))
 (znd pc 330
 (znd pc 329
 (zlf pc 327 (s_ic 16 329))
 (zlf pc 329 (s_iald 330)))
 (znd pc 331
 (zlf pc 330 (s_ic 1 331))
 (znd pc 333
 (zlf pc 331 (s_iload 6 333))
 (zlf pc 333 (s_ishl 334))))))
 (znd pc 342
 (znd pc 338
 (znd pc 335
 (zlf pc 334 (s_ior 335))
 (zlf pc 335 (s_goto 349)))
 (znd pc 339
 (zlf pc 338 (s_aload 1 339))
 (znd pc 341
 (zlf pc 339 (s_ic 16 341))
 (zlf pc 341 (s_iald 342)))))
 (znd pc 345
 (znd pc 343
 (zlf pc 342 (s_ic 1 343))
 (zlf pc 343 (s_iload 6 345)))
 (znd pc 346
 (zlf pc 345 (s_ishl 346))
 (znd pc 347
 (zlf pc 346 (s_ic (-1) 347))
 (zlf pc 347 (s_ixor 348))))))))
 (znd pc 377
 (znd pc 363
 (znd pc 353
 (znd pc 350
 (znd pc 349
 (zlf pc 348 (s_iand 349))
 (zlf pc 349 (s_iast 350)))
 (znd pc 351
 (zlf pc 350 (s_ic 0 351))
 (zlf pc 351 (s_istore 8 353))))
 (znd pc 356
 (znd pc 354
 (zlf pc 353 (s_ic 0 354))
 (zlf pc 354 (s_istore 9 356)))
 (znd pc 358
 (zlf pc 356 (s_iload 9 358))
 (znd pc 360
 (zlf pc 358 (s_ic 8 360))
 (zlf pc 360 (s_cmpge 383 363))))))
 (znd pc 371
 (znd pc 366
 (znd pc 365
 (zlf pc 363 (s_iload 8 365))
 (zlf pc 365 (s_aload 1 366)))
 (znd pc 368
 (zlf pc 366 (s_ic 16 368))
 (znd pc 369
 (zlf pc 368 (s_iald 369))
 (zlf pc 369 (s_iload 9 371)))))
 (znd pc 373
 (znd pc 372
 (zlf pc 371 (s_ishr 372))
 (zlf pc 372 (s_ic 1 373)))
 (znd pc 374
 (zlf pc 373 (s_iand 374))
 (znd pc 375
 (zlf pc 374 (s_iadd 375))
 (zlf pc 375 (s_istore 8 377)))))))
 (znd pc 397
 (znd pc 386
 (znd pc 383
 (znd pc 380
 (zlf pc 377 (s_iinc 9 1 380))
 (zlf pc 380 (s_goto 356)))
 (znd pc 384
 (zlf pc 383 (s_aload 0 384))
 (zlf pc 384 (s_ic 16 386))))
 (znd pc 390
 (znd pc 388
 (zlf pc 386 (s_iload 6 388))
 (zlf pc 388 (s_iload 7 390)))
 (znd pc 393
 (zlf pc 390 (s_ifeq 397 393))
 (znd pc 394
 (zlf pc 393 (s_ic 1 394))
 (zlf pc 394 (s_goto 398))))))
 (znd pc 404
 (znd pc 399
 (znd pc 398
 (zlf pc 397 (s_ic 0 398))
 (zlf pc 398 (s_ic 0 399)))
 (znd pc 400
 (zlf pc 399 (s_ic 0 400))
 (znd pc 401
 (zlf pc 400 (s_ic 0 401))
 (zlf pc 401 (s_cI zpS 207 7 [zU] zx0 404)))))
 (znd pc 408
 (znd pc 406
 (zlf pc 404 (s_iload 6 406))
 (zlf pc 406 (s_ic 8 408)))
 (znd pc 411
 (zlf pc 408 (s_cmpne 416 411))
 (znd pc 413
 (zlf pc 411 (s_ic (-3000000) 413))
 (zlf pc 413 (s_goto 418)))))))))
 (znd pc 491
 (znd pc 451
 (znd pc 432
 (znd pc 425
 (znd pc 421
 (znd pc 418
 (zlf pc 416 (s_iload 8 418))
 (zlf pc 418 (s_cmpne 425 421)))
 (znd pc 422
 (zlf pc 421 (s_ic 1 422))
 (zlf pc 422 (s_goto 426))))
 (znd pc 427
 (znd pc 426
 (zlf pc 425 (s_ic 0 426))
 (zlf pc 426 (s_rZ)))
 (znd pc 429
 (zlf pc 427 (s_iload 4 429))
 (znd pc 431
 (zlf pc 429 (s_ic 6 431))
 (zlf pc 431 (s_irem 432))))))
 (znd pc 444
 (znd pc 437
 (znd pc 435
 (zlf pc 432 (s_ifne 444 435))
 (zlf pc 435 (s_iload 4 437)))
 (znd pc 440
 (zlf pc 437 (s_ic 1001 440))
 (znd pc 441
 (zlf pc 440 (s_irem 441))
 (zlf pc 441 (s_goto 451)))))
 (znd pc 447
 (znd pc 445
 (zlf pc 444 (s_ic 1 445))
 (zlf pc 445 (s_iload 4 447)))
 (znd pc 449
 (zlf pc 447 (s_ic 60 449))
 (znd pc 450
 (zlf pc 449 (s_irem 450))
 (zlf pc 450 (s_iadd 451)))))))
 (znd pc 471
 (znd pc 460
 (znd pc 455
 (znd pc 453
 (zlf pc 451 (s_istore 6 453))
 (zlf pc 453 (s_iload 6 455)))
 (znd pc 458
 (zlf pc 455 (s_ifle 470 458))
 (zlf pc 458 (s_iload 6 460))))
 (znd pc 466
 (znd pc 463
 (zlf pc 460 (s_ic 1000 463))
 (zlf pc 463 (s_cmpge 470 466)))
 (znd pc 467
 (zlf pc 466 (s_ic 1 467))
 (znd pc 470
 (zlf pc 467 (s_goto 471))
 (zlf pc 470 (s_ic 0 471))))))
 (znd pc 481
 (znd pc 475
 (znd pc 473
 (zlf pc 471 (s_istore 7 473))
 (zlf pc 473 (s_iload 7 475)))
 (znd pc 478
 (zlf pc 475 (s_ifeq 495 478))
 (znd pc 479
 (zlf pc 478 (s_aload 1 479))
 (zlf pc 479 (s_ic 17 481)))))
 (znd pc 484
 (znd pc 482
 (zlf pc 481 (s_iald 482))
 (zlf pc 482 (s_iload 6 484)))
 (znd pc 485
 (zlf pc 484 (s_iadd 485))
 (znd pc 488
 (zlf pc 485 (s_ic 10000 488))
 (zlf pc 488 (s_cmpge 495 491))))))))
 (znd pc 522
 (znd pc 505
 (znd pc 498
 (znd pc 495
 (znd pc 492
 (zlf pc 491 (s_ic 1 492))
 (zlf pc 492 (s_goto 496)))
 (znd pc 496
 (zlf pc 495 (s_ic 0 496))
 (zlf pc 496 (s_istore 8 498))))
 (znd pc 501
 (znd pc 499
 (zlf pc 498 (s_aload 1 499))
 (zlf pc 499 (s_ic 17 501)))
 (znd pc 502
 (zlf pc 501 (s_dup2 502))
 (znd pc 503
 (zlf pc 502 (s_iald 503))
 (zlf pc 503 (s_iload 8 505))))))
 (znd pc 515
 (znd pc 510
 (znd pc 508
 (zlf pc 505 (s_ifeq 513 508))
 (zlf pc 508 (s_iload 6 510)))
 (znd pc 513
 (zlf pc 510 (s_goto 514))
 (znd pc 514
 (zlf pc 513 (s_ic 0 514))
 (zlf pc 514 (s_iadd 515)))))
 (znd pc 517
 (znd pc 516
 (zlf pc 515 (s_iast 516))
 (zlf pc 516 (s_aload 0 517)))
 (znd pc 519
 (zlf pc 517 (s_ic 20 519))
 (znd pc 521
 (zlf pc 519 (s_iload 6 521))
 (zlf pc 521 (s_ic 0 522)))))))
 (znd pc 543
 (znd pc 530
 (znd pc 524
 (znd pc 523
 (zlf pc 522 (s_ic 0 523))
 (zlf pc 523 (s_ic 0 524)))
 (znd pc 525
 (zlf pc 524 (s_ic 0 525))
 (znd pc 528
 (zlf pc 525 (s_cI zpS 207 7 [zU] zx0 528))
 (zlf pc 528 (s_iload 7 530)))))
 (znd pc 535
 (znd pc 533
 (zlf pc 530 (s_ifne 538 533))
 (zlf pc 533 (s_ic (-2000000) 535)))
 (znd pc 538
 (zlf pc 535 (s_goto 552))
 (znd pc 540
 (zlf pc 538 (s_iload 8 540))
 (zlf pc 540 (s_ifeq 550 543))))))
 (znd pc 552
 (znd pc 546
 (znd pc 544
 (zlf pc 543 (s_aload 1 544))
 (zlf pc 544 (s_ic 17 546)))
 (znd pc 547
 (zlf pc 546 (s_iald 547))
 (znd pc 550
 (zlf pc 547 (s_goto 552))
 (zlf pc 550 (s_ic (-1000000) 552)))))
 (znd pc 556
 (znd pc 555
 (zlf pc 552 (s_cmpne 559 555))
 (zlf pc 555 (s_ic 1 556)))
 (znd pc 559
 (zlf pc 556 (s_goto 560))
 (znd pc 560
 (zlf pc 559 (s_ic 0 560))
 (zlf pc 560 (s_rZ))))))))))
theorem zm_L_isTold (G : Nat × Nat) (pc : Nat) : zMon (zc_L_isTold G pc) := (mo_d (mo_d (mo_d (mo_d (mo_d (mo_d (mo_d (mo_d (mo_l (mo_iload _ _)) (mo_l (mo_ifne _ _))) (mo_d (mo_l (mo_iload _ _)) (mo_l (mo_ic _ _)))) (mo_d (mo_d (mo_l (mo_irem _)) (mo_l (mo_ic _ _))) (mo_d (mo_l (mo_cmpne _ _)) (mo_d (mo_l (mo_ic _ _)) (mo_l (mo_goto _)))))) (mo_d (mo_d (mo_d (mo_l (mo_ic _ _)) (mo_l (mo_istore _ _))) (mo_d (mo_l (mo_iload _ _)) (mo_d (mo_l (mo_ic _ _)) (mo_l (mo_idiv _))))) (mo_d (mo_d (mo_l (mo_ic _ _)) (mo_l (mo_irem _))) (mo_d (mo_l (mo_ic _ _)) (mo_d (mo_l (mo_cmpne _ _)) (mo_l (mo_ic _ _))))))) (mo_d (mo_d (mo_d (mo_d (mo_l (mo_goto _)) (mo_l (mo_iload _ _))) (mo_d (mo_l (mo_ic _ _)) (mo_l (mo_idiv _)))) (mo_d (mo_d (mo_l (mo_ic _ _)) (mo_l (mo_irem _))) (mo_d (mo_l (mo_istore _ _)) (mo_d (mo_l (mo_iload _ _)) (mo_l (mo_ic _ _)))))) (mo_d (mo_d (mo_d (mo_l (mo_irem _)) (mo_l (mo_ifne _ _))) (mo_d (mo_l (mo_iload _ _)) (mo_d (mo_l (mo_ic _ _)) (mo_l (mo_idiv _))))) (mo_d (mo_d (mo_l (mo_ic _ _)) (mo_l (mo_irem _))) (mo_d (mo_l (mo_ic _ _)) (mo_d (mo_l (mo_isub _)) (mo_l (mo_goto _)))))))) (mo_d (mo_d (mo_d (mo_d (mo_d (mo_l (mo_ic _ _)) (mo_l (mo_iload _ _))) (mo_d (mo_l (mo_ic _ _)) (mo_l (mo_idiv _)))) (mo_d (mo_d (mo_l (mo_ic _ _)) (mo_l (mo_irem _))) (mo_d (mo_l (mo_iadd _)) (mo_d (mo_l (mo_istore _ _)) (mo_l (mo_iload _ _)))))) (mo_d (mo_d (mo_d (mo_l (mo_ic _ _)) (mo_l (mo_idiv _))) (mo_d (mo_l (mo_ic _ _)) (mo_d (mo_l (mo_irem _)) (mo_l (mo_ifne _ _))))) (mo_d (mo_d (mo_l (mo_iload _ _)) (mo_l (mo_ic _ _))) (mo_d (mo_l (mo_isub _)) (mo_d (mo_l (mo_iload _ _)) (mo_l (mo_ic _ _))))))) (mo_d (mo_d (mo_d (mo_d (mo_l (mo_idiv _)) (mo_l (mo_ic _ _))) (mo_d (mo_l (mo_irem _)) (mo_l (mo_iadd _)))) (mo_d (mo_d (mo_l (mo_goto _)) (mo_l (mo_iload _ _))) (mo_d (mo_l (mo_iload _ _)) (mo_d (mo_l (mo_ic _ _)) (mo_l (mo_idiv _)))))) (mo_d (mo_d (mo_d (mo_l (mo_ic _ _)) (mo_l (mo_irem _))) (mo_d (mo_l (mo_iadd _)) (mo_d (mo_l (mo_istore _ _)) (mo_l (mo_iload _ _))))) (mo_d (mo_d (mo_l (mo_iload _ _)) (mo_l (mo_ifeq _ _))) (mo_d (mo_l (mo_ic _ _)) (mo_d (mo_l (mo_goto _)) (mo_l (mo_ic _ _))))))))) (mo_d (mo_d (mo_d (mo_d (mo_d (mo_d (mo_l (mo_cmpge _ _)) (mo_l (mo_ic _ _))) (mo_d (mo_l (mo_goto _)) (mo_l (mo_ic _ _)))) (mo_d (mo_d (mo_l (mo_istore _ _)) (mo_l (mo_iload _ _))) (mo_d (mo_l (mo_iflt _ _)) (mo_d (mo_l (mo_iload _ _)) (mo_l (mo_ic _ _)))))) (mo_d (mo_d (mo_d (mo_l (mo_cmpge _ _)) (mo_l (mo_iload _ _))) (mo_d (mo_l (mo_ifne _ _)) (mo_d (mo_l (mo_iload _ _)) (mo_l (mo_iload _ _))))) (mo_d (mo_d (mo_l (mo_cmplt _ _)) (mo_l (mo_iload _ _))) (mo_d (mo_l (mo_ic _ _)) (mo_d (mo_l (mo_cmpge _ _)) (mo_l (mo_ic _ _))))))) (mo_d (mo_d (mo_d (mo_d (mo_l (mo_goto _)) (mo_l (mo_ic _ _))) (mo_d (mo_l (mo_istore _ _)) (mo_l (mo_iload _ _)))) (mo_d (mo_d (mo_l (mo_ifeq _ _)) (mo_l (mo_iload _ _))) (mo_d (mo_l (mo_ifeq _ _)) (mo_d (mo_l (mo_aload _ _)) (mo_l (mo_iload _ _)))))) (mo_d (mo_d (mo_d (mo_l (mo_ifeq _ _)) (mo_l (mo_iload _ _))) (mo_d (mo_l (mo_goto _)) (mo_d (mo_l (mo_ic _ _)) (mo_l (mo_iload _ _))))) (mo_d (mo_d (mo_l (mo_iadd _)) (mo_l (mo_iload _ _))) (mo_d (mo_l (mo_iast _)) (mo_d (mo_l (mo_aload _ _)) (mo_l (mo_iload _ _)))))))) (mo_d (mo_d (mo_d (mo_d (mo_d (mo_l (mo_ifeq _ _)) (mo_l (mo_ic _ _))) (mo_d (mo_l (mo_goto _)) (mo_l (mo_ic _ _)))) (mo_d (mo_d (mo_l (mo_iload _ _)) (mo_l (mo_iadd _))) (mo_d (mo_l (mo_iload _ _)) (mo_d (mo_l (mo_iast _)) (mo_l (mo_aload _ _)))))) (mo_d (mo_d (mo_d (mo_l (mo_ic _ _)) (mo_l (mo_iload _ _))) (mo_d (mo_l (mo_ifeq _ _)) (mo_d (mo_l (mo_ic _ _)) (mo_l (mo_goto _))))) (mo_d (mo_d (mo_l (mo_ic _ _)) (mo_l (mo_iload _ _))) (mo_d (mo_l (mo_iload _ _)) (mo_d (mo_l (mo_iload _ _)) (mo_l (mo_ic _ _))))))) (mo_d (mo_d (mo_d (mo_d (mo_l (mo_cI _ _ _ _ zPre_S zHm_0)) (mo_l (mo_iload _ _))) (mo_d (mo_l (mo_ifne _ _)) (mo_l (mo_ic _ _)))) (mo_d (mo_d (mo_l (mo_goto _)) (mo_l (mo_iload _ _))) (mo_d (mo_l (mo_ifeq _ _)) (mo_d (mo_l (mo_ic _ _)) (mo_l (mo_goto _)))))) (mo_d (mo_d (mo_d (mo_l (mo_ic _ _)) (mo_l (mo_cmpne _ _))) (mo_d (mo_l (mo_ic _ _)) (mo_d (mo_l (mo_goto _)) (mo_l (mo_ic _ _))))) (mo_d (mo_d (mo_l (mo_rZ)) (mo_l (mo_iload _ _))) (mo_d (mo_l (mo_ic _ _)) (mo_d (mo_l (mo_cmpne _ _)) (mo_l (mo_iload _ _)))))))))) (mo_d (mo_d (mo_d (mo_d (mo_d (mo_d (mo_d (mo_l (mo_ic _ _)) (mo_l (mo_irem _))) (mo_d (mo_l (mo_istore _ _)) (mo_l (mo_iload _ _)))) (mo_d (mo_d (mo_l (mo_ic _ _)) (mo_l (mo_irem _))) (mo_d (mo_l (mo_ifle _ _)) (mo_d (mo_l (mo_ic _ _)) (mo_l (mo_goto _)))))) (mo_d (mo_d (mo_d (mo_l (mo_ic _ _)) (mo_l (mo_istore _ _))) (mo_d (mo_l (mo_aload _ _)) (mo_d (mo_l (mo_ic _ _)) (mo_l (mo_iload _ _))))) (mo_d (mo_d (mo_l (mo_ic _ _)) (mo_l (mo_cmpne _ _))) (mo_d (mo_l (mo_aload _ _)) (mo_d (mo_l (mo_ic _ _)) (mo_l (mo_iald _))))))) (mo_d (mo_d (mo_d (mo_d (mo_l (mo_goto _)) (mo_l (mo_iload _ _))) (mo_d (mo_l (mo_ifeq _ _)) (mo_l (mo_aload _ _)))) (mo_d (mo_d (mo_l (mo_ic _ _)) (mo_l (mo_iald _))) (mo_d (mo_l (mo_ic _ _)) (mo_d (mo_l (mo_iload _ _)) (mo_l (mo_ishl _)))))) (mo_d (mo_d (mo_d (mo_l (mo_ior _)) (mo_l (mo_goto _))) (mo_d (mo_l (mo_aload _ _)) (mo_d (mo_l (mo_ic _ _)) (mo_l (mo_iald _))))) (mo_d (mo_d (mo_l (mo_ic _ _)) (mo_l (mo_iload _ _))) (mo_d (mo_l (mo_ishl _)) (mo_d (mo_l (mo_ic _ _)) (mo_l (mo_ixor _)))))))) (mo_d (mo_d (mo_d (mo_d (mo_d (mo_l (mo_iand _)) (mo_l (mo_iast _))) (mo_d (mo_l (mo_ic _ _)) (mo_l (mo_istore _ _)))) (mo_d (mo_d (mo_l (mo_ic _ _)) (mo_l (mo_istore _ _))) (mo_d (mo_l (mo_iload _ _)) (mo_d (mo_l (mo_ic _ _)) (mo_l (mo_cmpge _ _)))))) (mo_d (mo_d (mo_d (mo_l (mo_iload _ _)) (mo_l (mo_aload _ _))) (mo_d (mo_l (mo_ic _ _)) (mo_d (mo_l (mo_iald _)) (mo_l (mo_iload _ _))))) (mo_d (mo_d (mo_l (mo_ishr _)) (mo_l (mo_ic _ _))) (mo_d (mo_l (mo_iand _)) (mo_d (mo_l (mo_iadd _)) (mo_l (mo_istore _ _))))))) (mo_d (mo_d (mo_d (mo_d (mo_l (mo_iinc _ _ _)) (mo_l (mo_goto _))) (mo_d (mo_l (mo_aload _ _)) (mo_l (mo_ic _ _)))) (mo_d (mo_d (mo_l (mo_iload _ _)) (mo_l (mo_iload _ _))) (mo_d (mo_l (mo_ifeq _ _)) (mo_d (mo_l (mo_ic _ _)) (mo_l (mo_goto _)))))) (mo_d (mo_d (mo_d (mo_l (mo_ic _ _)) (mo_l (mo_ic _ _))) (mo_d (mo_l (mo_ic _ _)) (mo_d (mo_l (mo_ic _ _)) (mo_l (mo_cI _ _ _ _ zPre_S zHm_0))))) (mo_d (mo_d (mo_l (mo_iload _ _)) (mo_l (mo_ic _ _))) (mo_d (mo_l (mo_cmpne _ _)) (mo_d (mo_l (mo_ic _ _)) (mo_l (mo_goto _))))))))) (mo_d (mo_d (mo_d (mo_d (mo_d (mo_d (mo_l (mo_iload _ _)) (mo_l (mo_cmpne _ _))) (mo_d (mo_l (mo_ic _ _)) (mo_l (mo_goto _)))) (mo_d (mo_d (mo_l (mo_ic _ _)) (mo_l (mo_rZ))) (mo_d (mo_l (mo_iload _ _)) (mo_d (mo_l (mo_ic _ _)) (mo_l (mo_irem _)))))) (mo_d (mo_d (mo_d (mo_l (mo_ifne _ _)) (mo_l (mo_iload _ _))) (mo_d (mo_l (mo_ic _ _)) (mo_d (mo_l (mo_irem _)) (mo_l (mo_goto _))))) (mo_d (mo_d (mo_l (mo_ic _ _)) (mo_l (mo_iload _ _))) (mo_d (mo_l (mo_ic _ _)) (mo_d (mo_l (mo_irem _)) (mo_l (mo_iadd _))))))) (mo_d (mo_d (mo_d (mo_d (mo_l (mo_istore _ _)) (mo_l (mo_iload _ _))) (mo_d (mo_l (mo_ifle _ _)) (mo_l (mo_iload _ _)))) (mo_d (mo_d (mo_l (mo_ic _ _)) (mo_l (mo_cmpge _ _))) (mo_d (mo_l (mo_ic _ _)) (mo_d (mo_l (mo_goto _)) (mo_l (mo_ic _ _)))))) (mo_d (mo_d (mo_d (mo_l (mo_istore _ _)) (mo_l (mo_iload _ _))) (mo_d (mo_l (mo_ifeq _ _)) (mo_d (mo_l (mo_aload _ _)) (mo_l (mo_ic _ _))))) (mo_d (mo_d (mo_l (mo_iald _)) (mo_l (mo_iload _ _))) (mo_d (mo_l (mo_iadd _)) (mo_d (mo_l (mo_ic _ _)) (mo_l (mo_cmpge _ _)))))))) (mo_d (mo_d (mo_d (mo_d (mo_d (mo_l (mo_ic _ _)) (mo_l (mo_goto _))) (mo_d (mo_l (mo_ic _ _)) (mo_l (mo_istore _ _)))) (mo_d (mo_d (mo_l (mo_aload _ _)) (mo_l (mo_ic _ _))) (mo_d (mo_l (mo_dup2 _)) (mo_d (mo_l (mo_iald _)) (mo_l (mo_iload _ _)))))) (mo_d (mo_d (mo_d (mo_l (mo_ifeq _ _)) (mo_l (mo_iload _ _))) (mo_d (mo_l (mo_goto _)) (mo_d (mo_l (mo_ic _ _)) (mo_l (mo_iadd _))))) (mo_d (mo_d (mo_l (mo_iast _)) (mo_l (mo_aload _ _))) (mo_d (mo_l (mo_ic _ _)) (mo_d (mo_l (mo_iload _ _)) (mo_l (mo_ic _ _))))))) (mo_d (mo_d (mo_d (mo_d (mo_l (mo_ic _ _)) (mo_l (mo_ic _ _))) (mo_d (mo_l (mo_ic _ _)) (mo_d (mo_l (mo_cI _ _ _ _ zPre_S zHm_0)) (mo_l (mo_iload _ _))))) (mo_d (mo_d (mo_l (mo_ifne _ _)) (mo_l (mo_ic _ _))) (mo_d (mo_l (mo_goto _)) (mo_d (mo_l (mo_iload _ _)) (mo_l (mo_ifeq _ _)))))) (mo_d (mo_d (mo_d (mo_l (mo_aload _ _)) (mo_l (mo_ic _ _))) (mo_d (mo_l (mo_iald _)) (mo_d (mo_l (mo_goto _)) (mo_l (mo_ic _ _))))) (mo_d (mo_d (mo_l (mo_cmpne _ _)) (mo_l (mo_ic _ _))) (mo_d (mo_l (mo_goto _)) (mo_d (mo_l (mo_ic _ _)) (mo_l (mo_rZ)))))))))))
def zc_X11_crimps (G : Nat × Nat) : Nat → zSem := fun pc =>
 znd pc 21
 (znd pc 9
 (znd pc 2
 (znd pc 1
 (zlf pc 0 (s_iload 1 1))
 (zlf pc 1 (s_ic 0 2)))
 (znd pc 3
 (zlf pc 2 (s_ic 2 3))
 (znd pc 6
 (zlf pc 3 (s_cI zpS 14 3 [] zx0 6))
 (zlf pc 6 (s_cV zpS 15 1 [] zx0 9)))))
 (znd pc 14
 (znd pc 10
 (zlf pc 9 (s_iload 1 10))
 (znd pc 13
 (zlf pc 10 (s_ifne 21 13))
 (zlf pc 13 (s_aload 0 14))))
 (znd pc 17
 (zlf pc 14 (s_gR 12 2 17))
 (znd pc 20
 (zlf pc 17 (s_gI 4 0 20))
 (zlf pc 20 (s_rI))))))
 (znd pc 30
 (znd pc 23
 (znd pc 22
 (zlf pc 21 (s_iload 1 22))
 (zlf pc 22 (s_ic 1 23)))
 (znd pc 26
 (zlf pc 23 (s_cmpne 36 26))
 (znd pc 27
 (zlf pc 26 (s_aload 0 27))
 (zlf pc 27 (s_gR 12 2 30)))))
 (znd pc 37
 (znd pc 33
 (zlf pc 30 (s_gI 4 1 33))
 (znd pc 36
 (zlf pc 33 (s_goto 43))
 (zlf pc 36 (s_aload 0 37))))
 (znd pc 40
 (zlf pc 37 (s_gR 12 2 40))
 (znd pc 43
 (zlf pc 40 (s_cI (zpV 4) 116 1 [zU, zU] zx0 43))
 (zlf pc 43 (s_rI))))))
theorem zm_X11_crimps (G : Nat × Nat) (pc : Nat) : zMon (zc_X11_crimps G pc) := (mo_d (mo_d (mo_d (mo_d (mo_l (mo_iload _ _)) (mo_l (mo_ic _ _))) (mo_d (mo_l (mo_ic _ _)) (mo_d (mo_l (mo_cI _ _ _ _ zPre_S zHm_0)) (mo_l (mo_cV _ _ _ _ zPre_S zHm_0))))) (mo_d (mo_d (mo_l (mo_iload _ _)) (mo_d (mo_l (mo_ifne _ _)) (mo_l (mo_aload _ _)))) (mo_d (mo_l (mo_gR _ _ _)) (mo_d (mo_l (mo_gI _ _ _)) (mo_l (mo_rI)))))) (mo_d (mo_d (mo_d (mo_l (mo_iload _ _)) (mo_l (mo_ic _ _))) (mo_d (mo_l (mo_cmpne _ _)) (mo_d (mo_l (mo_aload _ _)) (mo_l (mo_gR _ _ _))))) (mo_d (mo_d (mo_l (mo_gI _ _ _)) (mo_d (mo_l (mo_goto _)) (mo_l (mo_aload _ _)))) (mo_d (mo_l (mo_gR _ _ _)) (mo_d (mo_l (mo_cI _ _ _ _ (zPre_V _) zHm_0)) (mo_l (mo_rI)))))))
def zc_X11_weight (G : Nat × Nat) : Nat → zSem := fun pc =>
 znd pc 11
 (znd pc 2
 (znd pc 1
 (zlf pc 0 (s_iload 1 1))
 (zlf pc 1 (s_ic 0 2)))
 (znd pc 5
 (zlf pc 2 (s_ic 255 5))
 (znd pc 8
 (zlf pc 5 (s_cI zpS 14 3 [] zx0 8))
 (zlf pc 8 (s_cV zpS 15 1 [] zx0 11)))))
 (znd pc 15
 (znd pc 12
 (zlf pc 11 (s_aload 0 12))
 (zlf pc 12 (s_gR 12 0 15)))
 (znd pc 16
 (zlf pc 15 (s_iload 1 16))
 (znd pc 19
 (zlf pc 16 (s_cI (zpV 5) 88 2 [zU, zU, zU] zx0 19))
 (zlf pc 19 (s_rI)))))
theorem zm_X11_weight (G : Nat × Nat) (pc : Nat) : zMon (zc_X11_weight G pc) := (mo_d (mo_d (mo_d (mo_l (mo_iload _ _)) (mo_l (mo_ic _ _))) (mo_d (mo_l (mo_ic _ _)) (mo_d (mo_l (mo_cI _ _ _ _ zPre_S zHm_0)) (mo_l (mo_cV _ _ _ _ zPre_S zHm_0))))) (mo_d (mo_d (mo_l (mo_aload _ _)) (mo_l (mo_gR _ _ _))) (mo_d (mo_l (mo_iload _ _)) (mo_d (mo_l (mo_cI _ _ _ _ (zPre_V _) zHm_0)) (mo_l (mo_rI))))))
def zc_L_weight (G : Nat × Nat) : Nat → zSem := fun pc =>
 znd pc 30
 (znd pc 14
 (znd pc 6
 (znd pc 3
 (znd pc 1
 (zlf pc 0 (s_ic 0 1))
 (zlf pc 1 (s_istore 4 3)))
 (znd pc 4
 (zlf pc 3 (s_ic 0 4))
 (zlf pc 4 (s_istore 5 6))))
 (znd pc 9
 (znd pc 8
 (zlf pc 6 (s_iload 5 8))
 (zlf pc 8 (s_aload 2 9)))
 (znd pc 10
 (zlf pc 9 (s_ic 2 10))
 (znd pc 11
 (zlf pc 10 (s_iald 11))
 (zlf pc 11 (s_cmpge 61 14))))))
 (znd pc 22
 (znd pc 17
 (znd pc 16
 (zlf pc 14 (s_iload 4 16))
 (zlf pc 16 (s_aload 0 17)))
 (znd pc 19
 (zlf pc 17 (s_iload 5 19))
 (znd pc 20
 (zlf pc 19 (s_iald 20))
 (zlf pc 20 (s_ic 32768 22)))))
 (znd pc 26
 (znd pc 25
 (zlf pc 22 (s_cmpge 51 25))
 (zlf pc 25 (s_iload 3 26)))
 (znd pc 27
 (zlf pc 26 (s_aload 0 27))
 (znd pc 29
 (zlf pc 27 (s_iload 5 29))
 (zlf pc 29 (s_iald 30)))))))
 (znd pc 46
 (znd pc 37
 (znd pc 34
 (znd pc 33
 (zlf pc 30 (s_ic 4096 33))
 (zlf pc 33 (s_idiv 34)))
 (znd pc 35
 (zlf pc 34 (s_ishr 35))
 (znd pc 36
 (zlf pc 35 (s_ic 1 36))
 (zlf pc 36 (s_iand 37)))))
 (znd pc 41
 (znd pc 38
 (zlf pc 37 (s_ic 1 38))
 (zlf pc 38 (s_cmpne 51 41)))
 (znd pc 42
 (zlf pc 41 (s_aload 1 42))
 (znd pc 44
 (zlf pc 42 (s_ic 24 44))
 (zlf pc 44 (s_iload 5 46))))))
 (znd pc 53
 (znd pc 48
 (znd pc 47
 (zlf pc 46 (s_iadd 47))
 (zlf pc 47 (s_iald 48)))
 (znd pc 51
 (zlf pc 48 (s_goto 52))
 (znd pc 52
 (zlf pc 51 (s_ic 0 52))
 (zlf pc 52 (s_iadd 53)))))
 (znd pc 58
 (znd pc 55
 (zlf pc 53 (s_istore 4 55))
 (zlf pc 55 (s_iinc 5 1 58)))
 (znd pc 61
 (zlf pc 58 (s_goto 6))
 (znd pc 63
 (zlf pc 61 (s_iload 4 63))
 (zlf pc 63 (s_rI)))))))
theorem zm_L_weight (G : Nat × Nat) (pc : Nat) : zMon (zc_L_weight G pc) := (mo_d (mo_d (mo_d (mo_d (mo_d (mo_l (mo_ic _ _)) (mo_l (mo_istore _ _))) (mo_d (mo_l (mo_ic _ _)) (mo_l (mo_istore _ _)))) (mo_d (mo_d (mo_l (mo_iload _ _)) (mo_l (mo_aload _ _))) (mo_d (mo_l (mo_ic _ _)) (mo_d (mo_l (mo_iald _)) (mo_l (mo_cmpge _ _)))))) (mo_d (mo_d (mo_d (mo_l (mo_iload _ _)) (mo_l (mo_aload _ _))) (mo_d (mo_l (mo_iload _ _)) (mo_d (mo_l (mo_iald _)) (mo_l (mo_ic _ _))))) (mo_d (mo_d (mo_l (mo_cmpge _ _)) (mo_l (mo_iload _ _))) (mo_d (mo_l (mo_aload _ _)) (mo_d (mo_l (mo_iload _ _)) (mo_l (mo_iald _))))))) (mo_d (mo_d (mo_d (mo_d (mo_l (mo_ic _ _)) (mo_l (mo_idiv _))) (mo_d (mo_l (mo_ishr _)) (mo_d (mo_l (mo_ic _ _)) (mo_l (mo_iand _))))) (mo_d (mo_d (mo_l (mo_ic _ _)) (mo_l (mo_cmpne _ _))) (mo_d (mo_l (mo_aload _ _)) (mo_d (mo_l (mo_ic _ _)) (mo_l (mo_iload _ _)))))) (mo_d (mo_d (mo_d (mo_l (mo_iadd _)) (mo_l (mo_iald _))) (mo_d (mo_l (mo_goto _)) (mo_d (mo_l (mo_ic _ _)) (mo_l (mo_iadd _))))) (mo_d (mo_d (mo_l (mo_istore _ _)) (mo_l (mo_iinc _ _ _))) (mo_d (mo_l (mo_goto _)) (mo_d (mo_l (mo_iload _ _)) (mo_l (mo_rI))))))))
def zc_X11_jointAnew (G : Nat × Nat) : Nat → zSem := fun pc =>
 znd pc 17
 (znd pc 7
 (znd pc 2
 (znd pc 1
 (zlf pc 0 (s_aload 0 1))
 (zlf pc 1 (s_iload 1 2)))
 (znd pc 5
 (zlf pc 2 (s_cR (zpV 12) 146 2 [] zx0 5))
 (znd pc 6
 (zlf pc 5 (s_astore 3 6))
 (zlf pc 6 (s_aload 3 7)))))
 (znd pc 11
 (znd pc 8
 (zlf pc 7 (s_iload 2 8))
 (zlf pc 8 (s_cR (zpV 1) 147 2 [] zx0 11)))
 (znd pc 13
 (zlf pc 11 (s_astore 4 13))
 (znd pc 14
 (zlf pc 13 (s_aload 3 14))
 (zlf pc 14 (s_gI 1 0 17))))))
 (znd pc 30
 (znd pc 22
 (znd pc 20
 (zlf pc 17 (s_ifeq 40 20))
 (zlf pc 20 (s_aload 4 22)))
 (znd pc 25
 (zlf pc 22 (s_cI (zpV 10) 148 1 [] zx0 25))
 (znd pc 28
 (zlf pc 25 (s_ifeq 40 28))
 (zlf pc 28 (s_aload 4 30)))))
 (znd pc 37
 (znd pc 31
 (zlf pc 30 (s_aload 3 31))
 (znd pc 34
 (zlf pc 31 (s_cI (zpV 1) 163 1 [] zx0 34))
 (zlf pc 34 (s_cI (zpV 10) 164 2 [] zx0 37))))
 (znd pc 40
 (zlf pc 37 (s_goto 41))
 (znd pc 41
 (zlf pc 40 (s_ic (-1) 41))
 (zlf pc 41 (s_rI))))))
theorem zm_X11_jointAnew (G : Nat × Nat) (pc : Nat) : zMon (zc_X11_jointAnew G pc) := (mo_d (mo_d (mo_d (mo_d (mo_l (mo_aload _ _)) (mo_l (mo_iload _ _))) (mo_d (mo_l (mo_cR _ _ _ _ (zPre_V _) zHm_0)) (mo_d (mo_l (mo_astore _ _)) (mo_l (mo_aload _ _))))) (mo_d (mo_d (mo_l (mo_iload _ _)) (mo_l (mo_cR _ _ _ _ (zPre_V _) zHm_0))) (mo_d (mo_l (mo_astore _ _)) (mo_d (mo_l (mo_aload _ _)) (mo_l (mo_gI _ _ _)))))) (mo_d (mo_d (mo_d (mo_l (mo_ifeq _ _)) (mo_l (mo_aload _ _))) (mo_d (mo_l (mo_cI _ _ _ _ (zPre_V _) zHm_0)) (mo_d (mo_l (mo_ifeq _ _)) (mo_l (mo_aload _ _))))) (mo_d (mo_d (mo_l (mo_aload _ _)) (mo_d (mo_l (mo_cI _ _ _ _ (zPre_V _) zHm_0)) (mo_l (mo_cI _ _ _ _ (zPre_V _) zHm_0)))) (mo_d (mo_l (mo_goto _)) (mo_d (mo_l (mo_ic _ _)) (mo_l (mo_rI)))))))
def zc_L_isSo (G : Nat × Nat) : Nat → zSem := fun pc =>
 znd pc 318
 (znd pc 162
 (znd pc 84
 (znd pc 41
 (znd pc 18
 (znd pc 9
 (znd pc 2
 (znd pc 1
 (zlf pc 0 (s_aload 0 1))
 (zlf pc 1 (s_ic 0 2)))
 (znd pc 5
 (zlf pc 2 (s_cI (zpV 12) 123 2 [] zx0 5))
 (znd pc 7
 (zlf pc 5 (s_aload 11 7))
 (zlf pc 7 (s_ic 6 9)))))
 (znd pc 13
 (znd pc 10
 (zlf pc 9 (s_iald 10))
 (zlf pc 10 (s_cmpne 91 13)))
 (znd pc 14
 (zlf pc 13 (s_aload 0 14))
 (znd pc 15
 (zlf pc 14 (s_ic 1 15))
 (zlf pc 15 (s_cI (zpV 12) 123 2 [] zx0 18))))))
 (znd pc 27
 (znd pc 22
 (znd pc 20
 (zlf pc 18 (s_aload 11 20))
 (zlf pc 20 (s_ic 7 22)))
 (znd pc 23
 (zlf pc 22 (s_iald 23))
 (znd pc 26
 (zlf pc 23 (s_cmpne 91 26))
 (zlf pc 26 (s_aload 0 27)))))
 (znd pc 33
 (znd pc 28
 (zlf pc 27 (s_ic 2 28))
 (znd pc 31
 (zlf pc 28 (s_cI (zpV 12) 123 2 [] zx0 31))
 (zlf pc 31 (s_aload 10 33))))
 (znd pc 35
 (zlf pc 33 (s_aload 11 35))
 (znd pc 38
 (zlf pc 35 (s_cI zpS 215 2 [zU, zU, zU] zx0 38))
 (zlf pc 38 (s_cmpne 91 41)))))))
 (znd pc 62
 (znd pc 50
 (znd pc 45
 (znd pc 42
 (zlf pc 41 (s_aload 0 42))
 (zlf pc 42 (s_ic 255 45)))
 (znd pc 48
 (zlf pc 45 (s_cI (zpV 12) 89 2 [] zx0 48))
 (znd pc 49
 (zlf pc 48 (s_aload 1 49))
 (zlf pc 49 (s_aload 2 50)))))
 (znd pc 55
 (znd pc 52
 (zlf pc 50 (s_aload 11 52))
 (zlf pc 52 (s_ic 255 55)))
 (znd pc 58
 (zlf pc 55 (s_cI zpS 211 4 [zU, zU] zx0 58))
 (znd pc 61
 (zlf pc 58 (s_cmpne 91 61))
 (zlf pc 61 (s_aload 0 62))))))
 (znd pc 72
 (znd pc 67
 (znd pc 64
 (zlf pc 62 (s_iload 12 64))
 (zlf pc 64 (s_ic 256 67)))
 (znd pc 68
 (zlf pc 67 (s_irem 68))
 (znd pc 71
 (zlf pc 68 (s_cI (zpV 12) 89 2 [] zx0 71))
 (zlf pc 71 (s_aload 1 72)))))
 (znd pc 77
 (znd pc 73
 (zlf pc 72 (s_aload 2 73))
 (znd pc 75
 (zlf pc 73 (s_aload 11 75))
 (zlf pc 75 (s_iload 12 77))))
 (znd pc 80
 (zlf pc 77 (s_ic 256 80))
 (znd pc 81
 (zlf pc 80 (s_irem 81))
 (zlf pc 81 (s_cI zpS 211 4 [zU, zU] zx0 84))))))))
 (znd pc 122
 (znd pc 102
 (znd pc 94
 (znd pc 88
 (znd pc 87
 (zlf pc 84 (s_cmpne 91 87))
 (zlf pc 87 (s_ic 1 88)))
 (znd pc 91
 (zlf pc 88 (s_goto 92))
 (znd pc 92
 (zlf pc 91 (s_ic 0 92))
 (zlf pc 92 (s_istore 13 94)))))
 (znd pc 97
 (znd pc 95
 (zlf pc 94 (s_ic 0 95))
 (zlf pc 95 (s_istore 14 97)))
 (znd pc 99
 (zlf pc 97 (s_iload 14 99))
 (znd pc 101
 (zlf pc 99 (s_aload 11 101))
 (zlf pc 101 (s_ic 2 102))))))
 (znd pc 112
 (znd pc 106
 (znd pc 103
 (zlf pc 102 (s_iald 103))
 (zlf pc 103 (s_cmpge 154 106)))
 (znd pc 108
 (zlf pc 106 (s_iload 13 108))
 (znd pc 111
 (zlf pc 108 (s_ifeq 154 111))
 (zlf pc 111 (s_aload 0 112)))))
 (znd pc 118
 (znd pc 114
 (zlf pc 112 (s_iload 14 114))
 (znd pc 115
 (zlf pc 114 (s_ic (-1) 115))
 (zlf pc 115 (s_cI (zpV 12) 85 3 [zU] zx0 118))))
 (znd pc 119
 (zlf pc 118 (s_aload 1 119))
 (znd pc 121
 (zlf pc 119 (s_iload 14 121))
 (zlf pc 121 (s_iald 122)))))))
 (znd pc 141
 (znd pc 132
 (znd pc 127
 (znd pc 124
 (zlf pc 122 (s_ic 32768 124))
 (zlf pc 124 (s_cmpge 137 127)))
 (znd pc 128
 (zlf pc 127 (s_aload 2 128))
 (znd pc 130
 (zlf pc 128 (s_ic 24 130))
 (zlf pc 130 (s_iload 14 132)))))
 (znd pc 134
 (znd pc 133
 (zlf pc 132 (s_iadd 133))
 (zlf pc 133 (s_iald 134)))
 (znd pc 137
 (zlf pc 134 (s_goto 138))
 (znd pc 138
 (zlf pc 137 (s_ic 0 138))
 (zlf pc 138 (s_cmpne 145 141))))))
 (znd pc 151
 (znd pc 145
 (znd pc 142
 (zlf pc 141 (s_ic 1 142))
 (zlf pc 142 (s_goto 146)))
 (znd pc 146
 (zlf pc 145 (s_ic 0 146))
 (znd pc 148
 (zlf pc 146 (s_istore 13 148))
 (zlf pc 148 (s_iinc 14 1 151)))))
 (znd pc 157
 (znd pc 154
 (zlf pc 151 (s_goto 97))
 (znd pc 155
 (zlf pc 154 (s_ic 0 155))
 (zlf pc 155 (s_istore 14 157))))
 (znd pc 159
 (zlf pc 157 (s_iload 14 159))
 (znd pc 161
 (zlf pc 159 (s_aload 11 161))
 (zlf pc 161 (s_ic 4 162)))))))))
 (znd pc 241
 (znd pc 200
 (znd pc 181
 (znd pc 172
 (znd pc 166
 (znd pc 163
 (zlf pc 162 (s_iald 163))
 (zlf pc 163 (s_cmpge 350 166)))
 (znd pc 168
 (zlf pc 166 (s_iload 13 168))
 (znd pc 171
 (zlf pc 168 (s_ifeq 350 171))
 (zlf pc 171 (s_ic 0 172)))))
 (znd pc 175
 (znd pc 174
 (zlf pc 172 (s_istore 15 174))
 (zlf pc 174 (s_ic 0 175)))
 (znd pc 177
 (zlf pc 175 (s_istore 16 177))
 (znd pc 179
 (zlf pc 177 (s_iload 16 179))
 (zlf pc 179 (s_ic 8 181))))))
 (znd pc 189
 (znd pc 184
 (znd pc 183
 (zlf pc 181 (s_aload 11 183))
 (zlf pc 183 (s_ic 5 184)))
 (znd pc 185
 (zlf pc 184 (s_iald 185))
 (znd pc 186
 (zlf pc 185 (s_imul 186))
 (zlf pc 186 (s_cmpge 274 189)))))
 (znd pc 194
 (znd pc 190
 (zlf pc 189 (s_ic 0 190))
 (znd pc 192
 (zlf pc 190 (s_istore 17 192))
 (zlf pc 192 (s_iload 16 194))))
 (znd pc 196
 (zlf pc 194 (s_istore 18 196))
 (znd pc 198
 (zlf pc 196 (s_iload 18 198))
 (zlf pc 198 (s_iload 16 200)))))))
 (znd pc 219
 (znd pc 211
 (znd pc 203
 (znd pc 202
 (zlf pc 200 (s_ic 8 202))
 (zlf pc 202 (s_iadd 203)))
 (znd pc 206
 (zlf pc 203 (s_cmpge 239 206))
 (znd pc 208
 (zlf pc 206 (s_iload 17 208))
 (zlf pc 208 (s_ifne 226 211)))))
 (znd pc 215
 (znd pc 213
 (zlf pc 211 (s_aload 7 213))
 (zlf pc 213 (s_iload 18 215)))
 (znd pc 216
 (zlf pc 215 (s_iald 216))
 (znd pc 218
 (zlf pc 216 (s_ic 64 218))
 (zlf pc 218 (s_irem 219))))))
 (znd pc 227
 (znd pc 222
 (znd pc 221
 (zlf pc 219 (s_iload 14 221))
 (zlf pc 221 (s_ic 1 222)))
 (znd pc 223
 (zlf pc 222 (s_iadd 223))
 (znd pc 226
 (zlf pc 223 (s_cmpne 230 226))
 (zlf pc 226 (s_ic 1 227)))))
 (znd pc 233
 (znd pc 230
 (zlf pc 227 (s_goto 231))
 (znd pc 231
 (zlf pc 230 (s_ic 0 231))
 (zlf pc 231 (s_istore 17 233))))
 (znd pc 236
 (zlf pc 233 (s_iinc 18 1 236))
 (znd pc 239
 (zlf pc 236 (s_goto 196))
 (zlf pc 239 (s_iload 15 241))))))))
 (znd pc 278
 (znd pc 257
 (znd pc 252
 (znd pc 246
 (znd pc 243
 (zlf pc 241 (s_iload 17 243))
 (zlf pc 243 (s_ifeq 264 246)))
 (znd pc 248
 (zlf pc 246 (s_aload 9 248))
 (znd pc 250
 (zlf pc 248 (s_iload 16 250))
 (zlf pc 250 (s_ic 8 252)))))
 (znd pc 254
 (znd pc 253
 (zlf pc 252 (s_idiv 253))
 (zlf pc 253 (s_iald 254)))
 (znd pc 255
 (zlf pc 254 (s_ic 4 255))
 (znd pc 256
 (zlf pc 255 (s_idiv 256))
 (zlf pc 256 (s_ic 1 257))))))
 (znd pc 266
 (znd pc 261
 (znd pc 260
 (zlf pc 257 (s_cmpne 264 260))
 (zlf pc 260 (s_ic 1 261)))
 (znd pc 264
 (zlf pc 261 (s_goto 265))
 (znd pc 265
 (zlf pc 264 (s_ic 0 265))
 (zlf pc 265 (s_iadd 266)))))
 (znd pc 274
 (znd pc 268
 (zlf pc 266 (s_istore 15 268))
 (znd pc 271
 (zlf pc 268 (s_iinc 16 8 271))
 (zlf pc 271 (s_goto 177))))
 (znd pc 275
 (zlf pc 274 (s_aload 0 275))
 (znd pc 277
 (zlf pc 275 (s_iload 14 277))
 (zlf pc 277 (s_ic 0 278)))))))
 (znd pc 298
 (znd pc 287
 (znd pc 282
 (znd pc 281
 (zlf pc 278 (s_cI (zpV 12) 138 3 [zU] zx0 281))
 (zlf pc 281 (s_aload 3 282)))
 (znd pc 284
 (zlf pc 282 (s_iload 14 284))
 (znd pc 285
 (zlf pc 284 (s_iald 285))
 (zlf pc 285 (s_ic 8 287)))))
 (znd pc 292
 (znd pc 288
 (zlf pc 287 (s_irem 288))
 (znd pc 291
 (zlf pc 288 (s_cmpne 341 291))
 (zlf pc 291 (s_aload 0 292))))
 (znd pc 294
 (zlf pc 292 (s_iload 14 294))
 (znd pc 295
 (zlf pc 294 (s_ic 1 295))
 (zlf pc 295 (s_cI (zpV 12) 138 3 [zU] zx0 298))))))
 (znd pc 307
 (znd pc 302
 (znd pc 300
 (zlf pc 298 (s_aload 4 300))
 (zlf pc 300 (s_iload 14 302)))
 (znd pc 303
 (zlf pc 302 (s_iald 303))
 (znd pc 306
 (zlf pc 303 (s_cmpne 341 306))
 (zlf pc 306 (s_aload 0 307)))))
 (znd pc 313
 (znd pc 309
 (zlf pc 307 (s_iload 14 309))
 (znd pc 310
 (zlf pc 309 (s_ic 2 310))
 (zlf pc 310 (s_cI (zpV 12) 138 3 [zU] zx0 313))))
 (znd pc 314
 (zlf pc 313 (s_aload 3 314))
 (znd pc 316
 (zlf pc 314 (s_aload 5 316))
 (zlf pc 316 (s_aload 6 318))))))))))
 (znd pc 470
 (znd pc 398
 (znd pc 361
 (znd pc 341
 (znd pc 329
 (znd pc 323
 (znd pc 320
 (zlf pc 318 (s_iload 14 320))
 (zlf pc 320 (s_cI zpS 213 4 [zU] zx0 323)))
 (znd pc 326
 (zlf pc 323 (s_cmpne 341 326))
 (znd pc 327
 (zlf pc 326 (s_aload 0 327))
 (zlf pc 327 (s_iload 14 329)))))
 (znd pc 334
 (znd pc 332
 (zlf pc 329 (s_cI (zpV 12) 202 2 [zU, zU, zU] zx0 332))
 (zlf pc 332 (s_iload 15 334)))
 (znd pc 337
 (zlf pc 334 (s_cmpne 341 337))
 (znd pc 338
 (zlf pc 337 (s_ic 1 338))
 (zlf pc 338 (s_goto 342))))))
 (znd pc 351
 (znd pc 344
 (znd pc 342
 (zlf pc 341 (s_ic 0 342))
 (zlf pc 342 (s_istore 13 344)))
 (znd pc 347
 (zlf pc 344 (s_iinc 14 1 347))
 (znd pc 350
 (zlf pc 347 (s_goto 157))
 (zlf pc 350 (s_ic 0 351)))))
 (znd pc 357
 (znd pc 353
 (zlf pc 351 (s_istore 14 353))
 (znd pc 355
 (zlf pc 353 (s_iload 14 355))
 (zlf pc 355 (s_ic 8 357))))
 (znd pc 359
 (zlf pc 357 (s_aload 11 359))
 (znd pc 360
 (zlf pc 359 (s_ic 5 360))
 (zlf pc 360 (s_iald 361)))))))
 (znd pc 380
 (znd pc 372
 (znd pc 365
 (znd pc 362
 (zlf pc 361 (s_imul 362))
 (zlf pc 362 (s_cmpge 546 365)))
 (znd pc 367
 (zlf pc 365 (s_iload 13 367))
 (znd pc 370
 (zlf pc 367 (s_ifeq 546 370))
 (zlf pc 370 (s_aload 7 372)))))
 (znd pc 375
 (znd pc 374
 (zlf pc 372 (s_iload 14 374))
 (zlf pc 374 (s_iald 375)))
 (znd pc 377
 (zlf pc 375 (s_ic 64 377))
 (znd pc 378
 (zlf pc 377 (s_idiv 378))
 (zlf pc 378 (s_ic 32 380))))))
 (znd pc 388
 (znd pc 383
 (znd pc 381
 (zlf pc 380 (s_irem 381))
 (zlf pc 381 (s_istore 15 383)))
 (znd pc 384
 (zlf pc 383 (s_aload 0 384))
 (znd pc 386
 (zlf pc 384 (s_iload 14 386))
 (zlf pc 386 (s_ic 8 388)))))
 (znd pc 393
 (znd pc 389
 (zlf pc 388 (s_idiv 389))
 (znd pc 391
 (zlf pc 389 (s_iload 14 391))
 (zlf pc 391 (s_ic 8 393))))
 (znd pc 394
 (zlf pc 393 (s_irem 394))
 (znd pc 395
 (zlf pc 394 (s_ic 0 395))
 (zlf pc 395 (s_cI (zpV 12) 195 4 [zU] zx0 398))))))))
 (znd pc 434
 (znd pc 414
 (znd pc 406
 (znd pc 402
 (znd pc 400
 (zlf pc 398 (s_aload 7 400))
 (zlf pc 400 (s_iload 14 402)))
 (znd pc 403
 (zlf pc 402 (s_iald 403))
 (znd pc 405
 (zlf pc 403 (s_ic 64 405))
 (zlf pc 405 (s_irem 406)))))
 (znd pc 408
 (znd pc 407
 (zlf pc 406 (s_ic 1 407))
 (zlf pc 407 (s_isub 408)))
 (znd pc 411
 (zlf pc 408 (s_cmpne 537 411))
 (znd pc 412
 (zlf pc 411 (s_aload 0 412))
 (zlf pc 412 (s_iload 14 414))))))
 (znd pc 422
 (znd pc 417
 (znd pc 416
 (zlf pc 414 (s_ic 8 416))
 (zlf pc 416 (s_idiv 417)))
 (znd pc 419
 (zlf pc 417 (s_iload 14 419))
 (znd pc 421
 (zlf pc 419 (s_ic 8 421))
 (zlf pc 421 (s_irem 422)))))
 (znd pc 428
 (znd pc 423
 (zlf pc 422 (s_ic 1 423))
 (znd pc 426
 (zlf pc 423 (s_cI (zpV 12) 195 4 [zU] zx0 426))
 (zlf pc 426 (s_aload 8 428))))
 (znd pc 430
 (zlf pc 428 (s_iload 14 430))
 (znd pc 431
 (zlf pc 430 (s_iald 431))
 (zlf pc 431 (s_cmpne 537 434)))))))
 (znd pc 452
 (znd pc 442
 (znd pc 437
 (znd pc 435
 (zlf pc 434 (s_aload 0 435))
 (zlf pc 435 (s_iload 14 437)))
 (znd pc 439
 (zlf pc 437 (s_ic 8 439))
 (znd pc 440
 (zlf pc 439 (s_idiv 440))
 (zlf pc 440 (s_iload 14 442)))))
 (znd pc 446
 (znd pc 444
 (zlf pc 442 (s_ic 8 444))
 (znd pc 445
 (zlf pc 444 (s_irem 445))
 (zlf pc 445 (s_ic 2 446))))
 (znd pc 449
 (zlf pc 446 (s_cI (zpV 12) 195 4 [zU] zx0 449))
 (znd pc 451
 (zlf pc 449 (s_iload 15 451))
 (zlf pc 451 (s_ic 4 452))))))
 (znd pc 459
 (znd pc 454
 (znd pc 453
 (zlf pc 452 (s_idiv 453))
 (zlf pc 453 (s_ic 2 454)))
 (znd pc 455
 (zlf pc 454 (s_irem 455))
 (znd pc 456
 (zlf pc 455 (s_ic 1 456))
 (zlf pc 456 (s_cmpne 466 459)))))
 (znd pc 463
 (znd pc 461
 (zlf pc 459 (s_iload 15 461))
 (znd pc 462
 (zlf pc 461 (s_ic 4 462))
 (zlf pc 462 (s_irem 463))))
 (znd pc 466
 (zlf pc 463 (s_goto 467))
 (znd pc 467
 (zlf pc 466 (s_ic 0 467))
 (zlf pc 467 (s_cmpne 537 470)))))))))
 (znd pc 543
 (znd pc 505
 (znd pc 487
 (znd pc 478
 (znd pc 473
 (znd pc 471
 (zlf pc 470 (s_aload 0 471))
 (zlf pc 471 (s_iload 14 473)))
 (znd pc 475
 (zlf pc 473 (s_ic 8 475))
 (znd pc 476
 (zlf pc 475 (s_idiv 476))
 (zlf pc 476 (s_iload 14 478)))))
 (znd pc 481
 (znd pc 480
 (zlf pc 478 (s_ic 8 480))
 (zlf pc 480 (s_irem 481)))
 (znd pc 482
 (zlf pc 481 (s_ic 3 482))
 (znd pc 485
 (zlf pc 482 (s_cI (zpV 12) 195 4 [zU] zx0 485))
 (zlf pc 485 (s_iload 15 487))))))
 (znd pc 495
 (znd pc 490
 (znd pc 489
 (zlf pc 487 (s_ic 8 489))
 (zlf pc 489 (s_idiv 490)))
 (znd pc 491
 (zlf pc 490 (s_ic 2 491))
 (znd pc 492
 (zlf pc 491 (s_irem 492))
 (zlf pc 492 (s_cmpne 537 495)))))
 (znd pc 500
 (znd pc 497
 (zlf pc 495 (s_iload 14 497))
 (znd pc 499
 (zlf pc 497 (s_iload 12 499))
 (zlf pc 499 (s_iadd 500))))
 (znd pc 501
 (zlf pc 500 (s_ic 3 501))
 (znd pc 502
 (zlf pc 501 (s_irem 502))
 (zlf pc 502 (s_ifgt 533 505)))))))
 (znd pc 523
 (znd pc 513
 (znd pc 508
 (znd pc 506
 (zlf pc 505 (s_aload 0 506))
 (zlf pc 506 (s_iload 14 508)))
 (znd pc 510
 (zlf pc 508 (s_ic 8 510))
 (znd pc 511
 (zlf pc 510 (s_idiv 511))
 (zlf pc 511 (s_iload 14 513)))))
 (znd pc 516
 (znd pc 515
 (zlf pc 513 (s_ic 8 515))
 (zlf pc 515 (s_irem 516)))
 (znd pc 519
 (zlf pc 516 (s_cI (zpV 12) 198 3 [zU, zU] zx0 519))
 (znd pc 521
 (zlf pc 519 (s_aload 7 521))
 (zlf pc 521 (s_iload 14 523))))))
 (znd pc 530
 (znd pc 527
 (znd pc 524
 (zlf pc 523 (s_iald 524))
 (zlf pc 524 (s_ic 2048 527)))
 (znd pc 528
 (zlf pc 527 (s_idiv 528))
 (znd pc 529
 (zlf pc 528 (s_ic 1 529))
 (zlf pc 529 (s_isub 530)))))
 (znd pc 537
 (znd pc 533
 (zlf pc 530 (s_cmpne 537 533))
 (znd pc 534
 (zlf pc 533 (s_ic 1 534))
 (zlf pc 534 (s_goto 538))))
 (znd pc 538
 (zlf pc 537 (s_ic 0 538))
 (znd pc 540
 (zlf pc 538 (s_istore 13 540))
 (zlf pc 540 (s_iinc 14 1 543))))))))
 (znd pc 577
 (znd pc 559
 (znd pc 553
 (znd pc 548
 (znd pc 546
 (zlf pc 543 (s_goto 353))
 (zlf pc 546 (s_iload 13 548)))
 (znd pc 551
 (zlf pc 548 (s_ifeq 611 551))
 (znd pc 552
 (zlf pc 551 (s_aload 0 552))
 (zlf pc 552 (s_ic 5 553)))))
 (znd pc 556
 (znd pc 555
 (zlf pc 553 (s_aload 11 555))
 (zlf pc 555 (s_ic 2 556)))
 (znd pc 557
 (zlf pc 556 (s_iald 557))
 (znd pc 558
 (zlf pc 557 (s_ic (-1) 558))
 (zlf pc 558 (s_ic 0 559))))))
 (znd pc 569
 (znd pc 561
 (znd pc 560
 (zlf pc 559 (s_ic 0 560))
 (zlf pc 560 (s_ic 0 561)))
 (znd pc 564
 (zlf pc 561 (s_cI zpS 207 7 [zU] zx0 564))
 (znd pc 566
 (zlf pc 564 (s_ic (-3000000) 566))
 (zlf pc 566 (s_cmpne 611 569)))))
 (znd pc 574
 (znd pc 570
 (zlf pc 569 (s_aload 0 570))
 (znd pc 572
 (zlf pc 570 (s_ic 10 572))
 (zlf pc 572 (s_aload 11 574))))
 (znd pc 575
 (zlf pc 574 (s_ic 4 575))
 (znd pc 576
 (zlf pc 575 (s_iald 576))
 (zlf pc 576 (s_ic 0 577)))))))
 (znd pc 595
 (znd pc 585
 (znd pc 579
 (znd pc 578
 (zlf pc 577 (s_ic 0 578))
 (zlf pc 578 (s_ic 0 579)))
 (znd pc 580
 (zlf pc 579 (s_ic 0 580))
 (znd pc 583
 (zlf pc 580 (s_cI zpS 207 7 [zU] zx0 583))
 (zlf pc 583 (s_ic (-3000000) 585)))))
 (znd pc 591
 (znd pc 588
 (zlf pc 585 (s_cmpne 611 588))
 (znd pc 589
 (zlf pc 588 (s_aload 0 589))
 (zlf pc 589 (s_ic 21 591))))
 (znd pc 593
 (zlf pc 591 (s_aload 11 593))
 (znd pc 594
 (zlf pc 593 (s_ic 5 594))
 (zlf pc 594 (s_iald 595))))))
 (znd pc 602
 (znd pc 597
 (znd pc 596
 (zlf pc 595 (s_ic 0 596))
 (zlf pc 596 (s_ic 0 597)))
 (znd pc 598
 (zlf pc 597 (s_ic 0 598))
 (znd pc 599
 (zlf pc 598 (s_ic 0 599))
 (zlf pc 599 (s_cI zpS 207 7 [zU] zx0 602)))))
 (znd pc 608
 (znd pc 604
 (zlf pc 602 (s_ic (-3000000) 604))
 (znd pc 607
 (zlf pc 604 (s_cmpne 611 607))
 (zlf pc 607 (s_ic 1 608))))
 (znd pc 611
 (zlf pc 608 (s_goto 612))
 (znd pc 612
 (zlf pc 611 (s_ic 0 612))
 (zlf pc 612 (s_rZ))))))))))
theorem zm_L_isSo (G : Nat × Nat) (pc : Nat) : zMon (zc_L_isSo G pc) := (mo_d (mo_d (mo_d (mo_d (mo_d (mo_d (mo_d (mo_d (mo_l (mo_aload _ _)) (mo_l (mo_ic _ _))) (mo_d (mo_l (mo_cI _ _ _ _ (zPre_V _) zHm_0)) (mo_d (mo_l (mo_aload _ _)) (mo_l (mo_ic _ _))))) (mo_d (mo_d (mo_l (mo_iald _)) (mo_l (mo_cmpne _ _))) (mo_d (mo_l (mo_aload _ _)) (mo_d (mo_l (mo_ic _ _)) (mo_l (mo_cI _ _ _ _ (zPre_V _) zHm_0)))))) (mo_d (mo_d (mo_d (mo_l (mo_aload _ _)) (mo_l (mo_ic _ _))) (mo_d (mo_l (mo_iald _)) (mo_d (mo_l (mo_cmpne _ _)) (mo_l (mo_aload _ _))))) (mo_d (mo_d (mo_l (mo_ic _ _)) (mo_d (mo_l (mo_cI _ _ _ _ (zPre_V _) zHm_0)) (mo_l (mo_aload _ _)))) (mo_d (mo_l (mo_aload _ _)) (mo_d (mo_l (mo_cI _ _ _ _ zPre_S zHm_0)) (mo_l (mo_cmpne _ _))))))) (mo_d (mo_d (mo_d (mo_d (mo_l (mo_aload _ _)) (mo_l (mo_ic _ _))) (mo_d (mo_l (mo_cI _ _ _ _ (zPre_V _) zHm_0)) (mo_d (mo_l (mo_aload _ _)) (mo_l (mo_aload _ _))))) (mo_d (mo_d (mo_l (mo_aload _ _)) (mo_l (mo_ic _ _))) (mo_d (mo_l (mo_cI _ _ _ _ zPre_S zHm_0)) (mo_d (mo_l (mo_cmpne _ _)) (mo_l (mo_aload _ _)))))) (mo_d (mo_d (mo_d (mo_l (mo_iload _ _)) (mo_l (mo_ic _ _))) (mo_d (mo_l (mo_irem _)) (mo_d (mo_l (mo_cI _ _ _ _ (zPre_V _) zHm_0)) (mo_l (mo_aload _ _))))) (mo_d (mo_d (mo_l (mo_aload _ _)) (mo_d (mo_l (mo_aload _ _)) (mo_l (mo_iload _ _)))) (mo_d (mo_l (mo_ic _ _)) (mo_d (mo_l (mo_irem _)) (mo_l (mo_cI _ _ _ _ zPre_S zHm_0)))))))) (mo_d (mo_d (mo_d (mo_d (mo_d (mo_l (mo_cmpne _ _)) (mo_l (mo_ic _ _))) (mo_d (mo_l (mo_goto _)) (mo_d (mo_l (mo_ic _ _)) (mo_l (mo_istore _ _))))) (mo_d (mo_d (mo_l (mo_ic _ _)) (mo_l (mo_istore _ _))) (mo_d (mo_l (mo_iload _ _)) (mo_d (mo_l (mo_aload _ _)) (mo_l (mo_ic _ _)))))) (mo_d (mo_d (mo_d (mo_l (mo_iald _)) (mo_l (mo_cmpge _ _))) (mo_d (mo_l (mo_iload _ _)) (mo_d (mo_l (mo_ifeq _ _)) (mo_l (mo_aload _ _))))) (mo_d (mo_d (mo_l (mo_iload _ _)) (mo_d (mo_l (mo_ic _ _)) (mo_l (mo_cI _ _ _ _ (zPre_V _) zHm_0)))) (mo_d (mo_l (mo_aload _ _)) (mo_d (mo_l (mo_iload _ _)) (mo_l (mo_iald _))))))) (mo_d (mo_d (mo_d (mo_d (mo_l (mo_ic _ _)) (mo_l (mo_cmpge _ _))) (mo_d (mo_l (mo_aload _ _)) (mo_d (mo_l (mo_ic _ _)) (mo_l (mo_iload _ _))))) (mo_d (mo_d (mo_l (mo_iadd _)) (mo_l (mo_iald _))) (mo_d (mo_l (mo_goto _)) (mo_d (mo_l (mo_ic _ _)) (mo_l (mo_cmpne _ _)))))) (mo_d (mo_d (mo_d (mo_l (mo_ic _ _)) (mo_l (mo_goto _))) (mo_d (mo_l (mo_ic _ _)) (mo_d (mo_l (mo_istore _ _)) (mo_l (mo_iinc _ _ _))))) (mo_d (mo_d (mo_l (mo_goto _)) (mo_d (mo_l (mo_ic _ _)) (mo_l (mo_istore _ _)))) (mo_d (mo_l (mo_iload _ _)) (mo_d (mo_l (mo_aload _ _)) (mo_l (mo_ic _ _))))))))) (mo_d (mo_d (mo_d (mo_d (mo_d (mo_d (mo_l (mo_iald _)) (mo_l (mo_cmpge _ _))) (mo_d (mo_l (mo_iload _ _)) (mo_d (mo_l (mo_ifeq _ _)) (mo_l (mo_ic _ _))))) (mo_d (mo_d (mo_l (mo_istore _ _)) (mo_l (mo_ic _ _))) (mo_d (mo_l (mo_istore _ _)) (mo_d (mo_l (mo_iload _ _)) (mo_l (mo_ic _ _)))))) (mo_d (mo_d (mo_d (mo_l (mo_aload _ _)) (mo_l (mo_ic _ _))) (mo_d (mo_l (mo_iald _)) (mo_d (mo_l (mo_imul _)) (mo_l (mo_cmpge _ _))))) (mo_d (mo_d (mo_l (mo_ic _ _)) (mo_d (mo_l (mo_istore _ _)) (mo_l (mo_iload _ _)))) (mo_d (mo_l (mo_istore _ _)) (mo_d (mo_l (mo_iload _ _)) (mo_l (mo_iload _ _))))))) (mo_d (mo_d (mo_d (mo_d (mo_l (mo_ic _ _)) (mo_l (mo_iadd _))) (mo_d (mo_l (mo_cmpge _ _)) (mo_d (mo_l (mo_iload _ _)) (mo_l (mo_ifne _ _))))) (mo_d (mo_d (mo_l (mo_aload _ _)) (mo_l (mo_iload _ _))) (mo_d (mo_l (mo_iald _)) (mo_d (mo_l (mo_ic _ _)) (mo_l (mo_irem _)))))) (mo_d (mo_d (mo_d (mo_l (mo_iload _ _)) (mo_l (mo_ic _ _))) (mo_d (mo_l (mo_iadd _)) (mo_d (mo_l (mo_cmpne _ _)) (mo_l (mo_ic _ _))))) (mo_d (mo_d (mo_l (mo_goto _)) (mo_d (mo_l (mo_ic _ _)) (mo_l (mo_istore _ _)))) (mo_d (mo_l (mo_iinc _ _ _)) (mo_d (mo_l (mo_goto _)) (mo_l (mo_iload _ _)))))))) (mo_d (mo_d (mo_d (mo_d (mo_d (mo_l (mo_iload _ _)) (mo_l (mo_ifeq _ _))) (mo_d (mo_l (mo_aload _ _)) (mo_d (mo_l (mo_iload _ _)) (mo_l (mo_ic _ _))))) (mo_d (mo_d (mo_l (mo_idiv _)) (mo_l (mo_iald _))) (mo_d (mo_l (mo_ic _ _)) (mo_d (mo_l (mo_idiv _)) (mo_l (mo_ic _ _)))))) (mo_d (mo_d (mo_d (mo_l (mo_cmpne _ _)) (mo_l (mo_ic _ _))) (mo_d (mo_l (mo_goto _)) (mo_d (mo_l (mo_ic _ _)) (mo_l (mo_iadd _))))) (mo_d (mo_d (mo_l (mo_istore _ _)) (mo_d (mo_l (mo_iinc _ _ _)) (mo_l (mo_goto _)))) (mo_d (mo_l (mo_aload _ _)) (mo_d (mo_l (mo_iload _ _)) (mo_l (mo_ic _ _))))))) (mo_d (mo_d (mo_d (mo_d (mo_l (mo_cI _ _ _ _ (zPre_V _) zHm_0)) (mo_l (mo_aload _ _))) (mo_d (mo_l (mo_iload _ _)) (mo_d (mo_l (mo_iald _)) (mo_l (mo_ic _ _))))) (mo_d (mo_d (mo_l (mo_irem _)) (mo_d (mo_l (mo_cmpne _ _)) (mo_l (mo_aload _ _)))) (mo_d (mo_l (mo_iload _ _)) (mo_d (mo_l (mo_ic _ _)) (mo_l (mo_cI _ _ _ _ (zPre_V _) zHm_0)))))) (mo_d (mo_d (mo_d (mo_l (mo_aload _ _)) (mo_l (mo_iload _ _))) (mo_d (mo_l (mo_iald _)) (mo_d (mo_l (mo_cmpne _ _)) (mo_l (mo_aload _ _))))) (mo_d (mo_d (mo_l (mo_iload _ _)) (mo_d (mo_l (mo_ic _ _)) (mo_l (mo_cI _ _ _ _ (zPre_V _) zHm_0)))) (mo_d (mo_l (mo_aload _ _)) (mo_d (mo_l (mo_aload _ _)) (mo_l (mo_aload _ _)))))))))) (mo_d (mo_d (mo_d (mo_d (mo_d (mo_d (mo_d (mo_l (mo_iload _ _)) (mo_l (mo_cI _ _ _ _ zPre_S zHm_0))) (mo_d (mo_l (mo_cmpne _ _)) (mo_d (mo_l (mo_aload _ _)) (mo_l (mo_iload _ _))))) (mo_d (mo_d (mo_l (mo_cI _ _ _ _ (zPre_V _) zHm_0)) (mo_l (mo_iload _ _))) (mo_d (mo_l (mo_cmpne _ _)) (mo_d (mo_l (mo_ic _ _)) (mo_l (mo_goto _)))))) (mo_d (mo_d (mo_d (mo_l (mo_ic _ _)) (mo_l (mo_istore _ _))) (mo_d (mo_l (mo_iinc _ _ _)) (mo_d (mo_l (mo_goto _)) (mo_l (mo_ic _ _))))) (mo_d (mo_d (mo_l (mo_istore _ _)) (mo_d (mo_l (mo_iload _ _)) (mo_l (mo_ic _ _)))) (mo_d (mo_l (mo_aload _ _)) (mo_d (mo_l (mo_ic _ _)) (mo_l (mo_iald _))))))) (mo_d (mo_d (mo_d (mo_d (mo_l (mo_imul _)) (mo_l (mo_cmpge _ _))) (mo_d (mo_l (mo_iload _ _)) (mo_d (mo_l (mo_ifeq _ _)) (mo_l (mo_aload _ _))))) (mo_d (mo_d (mo_l (mo_iload _ _)) (mo_l (mo_iald _))) (mo_d (mo_l (mo_ic _ _)) (mo_d (mo_l (mo_idiv _)) (mo_l (mo_ic _ _)))))) (mo_d (mo_d (mo_d (mo_l (mo_irem _)) (mo_l (mo_istore _ _))) (mo_d (mo_l (mo_aload _ _)) (mo_d (mo_l (mo_iload _ _)) (mo_l (mo_ic _ _))))) (mo_d (mo_d (mo_l (mo_idiv _)) (mo_d (mo_l (mo_iload _ _)) (mo_l (mo_ic _ _)))) (mo_d (mo_l (mo_irem _)) (mo_d (mo_l (mo_ic _ _)) (mo_l (mo_cI _ _ _ _ (zPre_V _) zHm_0)))))))) (mo_d (mo_d (mo_d (mo_d (mo_d (mo_l (mo_aload _ _)) (mo_l (mo_iload _ _))) (mo_d (mo_l (mo_iald _)) (mo_d (mo_l (mo_ic _ _)) (mo_l (mo_irem _))))) (mo_d (mo_d (mo_l (mo_ic _ _)) (mo_l (mo_isub _))) (mo_d (mo_l (mo_cmpne _ _)) (mo_d (mo_l (mo_aload _ _)) (mo_l (mo_iload _ _)))))) (mo_d (mo_d (mo_d (mo_l (mo_ic _ _)) (mo_l (mo_idiv _))) (mo_d (mo_l (mo_iload _ _)) (mo_d (mo_l (mo_ic _ _)) (mo_l (mo_irem _))))) (mo_d (mo_d (mo_l (mo_ic _ _)) (mo_d (mo_l (mo_cI _ _ _ _ (zPre_V _) zHm_0)) (mo_l (mo_aload _ _)))) (mo_d (mo_l (mo_iload _ _)) (mo_d (mo_l (mo_iald _)) (mo_l (mo_cmpne _ _))))))) (mo_d (mo_d (mo_d (mo_d (mo_l (mo_aload _ _)) (mo_l (mo_iload _ _))) (mo_d (mo_l (mo_ic _ _)) (mo_d (mo_l (mo_idiv _)) (mo_l (mo_iload _ _))))) (mo_d (mo_d (mo_l (mo_ic _ _)) (mo_d (mo_l (mo_irem _)) (mo_l (mo_ic _ _)))) (mo_d (mo_l (mo_cI _ _ _ _ (zPre_V _) zHm_0)) (mo_d (mo_l (mo_iload _ _)) (mo_l (mo_ic _ _)))))) (mo_d (mo_d (mo_d (mo_l (mo_idiv _)) (mo_l (mo_ic _ _))) (mo_d (mo_l (mo_irem _)) (mo_d (mo_l (mo_ic _ _)) (mo_l (mo_cmpne _ _))))) (mo_d (mo_d (mo_l (mo_iload _ _)) (mo_d (mo_l (mo_ic _ _)) (mo_l (mo_irem _)))) (mo_d (mo_l (mo_goto _)) (mo_d (mo_l (mo_ic _ _)) (mo_l (mo_cmpne _ _))))))))) (mo_d (mo_d (mo_d (mo_d (mo_d (mo_d (mo_l (mo_aload _ _)) (mo_l (mo_iload _ _))) (mo_d (mo_l (mo_ic _ _)) (mo_d (mo_l (mo_idiv _)) (mo_l (mo_iload _ _))))) (mo_d (mo_d (mo_l (mo_ic _ _)) (mo_l (mo_irem _))) (mo_d (mo_l (mo_ic _ _)) (mo_d (mo_l (mo_cI _ _ _ _ (zPre_V _) zHm_0)) (mo_l (mo_iload _ _)))))) (mo_d (mo_d (mo_d (mo_l (mo_ic _ _)) (mo_l (mo_idiv _))) (mo_d (mo_l (mo_ic _ _)) (mo_d (mo_l (mo_irem _)) (mo_l (mo_cmpne _ _))))) (mo_d (mo_d (mo_l (mo_iload _ _)) (mo_d (mo_l (mo_iload _ _)) (mo_l (mo_iadd _)))) (mo_d (mo_l (mo_ic _ _)) (mo_d (mo_l (mo_irem _)) (mo_l (mo_ifgt _ _))))))) (mo_d (mo_d (mo_d (mo_d (mo_l (mo_aload _ _)) (mo_l (mo_iload _ _))) (mo_d (mo_l (mo_ic _ _)) (mo_d (mo_l (mo_idiv _)) (mo_l (mo_iload _ _))))) (mo_d (mo_d (mo_l (mo_ic _ _)) (mo_l (mo_irem _))) (mo_d (mo_l (mo_cI _ _ _ _ (zPre_V _) zHm_0)) (mo_d (mo_l (mo_aload _ _)) (mo_l (mo_iload _ _)))))) (mo_d (mo_d (mo_d (mo_l (mo_iald _)) (mo_l (mo_ic _ _))) (mo_d (mo_l (mo_idiv _)) (mo_d (mo_l (mo_ic _ _)) (mo_l (mo_isub _))))) (mo_d (mo_d (mo_l (mo_cmpne _ _)) (mo_d (mo_l (mo_ic _ _)) (mo_l (mo_goto _)))) (mo_d (mo_l (mo_ic _ _)) (mo_d (mo_l (mo_istore _ _)) (mo_l (mo_iinc _ _ _)))))))) (mo_d (mo_d (mo_d (mo_d (mo_d (mo_l (mo_goto _)) (mo_l (mo_iload _ _))) (mo_d (mo_l (mo_ifeq _ _)) (mo_d (mo_l (mo_aload _ _)) (mo_l (mo_ic _ _))))) (mo_d (mo_d (mo_l (mo_aload _ _)) (mo_l (mo_ic _ _))) (mo_d (mo_l (mo_iald _)) (mo_d (mo_l (mo_ic _ _)) (mo_l (mo_ic _ _)))))) (mo_d (mo_d (mo_d (mo_l (mo_ic _ _)) (mo_l (mo_ic _ _))) (mo_d (mo_l (mo_cI _ _ _ _ zPre_S zHm_0)) (mo_d (mo_l (mo_ic _ _)) (mo_l (mo_cmpne _ _))))) (mo_d (mo_d (mo_l (mo_aload _ _)) (mo_d (mo_l (mo_ic _ _)) (mo_l (mo_aload _ _)))) (mo_d (mo_l (mo_ic _ _)) (mo_d (mo_l (mo_iald _)) (mo_l (mo_ic _ _))))))) (mo_d (mo_d (mo_d (mo_d (mo_l (mo_ic _ _)) (mo_l (mo_ic _ _))) (mo_d (mo_l (mo_ic _ _)) (mo_d (mo_l (mo_cI _ _ _ _ zPre_S zHm_0)) (mo_l (mo_ic _ _))))) (mo_d (mo_d (mo_l (mo_cmpne _ _)) (mo_d (mo_l (mo_aload _ _)) (mo_l (mo_ic _ _)))) (mo_d (mo_l (mo_aload _ _)) (mo_d (mo_l (mo_ic _ _)) (mo_l (mo_iald _)))))) (mo_d (mo_d (mo_d (mo_l (mo_ic _ _)) (mo_l (mo_ic _ _))) (mo_d (mo_l (mo_ic _ _)) (mo_d (mo_l (mo_ic _ _)) (mo_l (mo_cI _ _ _ _ zPre_S zHm_0))))) (mo_d (mo_d (mo_l (mo_ic _ _)) (mo_d (mo_l (mo_cmpne _ _)) (mo_l (mo_ic _ _)))) (mo_d (mo_l (mo_goto _)) (mo_d (mo_l (mo_ic _ _)) (mo_l (mo_rZ)))))))))))
def zc_L_law (G : Nat × Nat) : Nat → zSem := fun pc =>
 znd pc 354
 (znd pc 184
 (znd pc 92
 (znd pc 46
 (znd pc 22
 (znd pc 12
 (znd pc 7
 (znd pc 3
 (zlf pc 0 (s_new 12 8 [.null, .null, .null, .null, .null, .null, .int 0, .int 0] 3))
 (znd pc 4
 (zlf pc 3 (s_dup 4))
 (zlf pc 4 (s_cV zpI 10 1 [] (zxc 0 []) 7))))
 (znd pc 8
 (zlf pc 7 (s_astore 1 8))
 (znd pc 10
 (zlf pc 8 (s_ic 16 10))
 (zlf pc 10 (s_nai 0 12)))))
 (znd pc 17
 (znd pc 13
 (zlf pc 12 (s_astore 2 13))
 (znd pc 15
 (zlf pc 13 (s_ic 17 15))
 (zlf pc 15 (s_nai 0 17))))
 (znd pc 18
 (zlf pc 17 (s_astore 3 18))
 (znd pc 20
 (zlf pc 18 (s_ic 8 20))
 (zlf pc 20 (s_nai 0 22))))))
 (znd pc 34
 (znd pc 28
 (znd pc 24
 (zlf pc 22 (s_astore 4 24))
 (znd pc 26
 (zlf pc 24 (s_ic 25 26))
 (zlf pc 26 (s_nai 0 28))))
 (znd pc 30
 (zlf pc 28 (s_astore 5 30))
 (znd pc 32
 (zlf pc 30 (s_ic 48 32))
 (zlf pc 32 (s_nai 0 34)))))
 (znd pc 40
 (znd pc 36
 (zlf pc 34 (s_astore 6 36))
 (znd pc 38
 (zlf pc 36 (s_ic 12 38))
 (zlf pc 38 (s_nai 0 40))))
 (znd pc 42
 (zlf pc 40 (s_astore 7 42))
 (znd pc 44
 (zlf pc 42 (s_ic 12 44))
 (zlf pc 44 (s_nai 0 46)))))))
 (znd pc 70
 (znd pc 58
 (znd pc 52
 (znd pc 48
 (zlf pc 46 (s_astore 8 48))
 (znd pc 50
 (zlf pc 48 (s_ic 13 50))
 (zlf pc 50 (s_nai 0 52))))
 (znd pc 54
 (zlf pc 52 (s_astore 9 54))
 (znd pc 56
 (zlf pc 54 (s_ic 19 56))
 (zlf pc 56 (s_nai 0 58)))))
 (znd pc 64
 (znd pc 60
 (zlf pc 58 (s_astore 10 60))
 (znd pc 62
 (zlf pc 60 (s_ic 32 62))
 (zlf pc 62 (s_nai 0 64))))
 (znd pc 66
 (zlf pc 64 (s_astore 11 66))
 (znd pc 68
 (zlf pc 66 (s_ic 32 68))
 (zlf pc 68 (s_nai 0 70))))))
 (znd pc 81
 (znd pc 75
 (znd pc 72
 (zlf pc 70 (s_astore 12 72))
 (znd pc 73
 (zlf pc 72 (s_ic 5 73))
 (zlf pc 73 (s_nai 0 75))))
 (znd pc 77
 (zlf pc 75 (s_astore 13 77))
 (znd pc 79
 (zlf pc 77 (s_ic 8 79))
 (zlf pc 79 (s_nai 0 81)))))
 (znd pc 87
 (znd pc 83
 (zlf pc 81 (s_astore 14 83))
 (znd pc 85
 (zlf pc 83 (s_ic 8 85))
 (zlf pc 85 (s_nai 0 87))))
 (znd pc 89
 (zlf pc 87 (s_astore 15 89))
 (znd pc 90
 (zlf pc 89 (s_ic 0 90))
 (zlf pc 90 (s_istore 16 92))))))))
 (znd pc 138
 (znd pc 116
 (znd pc 104
 (znd pc 99
 (znd pc 94
 (zlf pc 92 (s_iload 16 94))
 (znd pc 96
 (zlf pc 94 (s_ic 32 96))
 (zlf pc 96 (s_cmpge 111 99))))
 (znd pc 101
 (zlf pc 99 (s_aload 12 101))
 (znd pc 103
 (zlf pc 101 (s_iload 16 103))
 (zlf pc 103 (s_ic (-1) 104)))))
 (znd pc 111
 (znd pc 105
 (zlf pc 104 (s_iast 105))
 (znd pc 108
 (zlf pc 105 (s_iinc 16 1 108))
 (zlf pc 108 (s_goto 92))))
 (znd pc 112
 (zlf pc 111 (s_ic 0 112))
 (znd pc 114
 (zlf pc 112 (s_istore 16 114))
 (zlf pc 114 (s_iload 16 116))))))
 (znd pc 127
 (znd pc 123
 (znd pc 118
 (zlf pc 116 (s_ic 6 118))
 (znd pc 121
 (zlf pc 118 (s_cmpge 148 121))
 (zlf pc 121 (s_aload 10 123))))
 (znd pc 124
 (zlf pc 123 (s_ic 4 124))
 (znd pc 126
 (zlf pc 124 (s_iload 16 126))
 (zlf pc 126 (s_iadd 127)))))
 (znd pc 133
 (znd pc 130
 (zlf pc 127 (s_ic 180 130))
 (znd pc 131
 (zlf pc 130 (s_iast 131))
 (zlf pc 131 (s_aload 10 133))))
 (znd pc 135
 (zlf pc 133 (s_ic 10 135))
 (znd pc 137
 (zlf pc 135 (s_iload 16 137))
 (zlf pc 137 (s_iadd 138)))))))
 (znd pc 162
 (znd pc 151
 (znd pc 145
 (znd pc 141
 (zlf pc 138 (s_ic 260 141))
 (znd pc 142
 (zlf pc 141 (s_iast 142))
 (zlf pc 142 (s_iinc 16 1 145))))
 (znd pc 148
 (zlf pc 145 (s_goto 114))
 (znd pc 150
 (zlf pc 148 (s_aload 10 150))
 (zlf pc 150 (s_ic 0 151)))))
 (znd pc 157
 (znd pc 154
 (zlf pc 151 (s_ic 150 154))
 (znd pc 155
 (zlf pc 154 (s_iast 155))
 (zlf pc 155 (s_aload 10 157))))
 (znd pc 158
 (zlf pc 157 (s_ic 1 158))
 (znd pc 161
 (zlf pc 158 (s_ic 200 161))
 (zlf pc 161 (s_iast 162))))))
 (znd pc 172
 (znd pc 168
 (znd pc 164
 (zlf pc 162 (s_aload 10 164))
 (znd pc 165
 (zlf pc 164 (s_ic 2 165))
 (zlf pc 165 (s_ic 240 168))))
 (znd pc 169
 (zlf pc 168 (s_iast 169))
 (znd pc 171
 (zlf pc 169 (s_aload 10 171))
 (zlf pc 171 (s_ic 3 172)))))
 (znd pc 177
 (znd pc 174
 (zlf pc 172 (s_ic 100 174))
 (znd pc 175
 (zlf pc 174 (s_iast 175))
 (zlf pc 175 (s_aload 10 177))))
 (znd pc 182
 (znd pc 179
 (zlf pc 177 (s_ic 16 179))
 (zlf pc 179 (s_ic 255 182)))
 (znd pc 183
 (zlf pc 182 (s_iast 183))
 (zlf pc 183 (s_aload 1 184)))))))))
 (znd pc 264
 (znd pc 225
 (znd pc 205
 (znd pc 191
 (znd pc 188
 (znd pc 185
 (zlf pc 184 (s_ic 0 185))
 (znd pc 187
 (zlf pc 185 (s_ic 8 187))
 (zlf pc 187 (s_ic 0 188))))
 (znd pc 189
 (zlf pc 188 (s_ic 1 189))
 (znd pc 190
 (zlf pc 189 (s_ic 1 190))
 (zlf pc 190 (s_ic 0 191)))))
 (znd pc 199
 (znd pc 194
 (zlf pc 191 (s_cI zpS 207 7 [zU] (zxc 0 []) 194))
 (znd pc 196
 (zlf pc 194 (s_ic (-3000000) 196))
 (zlf pc 196 (s_cmpne 318 199))))
 (znd pc 200
 (zlf pc 199 (s_aload 1 200))
 (znd pc 202
 (zlf pc 200 (s_ic 6 202))
 (zlf pc 202 (s_ic 256 205))))))
 (znd pc 214
 (znd pc 208
 (znd pc 206
 (zlf pc 205 (s_ic 1 206))
 (znd pc 207
 (zlf pc 206 (s_ic 0 207))
 (zlf pc 207 (s_ic 0 208))))
 (znd pc 209
 (zlf pc 208 (s_ic 0 209))
 (znd pc 212
 (zlf pc 209 (s_cI zpS 207 7 [zU] (zxc 0 []) 212))
 (zlf pc 212 (s_ic (-2000000) 214)))))
 (znd pc 220
 (znd pc 217
 (zlf pc 214 (s_cmpne 318 217))
 (znd pc 218
 (zlf pc 217 (s_aload 1 218))
 (zlf pc 218 (s_ic 20 220))))
 (znd pc 223
 (zlf pc 220 (s_ic 1000 223))
 (znd pc 224
 (zlf pc 223 (s_ic 0 224))
 (zlf pc 224 (s_ic 0 225)))))))
 (znd pc 243
 (znd pc 236
 (znd pc 230
 (znd pc 226
 (zlf pc 225 (s_ic 0 226))
 (znd pc 227
 (zlf pc 226 (s_ic 0 227))
 (zlf pc 227 (s_cI zpS 207 7 [zU] (zxc 0 []) 230))))
 (znd pc 232
 (zlf pc 230 (s_ic (-2000000) 232))
 (znd pc 235
 (zlf pc 232 (s_cmpne 318 235))
 (zlf pc 235 (s_aload 1 236)))))
 (znd pc 240
 (znd pc 238
 (zlf pc 236 (s_ic 14 238))
 (znd pc 239
 (zlf pc 238 (s_ic 0 239))
 (zlf pc 239 (s_ic 0 240))))
 (znd pc 241
 (zlf pc 240 (s_ic 0 241))
 (znd pc 242
 (zlf pc 241 (s_ic 0 242))
 (zlf pc 242 (s_ic 0 243))))))
 (znd pc 255
 (znd pc 251
 (znd pc 246
 (zlf pc 243 (s_cI zpS 207 7 [zU] (zxc 0 []) 246))
 (znd pc 248
 (zlf pc 246 (s_ic (-3000000) 248))
 (zlf pc 248 (s_cmpne 318 251))))
 (znd pc 252
 (zlf pc 251 (s_aload 1 252))
 (znd pc 254
 (zlf pc 252 (s_ic 16 254))
 (zlf pc 254 (s_ic (-1) 255)))))
 (znd pc 258
 (znd pc 256
 (zlf pc 255 (s_ic 0 256))
 (znd pc 257
 (zlf pc 256 (s_ic 0 257))
 (zlf pc 257 (s_ic 0 258))))
 (znd pc 259
 (zlf pc 258 (s_ic 0 259))
 (znd pc 262
 (zlf pc 259 (s_cI zpS 207 7 [zU] (zxc 0 []) 262))
 (zlf pc 262 (s_ic (-3000000) 264))))))))
 (znd pc 303
 (znd pc 284
 (znd pc 273
 (znd pc 270
 (znd pc 267
 (zlf pc 264 (s_cmpne 318 267))
 (znd pc 268
 (zlf pc 267 (s_aload 1 268))
 (zlf pc 268 (s_ic 22 270))))
 (znd pc 271
 (zlf pc 270 (s_ic 0 271))
 (znd pc 272
 (zlf pc 271 (s_ic 0 272))
 (zlf pc 272 (s_ic 0 273)))))
 (znd pc 278
 (znd pc 274
 (zlf pc 273 (s_ic 0 274))
 (znd pc 275
 (zlf pc 274 (s_ic 0 275))
 (zlf pc 275 (s_cI zpS 207 7 [zU] (zxc 0 []) 278))))
 (znd pc 280
 (zlf pc 278 (s_ic (-3000000) 280))
 (znd pc 283
 (zlf pc 280 (s_cmpne 318 283))
 (zlf pc 283 (s_aload 1 284))))))
 (znd pc 290
 (znd pc 287
 (znd pc 285
 (zlf pc 284 (s_ic 5 285))
 (znd pc 286
 (zlf pc 285 (s_ic 0 286))
 (zlf pc 286 (s_ic (-1) 287))))
 (znd pc 288
 (zlf pc 287 (s_ic 0 288))
 (znd pc 289
 (zlf pc 288 (s_ic 0 289))
 (zlf pc 289 (s_ic 0 290)))))
 (znd pc 298
 (znd pc 293
 (zlf pc 290 (s_cI zpS 207 7 [zU] (zxc 0 []) 293))
 (znd pc 295
 (zlf pc 293 (s_ic (-3000000) 295))
 (zlf pc 295 (s_cmpne 318 298))))
 (znd pc 299
 (zlf pc 298 (s_aload 1 299))
 (znd pc 300
 (zlf pc 299 (s_ic 3 300))
 (zlf pc 300 (s_cI (zpV 12) 103 2 [] (zxc 0 []) 303)))))))
 (znd pc 326
 (znd pc 315
 (znd pc 308
 (znd pc 306
 (zlf pc 303 (s_ifne 318 306))
 (znd pc 307
 (zlf pc 306 (s_aload 1 307))
 (zlf pc 307 (s_ic 1 308))))
 (znd pc 311
 (zlf pc 308 (s_cI (zpV 12) 111 2 [] (zxc 0 []) 311))
 (znd pc 314
 (zlf pc 311 (s_ifne 318 314))
 (zlf pc 314 (s_ic 1 315)))))
 (znd pc 321
 (znd pc 318
 (zlf pc 315 (s_goto 319))
 (znd pc 319
 (zlf pc 318 (s_ic 0 319))
 (zlf pc 319 (s_istore 16 321))))
 (znd pc 322
 (zlf pc 321 (s_ic 0 322))
 (znd pc 324
 (zlf pc 322 (s_istore 17 324))
 (zlf pc 324 (s_iload 17 326))))))
 (znd pc 339
 (znd pc 333
 (znd pc 328
 (zlf pc 326 (s_ic 64 328))
 (znd pc 331
 (zlf pc 328 (s_cmpge 750 331))
 (zlf pc 331 (s_iload 16 333))))
 (znd pc 336
 (zlf pc 333 (s_ifeq 750 336))
 (znd pc 338
 (zlf pc 336 (s_iload 17 338))
 (zlf pc 338 (s_ic 5 339)))))
 (znd pc 346
 (znd pc 342
 (zlf pc 339 (s_cmpge 346 342))
 (znd pc 343
 (zlf pc 342 (s_ic 0 343))
 (zlf pc 343 (s_goto 403))))
 (znd pc 350
 (znd pc 348
 (zlf pc 346 (s_iload 17 348))
 (zlf pc 348 (s_ic 8 350)))
 (znd pc 353
 (zlf pc 350 (s_cmpge 357 353))
 (zlf pc 353 (s_ic 3 354))))))))))
 (znd pc 547
 (znd pc 445
 (znd pc 406
 (znd pc 383
 (znd pc 369
 (znd pc 361
 (znd pc 357
 (zlf pc 354 (s_goto 403))
 (znd pc 359
 (zlf pc 357 (s_iload 17 359))
 (zlf pc 359 (s_ic 10 361))))
 (znd pc 364
 (zlf pc 361 (s_cmpge 369 364))
 (znd pc 366
 (zlf pc 364 (s_ic 9 366))
 (zlf pc 366 (s_goto 403)))))
 (znd pc 376
 (znd pc 371
 (zlf pc 369 (s_iload 17 371))
 (znd pc 373
 (zlf pc 371 (s_ic 11 373))
 (zlf pc 373 (s_cmpge 381 376))))
 (znd pc 378
 (zlf pc 376 (s_ic 11 378))
 (znd pc 381
 (zlf pc 378 (s_goto 403))
 (zlf pc 381 (s_iload 17 383))))))
 (znd pc 395
 (znd pc 390
 (znd pc 385
 (zlf pc 383 (s_ic 12 385))
 (znd pc 388
 (zlf pc 385 (s_cmpge 393 388))
 (zlf pc 388 (s_ic 15 390))))
 (znd pc 393
 (zlf pc 390 (s_goto 403))
 (znd pc 394
 (zlf pc 393 (s_aload 0 394))
 (zlf pc 394 (s_ic 3 395)))))
 (znd pc 400
 (znd pc 397
 (zlf pc 395 (s_iload 17 397))
 (znd pc 398
 (zlf pc 397 (s_imul 398))
 (zlf pc 398 (s_ic 48 400))))
 (znd pc 403
 (zlf pc 400 (s_cI zpS 206 3 [zU] (zxc 0 []) 403))
 (znd pc 405
 (zlf pc 403 (s_istore 18 405))
 (zlf pc 405 (s_aload 0 406)))))))
 (znd pc 424
 (znd pc 414
 (znd pc 410
 (znd pc 407
 (zlf pc 406 (s_ic 3 407))
 (znd pc 409
 (zlf pc 407 (s_iload 17 409))
 (zlf pc 409 (s_imul 410))))
 (znd pc 411
 (zlf pc 410 (s_ic 1 411))
 (znd pc 412
 (zlf pc 411 (s_iadd 412))
 (zlf pc 412 (s_ic 60000 414)))))
 (znd pc 420
 (znd pc 417
 (zlf pc 414 (s_cI zpS 206 3 [zU] (zxc 0 []) 417))
 (znd pc 419
 (zlf pc 417 (s_istore 19 419))
 (zlf pc 419 (s_aload 0 420))))
 (znd pc 421
 (zlf pc 420 (s_ic 3 421))
 (znd pc 423
 (zlf pc 421 (s_iload 17 423))
 (zlf pc 423 (s_imul 424))))))
 (znd pc 435
 (znd pc 428
 (znd pc 425
 (zlf pc 424 (s_ic 2 425))
 (znd pc 426
 (zlf pc 425 (s_iadd 426))
 (zlf pc 426 (s_ic 60000 428))))
 (znd pc 431
 (zlf pc 428 (s_cI zpS 206 3 [zU] (zxc 0 []) 431))
 (znd pc 433
 (zlf pc 431 (s_istore 20 433))
 (zlf pc 433 (s_iload 18 435)))))
 (znd pc 441
 (znd pc 437
 (zlf pc 435 (s_ic 9 437))
 (znd pc 440
 (zlf pc 437 (s_cmpge 505 440))
 (zlf pc 440 (s_aload 1 441))))
 (znd pc 442
 (zlf pc 441 (s_aload 2 442))
 (znd pc 443
 (zlf pc 442 (s_aload 3 443))
 (zlf pc 443 (s_aload 4 445))))))))
 (znd pc 493
 (znd pc 468
 (znd pc 457
 (znd pc 451
 (znd pc 447
 (zlf pc 445 (s_aload 5 447))
 (znd pc 449
 (zlf pc 447 (s_aload 6 449))
 (zlf pc 449 (s_aload 15 451))))
 (znd pc 453
 (zlf pc 451 (s_iload 18 453))
 (znd pc 454
 (zlf pc 453 (s_ic 3 454))
 (zlf pc 454 (s_cmpge 461 457)))))
 (znd pc 463
 (znd pc 458
 (zlf pc 457 (s_ic 0 458))
 (znd pc 461
 (zlf pc 458 (s_goto 493))
 (zlf pc 461 (s_iload 18 463))))
 (znd pc 464
 (zlf pc 463 (s_ic 3 464))
 (znd pc 467
 (zlf pc 464 (s_cmpne 471 467))
 (zlf pc 467 (s_ic 1 468))))))
 (znd pc 481
 (znd pc 474
 (znd pc 471
 (zlf pc 468 (s_goto 493))
 (znd pc 473
 (zlf pc 471 (s_iload 18 473))
 (zlf pc 473 (s_ic 4 474))))
 (znd pc 477
 (zlf pc 474 (s_cmpne 481 477))
 (znd pc 478
 (zlf pc 477 (s_ic 2 478))
 (zlf pc 478 (s_goto 493)))))
 (znd pc 488
 (znd pc 483
 (zlf pc 481 (s_iload 18 483))
 (znd pc 485
 (zlf pc 483 (s_ic 8 485))
 (zlf pc 485 (s_cmpge 492 488))))
 (znd pc 489
 (zlf pc 488 (s_ic 3 489))
 (znd pc 492
 (zlf pc 489 (s_goto 493))
 (zlf pc 492 (s_ic 4 493)))))))
 (znd pc 519
 (znd pc 507
 (znd pc 500
 (znd pc 495
 (zlf pc 493 (s_iload 19 495))
 (znd pc 497
 (zlf pc 495 (s_iload 20 497))
 (zlf pc 497 (s_cI zpS 218 10 [zU, zU, zU, zU, zU, zU, zU, zU, zU, zU, zU, zU, zU, zU] (zxc 0 []) 500))))
 (znd pc 502
 (zlf pc 500 (s_istore 16 502))
 (znd pc 505
 (zlf pc 502 (s_goto 701))
 (zlf pc 505 (s_iload 18 507)))))
 (znd pc 513
 (znd pc 509
 (zlf pc 507 (s_ic 15 509))
 (znd pc 512
 (zlf pc 509 (s_cmpge 560 512))
 (zlf pc 512 (s_aload 1 513))))
 (znd pc 515
 (zlf pc 513 (s_aload 7 515))
 (znd pc 517
 (zlf pc 515 (s_aload 8 517))
 (zlf pc 517 (s_aload 9 519))))))
 (znd pc 532
 (znd pc 525
 (znd pc 521
 (zlf pc 519 (s_aload 10 521))
 (znd pc 523
 (zlf pc 521 (s_aload 14 523))
 (zlf pc 523 (s_aload 15 525))))
 (znd pc 527
 (zlf pc 525 (s_iload 18 527))
 (znd pc 529
 (zlf pc 527 (s_ic 9 529))
 (zlf pc 529 (s_cmpne 536 532)))))
 (znd pc 538
 (znd pc 533
 (zlf pc 532 (s_ic 0 533))
 (znd pc 536
 (zlf pc 533 (s_goto 548))
 (zlf pc 536 (s_iload 18 538))))
 (znd pc 543
 (znd pc 540
 (zlf pc 538 (s_ic 13 540))
 (zlf pc 540 (s_cmpge 547 543)))
 (znd pc 544
 (zlf pc 543 (s_ic 1 544))
 (zlf pc 544 (s_goto 548)))))))))
 (znd pc 650
 (znd pc 597
 (znd pc 572
 (znd pc 560
 (znd pc 552
 (znd pc 548
 (zlf pc 547 (s_ic 2 548))
 (znd pc 550
 (zlf pc 548 (s_iload 19 550))
 (zlf pc 550 (s_iload 20 552))))
 (znd pc 555
 (zlf pc 552 (s_cI zpS 219 10 [zU, zU, zU, zU, zU] (zxc 0 []) 555))
 (znd pc 557
 (zlf pc 555 (s_istore 16 557))
 (zlf pc 557 (s_goto 701)))))
 (znd pc 567
 (znd pc 562
 (zlf pc 560 (s_iload 18 562))
 (znd pc 564
 (zlf pc 562 (s_ic 42 564))
 (zlf pc 564 (s_cmpge 664 567))))
 (znd pc 568
 (zlf pc 567 (s_aload 1 568))
 (znd pc 570
 (zlf pc 568 (s_aload 7 570))
 (zlf pc 570 (s_aload 8 572))))))
 (znd pc 584
 (znd pc 578
 (znd pc 574
 (zlf pc 572 (s_aload 9 574))
 (znd pc 576
 (zlf pc 574 (s_aload 10 576))
 (zlf pc 576 (s_aload 11 578))))
 (znd pc 580
 (zlf pc 578 (s_aload 12 580))
 (znd pc 582
 (zlf pc 580 (s_aload 13 582))
 (zlf pc 582 (s_aload 15 584)))))
 (znd pc 591
 (znd pc 586
 (zlf pc 584 (s_iload 18 586))
 (znd pc 588
 (zlf pc 586 (s_ic 15 588))
 (zlf pc 588 (s_cmpne 595 591))))
 (znd pc 592
 (zlf pc 591 (s_ic 0 592))
 (znd pc 595
 (zlf pc 592 (s_goto 652))
 (zlf pc 595 (s_iload 18 597)))))))
 (znd pc 624
 (znd pc 610
 (znd pc 603
 (znd pc 599
 (zlf pc 597 (s_ic 25 599))
 (znd pc 602
 (zlf pc 599 (s_cmpge 606 602))
 (zlf pc 602 (s_ic 1 603))))
 (znd pc 606
 (zlf pc 603 (s_goto 652))
 (znd pc 608
 (zlf pc 606 (s_iload 18 608))
 (zlf pc 608 (s_ic 28 610)))))
 (znd pc 617
 (znd pc 613
 (zlf pc 610 (s_cmpge 617 613))
 (znd pc 614
 (zlf pc 613 (s_ic 2 614))
 (zlf pc 614 (s_goto 652))))
 (znd pc 619
 (zlf pc 617 (s_iload 18 619))
 (znd pc 621
 (zlf pc 619 (s_ic 31 621))
 (zlf pc 621 (s_cmpge 628 624))))))
 (znd pc 636
 (znd pc 630
 (znd pc 625
 (zlf pc 624 (s_ic 3 625))
 (znd pc 628
 (zlf pc 625 (s_goto 652))
 (zlf pc 628 (s_iload 18 630))))
 (znd pc 632
 (zlf pc 630 (s_ic 34 632))
 (znd pc 635
 (zlf pc 632 (s_cmpge 639 635))
 (zlf pc 635 (s_ic 4 636)))))
 (znd pc 643
 (znd pc 639
 (zlf pc 636 (s_goto 652))
 (znd pc 641
 (zlf pc 639 (s_iload 18 641))
 (zlf pc 641 (s_ic 38 643))))
 (znd pc 646
 (zlf pc 643 (s_cmpge 650 646))
 (znd pc 647
 (zlf pc 646 (s_ic 5 647))
 (zlf pc 647 (s_goto 652))))))))
 (znd pc 701
 (znd pc 676
 (znd pc 664
 (znd pc 656
 (znd pc 652
 (zlf pc 650 (s_ic 6 652))
 (znd pc 654
 (zlf pc 652 (s_iload 19 654))
 (zlf pc 654 (s_iload 20 656))))
 (znd pc 659
 (zlf pc 656 (s_cI zpS 221 12 [zU, zU, zU, zU, zU, zU, zU, zU, zU, zU] (zxc 0 []) 659))
 (znd pc 661
 (zlf pc 659 (s_istore 16 661))
 (zlf pc 661 (s_goto 701)))))
 (znd pc 669
 (znd pc 665
 (zlf pc 664 (s_aload 1 665))
 (znd pc 667
 (zlf pc 665 (s_aload 10 667))
 (zlf pc 667 (s_aload 15 669))))
 (znd pc 671
 (zlf pc 669 (s_iload 18 671))
 (znd pc 673
 (zlf pc 671 (s_ic 44 673))
 (zlf pc 673 (s_cmpge 680 676))))))
 (znd pc 688
 (znd pc 682
 (znd pc 677
 (zlf pc 676 (s_ic 0 677))
 (znd pc 680
 (zlf pc 677 (s_goto 692))
 (zlf pc 680 (s_iload 18 682))))
 (znd pc 684
 (zlf pc 682 (s_ic 44 684))
 (znd pc 687
 (zlf pc 684 (s_cmpne 691 687))
 (zlf pc 687 (s_ic 1 688)))))
 (znd pc 694
 (znd pc 691
 (zlf pc 688 (s_goto 692))
 (znd pc 692
 (zlf pc 691 (s_ic 2 692))
 (zlf pc 692 (s_iload 19 694))))
 (znd pc 696
 (zlf pc 694 (s_iload 20 696))
 (znd pc 699
 (zlf pc 696 (s_cI zpS 222 6 [zU, zU, zU, zU, zU, zU] (zxc 0 []) 699))
 (zlf pc 699 (s_istore 16 701)))))))
 (znd pc 725
 (znd pc 713
 (znd pc 707
 (znd pc 703
 (zlf pc 701 (s_iload 16 703))
 (znd pc 706
 (zlf pc 703 (s_ifeq 741 706))
 (zlf pc 706 (s_aload 1 707))))
 (znd pc 709
 (zlf pc 707 (s_aload 5 709))
 (znd pc 711
 (zlf pc 709 (s_aload 6 711))
 (zlf pc 711 (s_aload 7 713)))))
 (znd pc 719
 (znd pc 715
 (zlf pc 713 (s_aload 8 715))
 (znd pc 717
 (zlf pc 715 (s_aload 9 717))
 (zlf pc 717 (s_aload 10 719))))
 (znd pc 721
 (zlf pc 719 (s_aload 11 721))
 (znd pc 723
 (zlf pc 721 (s_aload 12 723))
 (zlf pc 723 (s_aload 13 725))))))
 (znd pc 738
 (znd pc 731
 (znd pc 727
 (zlf pc 725 (s_aload 14 727))
 (znd pc 729
 (zlf pc 727 (s_aload 15 729))
 (zlf pc 729 (s_iload 19 731))))
 (znd pc 734
 (zlf pc 731 (s_cI zpS 217 13 [zU, zU, zU, zU, zU, zU] (zxc 0 []) 734))
 (znd pc 737
 (zlf pc 734 (s_ifeq 741 737))
 (zlf pc 737 (s_ic 1 738)))))
 (znd pc 744
 (znd pc 741
 (zlf pc 738 (s_goto 742))
 (znd pc 742
 (zlf pc 741 (s_ic 0 742))
 (zlf pc 742 (s_istore 16 744))))
 (znd pc 750
 (znd pc 747
 (zlf pc 744 (s_iinc 17 1 747))
 (zlf pc 747 (s_goto 324)))
 (znd pc 752
 (zlf pc 750 (s_iload 16 752))
 (zlf pc 752 (s_rZ))))))))))
theorem zm_L_law (G : Nat × Nat) (pc : Nat) : zMon (zc_L_law G pc) := (mo_d (mo_d (mo_d (mo_d (mo_d (mo_d (mo_d (mo_d (mo_l (mo_new _ _ _ _)) (mo_d (mo_l (mo_dup _)) (mo_l (mo_cV _ _ _ _ zPre_I (zHm_c _ _))))) (mo_d (mo_l (mo_astore _ _)) (mo_d (mo_l (mo_ic _ _)) (mo_l (mo_nai _ _))))) (mo_d (mo_d (mo_l (mo_astore _ _)) (mo_d (mo_l (mo_ic _ _)) (mo_l (mo_nai _ _)))) (mo_d (mo_l (mo_astore _ _)) (mo_d (mo_l (mo_ic _ _)) (mo_l (mo_nai _ _)))))) (mo_d (mo_d (mo_d (mo_l (mo_astore _ _)) (mo_d (mo_l (mo_ic _ _)) (mo_l (mo_nai _ _)))) (mo_d (mo_l (mo_astore _ _)) (mo_d (mo_l (mo_ic _ _)) (mo_l (mo_nai _ _))))) (mo_d (mo_d (mo_l (mo_astore _ _)) (mo_d (mo_l (mo_ic _ _)) (mo_l (mo_nai _ _)))) (mo_d (mo_l (mo_astore _ _)) (mo_d (mo_l (mo_ic _ _)) (mo_l (mo_nai _ _))))))) (mo_d (mo_d (mo_d (mo_d (mo_l (mo_astore _ _)) (mo_d (mo_l (mo_ic _ _)) (mo_l (mo_nai _ _)))) (mo_d (mo_l (mo_astore _ _)) (mo_d (mo_l (mo_ic _ _)) (mo_l (mo_nai _ _))))) (mo_d (mo_d (mo_l (mo_astore _ _)) (mo_d (mo_l (mo_ic _ _)) (mo_l (mo_nai _ _)))) (mo_d (mo_l (mo_astore _ _)) (mo_d (mo_l (mo_ic _ _)) (mo_l (mo_nai _ _)))))) (mo_d (mo_d (mo_d (mo_l (mo_astore _ _)) (mo_d (mo_l (mo_ic _ _)) (mo_l (mo_nai _ _)))) (mo_d (mo_l (mo_astore _ _)) (mo_d (mo_l (mo_ic _ _)) (mo_l (mo_nai _ _))))) (mo_d (mo_d (mo_l (mo_astore _ _)) (mo_d (mo_l (mo_ic _ _)) (mo_l (mo_nai _ _)))) (mo_d (mo_l (mo_astore _ _)) (mo_d (mo_l (mo_ic _ _)) (mo_l (mo_istore _ _)))))))) (mo_d (mo_d (mo_d (mo_d (mo_d (mo_l (mo_iload _ _)) (mo_d (mo_l (mo_ic _ _)) (mo_l (mo_cmpge _ _)))) (mo_d (mo_l (mo_aload _ _)) (mo_d (mo_l (mo_iload _ _)) (mo_l (mo_ic _ _))))) (mo_d (mo_d (mo_l (mo_iast _)) (mo_d (mo_l (mo_iinc _ _ _)) (mo_l (mo_goto _)))) (mo_d (mo_l (mo_ic _ _)) (mo_d (mo_l (mo_istore _ _)) (mo_l (mo_iload _ _)))))) (mo_d (mo_d (mo_d (mo_l (mo_ic _ _)) (mo_d (mo_l (mo_cmpge _ _)) (mo_l (mo_aload _ _)))) (mo_d (mo_l (mo_ic _ _)) (mo_d (mo_l (mo_iload _ _)) (mo_l (mo_iadd _))))) (mo_d (mo_d (mo_l (mo_ic _ _)) (mo_d (mo_l (mo_iast _)) (mo_l (mo_aload _ _)))) (mo_d (mo_l (mo_ic _ _)) (mo_d (mo_l (mo_iload _ _)) (mo_l (mo_iadd _))))))) (mo_d (mo_d (mo_d (mo_d (mo_l (mo_ic _ _)) (mo_d (mo_l (mo_iast _)) (mo_l (mo_iinc _ _ _)))) (mo_d (mo_l (mo_goto _)) (mo_d (mo_l (mo_aload _ _)) (mo_l (mo_ic _ _))))) (mo_d (mo_d (mo_l (mo_ic _ _)) (mo_d (mo_l (mo_iast _)) (mo_l (mo_aload _ _)))) (mo_d (mo_l (mo_ic _ _)) (mo_d (mo_l (mo_ic _ _)) (mo_l (mo_iast _)))))) (mo_d (mo_d (mo_d (mo_l (mo_aload _ _)) (mo_d (mo_l (mo_ic _ _)) (mo_l (mo_ic _ _)))) (mo_d (mo_l (mo_iast _)) (mo_d (mo_l (mo_aload _ _)) (mo_l (mo_ic _ _))))) (mo_d (mo_d (mo_l (mo_ic _ _)) (mo_d (mo_l (mo_iast _)) (mo_l (mo_aload _ _)))) (mo_d (mo_d (mo_l (mo_ic _ _)) (mo_l (mo_ic _ _))) (mo_d (mo_l (mo_iast _)) (mo_l (mo_aload _ _))))))))) (mo_d (mo_d (mo_d (mo_d (mo_d (mo_d (mo_l (mo_ic _ _)) (mo_d (mo_l (mo_ic _ _)) (mo_l (mo_ic _ _)))) (mo_d (mo_l (mo_ic _ _)) (mo_d (mo_l (mo_ic _ _)) (mo_l (mo_ic _ _))))) (mo_d (mo_d (mo_l (mo_cI _ _ _ _ zPre_S (zHm_c _ _))) (mo_d (mo_l (mo_ic _ _)) (mo_l (mo_cmpne _ _)))) (mo_d (mo_l (mo_aload _ _)) (mo_d (mo_l (mo_ic _ _)) (mo_l (mo_ic _ _)))))) (mo_d (mo_d (mo_d (mo_l (mo_ic _ _)) (mo_d (mo_l (mo_ic _ _)) (mo_l (mo_ic _ _)))) (mo_d (mo_l (mo_ic _ _)) (mo_d (mo_l (mo_cI _ _ _ _ zPre_S (zHm_c _ _))) (mo_l (mo_ic _ _))))) (mo_d (mo_d (mo_l (mo_cmpne _ _)) (mo_d (mo_l (mo_aload _ _)) (mo_l (mo_ic _ _)))) (mo_d (mo_l (mo_ic _ _)) (mo_d (mo_l (mo_ic _ _)) (mo_l (mo_ic _ _))))))) (mo_d (mo_d (mo_d (mo_d (mo_l (mo_ic _ _)) (mo_d (mo_l (mo_ic _ _)) (mo_l (mo_cI _ _ _ _ zPre_S (zHm_c _ _))))) (mo_d (mo_l (mo_ic _ _)) (mo_d (mo_l (mo_cmpne _ _)) (mo_l (mo_aload _ _))))) (mo_d (mo_d (mo_l (mo_ic _ _)) (mo_d (mo_l (mo_ic _ _)) (mo_l (mo_ic _ _)))) (mo_d (mo_l (mo_ic _ _)) (mo_d (mo_l (mo_ic _ _)) (mo_l (mo_ic _ _)))))) (mo_d (mo_d (mo_d (mo_l (mo_cI _ _ _ _ zPre_S (zHm_c _ _))) (mo_d (mo_l (mo_ic _ _)) (mo_l (mo_cmpne _ _)))) (mo_d (mo_l (mo_aload _ _)) (mo_d (mo_l (mo_ic _ _)) (mo_l (mo_ic _ _))))) (mo_d (mo_d (mo_l (mo_ic _ _)) (mo_d (mo_l (mo_ic _ _)) (mo_l (mo_ic _ _)))) (mo_d (mo_l (mo_ic _ _)) (mo_d (mo_l (mo_cI _ _ _ _ zPre_S (zHm_c _ _))) (mo_l (mo_ic _ _)))))))) (mo_d (mo_d (mo_d (mo_d (mo_d (mo_l (mo_cmpne _ _)) (mo_d (mo_l (mo_aload _ _)) (mo_l (mo_ic _ _)))) (mo_d (mo_l (mo_ic _ _)) (mo_d (mo_l (mo_ic _ _)) (mo_l (mo_ic _ _))))) (mo_d (mo_d (mo_l (mo_ic _ _)) (mo_d (mo_l (mo_ic _ _)) (mo_l (mo_cI _ _ _ _ zPre_S (zHm_c _ _))))) (mo_d (mo_l (mo_ic _ _)) (mo_d (mo_l (mo_cmpne _ _)) (mo_l (mo_aload _ _)))))) (mo_d (mo_d (mo_d (mo_l (mo_ic _ _)) (mo_d (mo_l (mo_ic _ _)) (mo_l (mo_ic _ _)))) (mo_d (mo_l (mo_ic _ _)) (mo_d (mo_l (mo_ic _ _)) (mo_l (mo_ic _ _))))) (mo_d (mo_d (mo_l (mo_cI _ _ _ _ zPre_S (zHm_c _ _))) (mo_d (mo_l (mo_ic _ _)) (mo_l (mo_cmpne _ _)))) (mo_d (mo_l (mo_aload _ _)) (mo_d (mo_l (mo_ic _ _)) (mo_l (mo_cI _ _ _ _ (zPre_V _) (zHm_c _ _)))))))) (mo_d (mo_d (mo_d (mo_d (mo_l (mo_ifne _ _)) (mo_d (mo_l (mo_aload _ _)) (mo_l (mo_ic _ _)))) (mo_d (mo_l (mo_cI _ _ _ _ (zPre_V _) (zHm_c _ _))) (mo_d (mo_l (mo_ifne _ _)) (mo_l (mo_ic _ _))))) (mo_d (mo_d (mo_l (mo_goto _)) (mo_d (mo_l (mo_ic _ _)) (mo_l (mo_istore _ _)))) (mo_d (mo_l (mo_ic _ _)) (mo_d (mo_l (mo_istore _ _)) (mo_l (mo_iload _ _)))))) (mo_d (mo_d (mo_d (mo_l (mo_ic _ _)) (mo_d (mo_l (mo_cmpge _ _)) (mo_l (mo_iload _ _)))) (mo_d (mo_l (mo_ifeq _ _)) (mo_d (mo_l (mo_iload _ _)) (mo_l (mo_ic _ _))))) (mo_d (mo_d (mo_l (mo_cmpge _ _)) (mo_d (mo_l (mo_ic _ _)) (mo_l (mo_goto _)))) (mo_d (mo_d (mo_l (mo_iload _ _)) (mo_l (mo_ic _ _))) (mo_d (mo_l (mo_cmpge _ _)) (mo_l (mo_ic _ _)))))))))) (mo_d (mo_d (mo_d (mo_d (mo_d (mo_d (mo_d (mo_l (mo_goto _)) (mo_d (mo_l (mo_iload _ _)) (mo_l (mo_ic _ _)))) (mo_d (mo_l (mo_cmpge _ _)) (mo_d (mo_l (mo_ic _ _)) (mo_l (mo_goto _))))) (mo_d (mo_d (mo_l (mo_iload _ _)) (mo_d (mo_l (mo_ic _ _)) (mo_l (mo_cmpge _ _)))) (mo_d (mo_l (mo_ic _ _)) (mo_d (mo_l (mo_goto _)) (mo_l (mo_iload _ _)))))) (mo_d (mo_d (mo_d (mo_l (mo_ic _ _)) (mo_d (mo_l (mo_cmpge _ _)) (mo_l (mo_ic _ _)))) (mo_d (mo_l (mo_goto _)) (mo_d (mo_l (mo_aload _ _)) (mo_l (mo_ic _ _))))) (mo_d (mo_d (mo_l (mo_iload _ _)) (mo_d (mo_l (mo_imul _)) (mo_l (mo_ic _ _)))) (mo_d (mo_l (mo_cI _ _ _ _ zPre_S (zHm_c _ _))) (mo_d (mo_l (mo_istore _ _)) (mo_l (mo_aload _ _))))))) (mo_d (mo_d (mo_d (mo_d (mo_l (mo_ic _ _)) (mo_d (mo_l (mo_iload _ _)) (mo_l (mo_imul _)))) (mo_d (mo_l (mo_ic _ _)) (mo_d (mo_l (mo_iadd _)) (mo_l (mo_ic _ _))))) (mo_d (mo_d (mo_l (mo_cI _ _ _ _ zPre_S (zHm_c _ _))) (mo_d (mo_l (mo_istore _ _)) (mo_l (mo_aload _ _)))) (mo_d (mo_l (mo_ic _ _)) (mo_d (mo_l (mo_iload _ _)) (mo_l (mo_imul _)))))) (mo_d (mo_d (mo_d (mo_l (mo_ic _ _)) (mo_d (mo_l (mo_iadd _)) (mo_l (mo_ic _ _)))) (mo_d (mo_l (mo_cI _ _ _ _ zPre_S (zHm_c _ _))) (mo_d (mo_l (mo_istore _ _)) (mo_l (mo_iload _ _))))) (mo_d (mo_d (mo_l (mo_ic _ _)) (mo_d (mo_l (mo_cmpge _ _)) (mo_l (mo_aload _ _)))) (mo_d (mo_l (mo_aload _ _)) (mo_d (mo_l (mo_aload _ _)) (mo_l (mo_aload _ _)))))))) (mo_d (mo_d (mo_d (mo_d (mo_d (mo_l (mo_aload _ _)) (mo_d (mo_l (mo_aload _ _)) (mo_l (mo_aload _ _)))) (mo_d (mo_l (mo_iload _ _)) (mo_d (mo_l (mo_ic _ _)) (mo_l (mo_cmpge _ _))))) (mo_d (mo_d (mo_l (mo_ic _ _)) (mo_d (mo_l (mo_goto _)) (mo_l (mo_iload _ _)))) (mo_d (mo_l (mo_ic _ _)) (mo_d (mo_l (mo_cmpne _ _)) (mo_l (mo_ic _ _)))))) (mo_d (mo_d (mo_d (mo_l (mo_goto _)) (mo_d (mo_l (mo_iload _ _)) (mo_l (mo_ic _ _)))) (mo_d (mo_l (mo_cmpne _ _)) (mo_d (mo_l (mo_ic _ _)) (mo_l (mo_goto _))))) (mo_d (mo_d (mo_l (mo_iload _ _)) (mo_d (mo_l (mo_ic _ _)) (mo_l (mo_cmpge _ _)))) (mo_d (mo_l (mo_ic _ _)) (mo_d (mo_l (mo_goto _)) (mo_l (mo_ic _ _))))))) (mo_d (mo_d (mo_d (mo_d (mo_l (mo_iload _ _)) (mo_d (mo_l (mo_iload _ _)) (mo_l (mo_cI _ _ _ _ zPre_S (zHm_c _ _))))) (mo_d (mo_l (mo_istore _ _)) (mo_d (mo_l (mo_goto _)) (mo_l (mo_iload _ _))))) (mo_d (mo_d (mo_l (mo_ic _ _)) (mo_d (mo_l (mo_cmpge _ _)) (mo_l (mo_aload _ _)))) (mo_d (mo_l (mo_aload _ _)) (mo_d (mo_l (mo_aload _ _)) (mo_l (mo_aload _ _)))))) (mo_d (mo_d (mo_d (mo_l (mo_aload _ _)) (mo_d (mo_l (mo_aload _ _)) (mo_l (mo_aload _ _)))) (mo_d (mo_l (mo_iload _ _)) (mo_d (mo_l (mo_ic _ _)) (mo_l (mo_cmpne _ _))))) (mo_d (mo_d (mo_l (mo_ic _ _)) (mo_d (mo_l (mo_goto _)) (mo_l (mo_iload _ _)))) (mo_d (mo_d (mo_l (mo_ic _ _)) (mo_l (mo_cmpge _ _))) (mo_d (mo_l (mo_ic _ _)) (mo_l (mo_goto _))))))))) (mo_d (mo_d (mo_d (mo_d (mo_d (mo_d (mo_l (mo_ic _ _)) (mo_d (mo_l (mo_iload _ _)) (mo_l (mo_iload _ _)))) (mo_d (mo_l (mo_cI _ _ _ _ zPre_S (zHm_c _ _))) (mo_d (mo_l (mo_istore _ _)) (mo_l (mo_goto _))))) (mo_d (mo_d (mo_l (mo_iload _ _)) (mo_d (mo_l (mo_ic _ _)) (mo_l (mo_cmpge _ _)))) (mo_d (mo_l (mo_aload _ _)) (mo_d (mo_l (mo_aload _ _)) (mo_l (mo_aload _ _)))))) (mo_d (mo_d (mo_d (mo_l (mo_aload _ _)) (mo_d (mo_l (mo_aload _ _)) (mo_l (mo_aload _ _)))) (mo_d (mo_l (mo_aload _ _)) (mo_d (mo_l (mo_aload _ _)) (mo_l (mo_aload _ _))))) (mo_d (mo_d (mo_l (mo_iload _ _)) (mo_d (mo_l (mo_ic _ _)) (mo_l (mo_cmpne _ _)))) (mo_d (mo_l (mo_ic _ _)) (mo_d (mo_l (mo_goto _)) (mo_l (mo_iload _ _))))))) (mo_d (mo_d (mo_d (mo_d (mo_l (mo_ic _ _)) (mo_d (mo_l (mo_cmpge _ _)) (mo_l (mo_ic _ _)))) (mo_d (mo_l (mo_goto _)) (mo_d (mo_l (mo_iload _ _)) (mo_l (mo_ic _ _))))) (mo_d (mo_d (mo_l (mo_cmpge _ _)) (mo_d (mo_l (mo_ic _ _)) (mo_l (mo_goto _)))) (mo_d (mo_l (mo_iload _ _)) (mo_d (mo_l (mo_ic _ _)) (mo_l (mo_cmpge _ _)))))) (mo_d (mo_d (mo_d (mo_l (mo_ic _ _)) (mo_d (mo_l (mo_goto _)) (mo_l (mo_iload _ _)))) (mo_d (mo_l (mo_ic _ _)) (mo_d (mo_l (mo_cmpge _ _)) (mo_l (mo_ic _ _))))) (mo_d (mo_d (mo_l (mo_goto _)) (mo_d (mo_l (mo_iload _ _)) (mo_l (mo_ic _ _)))) (mo_d (mo_l (mo_cmpge _ _)) (mo_d (mo_l (mo_ic _ _)) (mo_l (mo_goto _)))))))) (mo_d (mo_d (mo_d (mo_d (mo_d (mo_l (mo_ic _ _)) (mo_d (mo_l (mo_iload _ _)) (mo_l (mo_iload _ _)))) (mo_d (mo_l (mo_cI _ _ _ _ zPre_S (zHm_c _ _))) (mo_d (mo_l (mo_istore _ _)) (mo_l (mo_goto _))))) (mo_d (mo_d (mo_l (mo_aload _ _)) (mo_d (mo_l (mo_aload _ _)) (mo_l (mo_aload _ _)))) (mo_d (mo_l (mo_iload _ _)) (mo_d (mo_l (mo_ic _ _)) (mo_l (mo_cmpge _ _)))))) (mo_d (mo_d (mo_d (mo_l (mo_ic _ _)) (mo_d (mo_l (mo_goto _)) (mo_l (mo_iload _ _)))) (mo_d (mo_l (mo_ic _ _)) (mo_d (mo_l (mo_cmpne _ _)) (mo_l (mo_ic _ _))))) (mo_d (mo_d (mo_l (mo_goto _)) (mo_d (mo_l (mo_ic _ _)) (mo_l (mo_iload _ _)))) (mo_d (mo_l (mo_iload _ _)) (mo_d (mo_l (mo_cI _ _ _ _ zPre_S (zHm_c _ _))) (mo_l (mo_istore _ _))))))) (mo_d (mo_d (mo_d (mo_d (mo_l (mo_iload _ _)) (mo_d (mo_l (mo_ifeq _ _)) (mo_l (mo_aload _ _)))) (mo_d (mo_l (mo_aload _ _)) (mo_d (mo_l (mo_aload _ _)) (mo_l (mo_aload _ _))))) (mo_d (mo_d (mo_l (mo_aload _ _)) (mo_d (mo_l (mo_aload _ _)) (mo_l (mo_aload _ _)))) (mo_d (mo_l (mo_aload _ _)) (mo_d (mo_l (mo_aload _ _)) (mo_l (mo_aload _ _)))))) (mo_d (mo_d (mo_d (mo_l (mo_aload _ _)) (mo_d (mo_l (mo_aload _ _)) (mo_l (mo_iload _ _)))) (mo_d (mo_l (mo_cI _ _ _ _ zPre_S (zHm_c _ _))) (mo_d (mo_l (mo_ifeq _ _)) (mo_l (mo_ic _ _))))) (mo_d (mo_d (mo_l (mo_goto _)) (mo_d (mo_l (mo_ic _ _)) (mo_l (mo_istore _ _)))) (mo_d (mo_d (mo_l (mo_iinc _ _ _)) (mo_l (mo_goto _))) (mo_d (mo_l (mo_iload _ _)) (mo_l (mo_rZ)))))))))))
def zcode (G : Nat × Nat) (y pc : Nat) : zSem := bif Nat.ble 1000 y then zc_X5_leastOfRest G y pc else
 bif Nat.ble 103 y then
 (bif Nat.ble 165 y then
 (bif Nat.ble 205 y then
 (bif Nat.ble 214 y then
 (bif Nat.ble 218 y then
 (bif Nat.ble 220 y then
 (bif Nat.ble 221 y then
 (bif Nat.ble 222 y then
 (bif Nat.beq y 222 then zc_L_isTold G pc else s_no)
 else (bif Nat.beq y 221 then zc_L_isBoard G pc else s_no))
 else (bif Nat.beq y 220 then zc_L_soldered G pc else s_no))
 else (bif Nat.ble 219 y then
 (bif Nat.beq y 219 then zc_L_isReel G pc else s_no)
 else (bif Nat.beq y 218 then zc_L_isHarness G pc else s_no)))
 else (bif Nat.ble 216 y then
 (bif Nat.ble 217 y then
 (bif Nat.beq y 217 then zc_L_isSo G pc else s_no)
 else (bif Nat.beq y 216 then zc_L_faults G pc else s_no))
 else (bif Nat.ble 215 y then
 (bif Nat.beq y 215 then zc_L_window G pc else s_no)
 else (bif Nat.beq y 214 then zc_L_gives G pc else s_no))))
 else (bif Nat.ble 209 y then
 (bif Nat.ble 211 y then
 (bif Nat.ble 212 y then
 (bif Nat.ble 213 y then
 (bif Nat.beq y 213 then zc_L_runs G pc else s_no)
 else (bif Nat.beq y 212 then zc_L_wrong G pc else s_no))
 else (bif Nat.beq y 211 then zc_L_weight G pc else s_no))
 else (bif Nat.ble 210 y then
 (bif Nat.beq y 210 then zc_L_way G pc else s_no)
 else (bif Nat.beq y 209 then zc_L_flawed G pc else s_no)))
 else (bif Nat.ble 207 y then
 (bif Nat.ble 208 y then
 (bif Nat.beq y 208 then zc_L_limited G pc else s_no)
 else (bif Nat.beq y 207 then zc_L_does G pc else s_no))
 else (bif Nat.ble 206 y then
 (bif Nat.beq y 206 then zc_L_part G pc else s_no)
 else (bif Nat.beq y 205 then zc_L_law G pc else s_no)))))
 else (bif Nat.ble 181 y then
 (bif Nat.ble 192 y then
 (bif Nat.ble 198 y then
 (bif Nat.ble 201 y then
 (bif Nat.ble 202 y then
 (bif Nat.beq y 202 then zc_X11_recall G pc else s_no)
 else (bif Nat.beq y 201 then zc_X0_hasPartOf G pc else s_no))
 else (bif Nat.beq y 198 then zc_X11_jointAnew G pc else s_no))
 else (bif Nat.ble 195 y then
 (bif Nat.beq y 195 then zc_X11_ofSlot G pc else s_no)
 else (bif Nat.beq y 192 then zc_X11_pass G pc else s_no)))
 else (bif Nat.ble 186 y then
 (bif Nat.ble 189 y then
 (bif Nat.beq y 189 then zc_X11_ship G pc else s_no)
 else (bif Nat.beq y 186 then zc_X11_repair G pc else s_no))
 else (bif Nat.ble 185 y then
 (bif Nat.beq y 185 then zc_X9_mend G pc else s_no)
 else (bif Nat.beq y 181 then zc_X11_test G pc else s_no))))
 else (bif Nat.ble 175 y then
 (bif Nat.ble 179 y then
 (bif Nat.ble 180 y then
 (bif Nat.beq y 180 then zc_X0_faultsFound G pc else s_no)
 else (bif Nat.beq y 179 then zc_X0_findFaults G pc else s_no))
 else (bif Nat.ble 176 y then
 (bif Nat.beq y 176 then zc_X11_cover G pc else s_no)
 else (bif Nat.beq y 175 then zc_J6_bitCount_0f7a4 G pc else s_no)))
 else (bif Nat.ble 167 y then
 (bif Nat.ble 172 y then
 (bif Nat.beq y 172 then zc_X11_flaw G pc else s_no)
 else (bif Nat.beq y 167 then zc_X11_solder G pc else s_no))
 else (bif Nat.ble 166 y then
 (bif Nat.beq y 166 then zc_X0_goThrough G pc else s_no)
 else (bif Nat.beq y 165 then zc_X9_join G pc else s_no))))))
 else (bif Nat.ble 133 y then
 (bif Nat.ble 149 y then
 (bif Nat.ble 160 y then
 (bif Nat.ble 162 y then
 (bif Nat.ble 163 y then
 (bif Nat.ble 164 y then
 (bif Nat.beq y 164 then zc_X9_jointFor G pc else s_no)
 else (bif Nat.beq y 163 then zc_X0_peak G pc else s_no))
 else (bif Nat.beq y 162 then zc_X6_peakOf G pc else s_no))
 else (bif Nat.ble 161 y then
 (bif Nat.beq y 161 then zc_X0_mass G pc else s_no)
 else (bif Nat.beq y 160 then zc_X8_copyFrom G pc else s_no)))
 else (bif Nat.ble 151 y then
 (bif Nat.ble 157 y then
 (bif Nat.beq y 157 then zc_X11_limits G pc else s_no)
 else (bif Nat.beq y 151 then zc_X11_place G pc else s_no))
 else (bif Nat.ble 150 y then
 (bif Nat.beq y 150 then zc_X9_fill G pc else s_no)
 else (bif Nat.beq y 149 then zc_X7_gives G pc else s_no))))
 else (bif Nat.ble 143 y then
 (bif Nat.ble 147 y then
 (bif Nat.ble 148 y then
 (bif Nat.beq y 148 then zc_X9_hasPart G pc else s_no)
 else (bif Nat.beq y 147 then zc_X0_slotAt G pc else s_no))
 else (bif Nat.ble 146 y then
 (bif Nat.beq y 146 then zc_X11_boardAt G pc else s_no)
 else (bif Nat.beq y 143 then zc_X11_board G pc else s_no)))
 else (bif Nat.ble 141 y then
 (bif Nat.ble 142 y then
 (bif Nat.beq y 142 then zc_X0_init G pc else s_no)
 else (bif Nat.beq y 141 then zc_X9_init G pc else s_no))
 else (bif Nat.ble 138 y then
 (bif Nat.beq y 138 then zc_X11_ofReel G pc else s_no)
 else (bif Nat.beq y 133 then zc_X11_open G pc else s_no)))))
 else (bif Nat.ble 117 y then
 (bif Nat.ble 126 y then
 (bif Nat.ble 130 y then
 (bif Nat.ble 131 y then
 (bif Nat.ble 132 y then
 (bif Nat.beq y 132 then zc_X7_clockAt G pc else s_no)
 else (bif Nat.beq y 131 then zc_X7_beginClock G pc else s_no))
 else (bif Nat.beq y 130 then zc_X11_reelAt G pc else s_no))
 else (bif Nat.ble 127 y then
 (bif Nat.beq y 127 then zc_X11_reel G pc else s_no)
 else (bif Nat.beq y 126 then zc_X7_init G pc else s_no)))
 else (bif Nat.ble 119 y then
 (bif Nat.ble 123 y then
 (bif Nat.beq y 123 then zc_X11_crimps G pc else s_no)
 else (bif Nat.beq y 119 then zc_X11_crimp G pc else s_no))
 else (bif Nat.ble 118 y then
 (bif Nat.beq y 118 then zc_X3_judge G pc else s_no)
 else (bif Nat.beq y 117 then zc_J9_abs_0f7a4 G pc else s_no))))
 else (bif Nat.ble 111 y then
 (bif Nat.ble 115 y then
 (bif Nat.ble 116 y then
 (bif Nat.beq y 116 then zc_X3_window G pc else s_no)
 else (bif Nat.beq y 115 then zc_X11_divideDown G pc else s_no))
 else (bif Nat.ble 114 y then
 (bif Nat.beq y 114 then zc_J9_floorDiv_7cf53 G pc else s_no)
 else (bif Nat.beq y 111 then zc_X11_leastAnew G pc else s_no)))
 else (bif Nat.ble 109 y then
 (bif Nat.ble 110 y then
 (bif Nat.beq y 110 then zc_X5_leastByTable G pc else s_no)
 else (bif Nat.beq y 109 then zc_X5_addFamily G pc else s_no))
 else (bif Nat.ble 108 y then
 (bif Nat.beq y 108 then zc_X5_leastWithOneMore G pc else s_no)
 else (bif Nat.beq y 103 then zc_X11_least G pc else s_no)))))))
 else (bif Nat.ble 43 y then
 (bif Nat.ble 64 y then
 (bif Nat.ble 85 y then
 (bif Nat.ble 95 y then
 (bif Nat.ble 99 y then
 (bif Nat.ble 100 y then
 (bif Nat.ble 102 y then
 (bif Nat.beq y 102 then zc_X5_leastByChoice G pc else s_no)
 else (bif Nat.beq y 100 then zc_X5_weighSets G pc else s_no))
 else (bif Nat.beq y 99 then zc_X5_weightAsOne G pc else s_no))
 else (bif Nat.ble 98 y then
 (bif Nat.beq y 98 then zc_X5_allOrders G pc else s_no)
 else (bif Nat.beq y 95 then zc_X11_order G pc else s_no)))
 else (bif Nat.ble 89 y then
 (bif Nat.ble 94 y then
 (bif Nat.beq y 94 then zc_X5_add G pc else s_no)
 else (bif Nat.beq y 89 then zc_X11_weight G pc else s_no))
 else (bif Nat.ble 88 y then
 (bif Nat.beq y 88 then zc_X4_weightOf G pc else s_no)
 else (bif Nat.beq y 85 then zc_X11_ofWire G pc else s_no))))
 else (bif Nat.ble 76 y then
 (bif Nat.ble 78 y then
 (bif Nat.ble 79 y then
 (bif Nat.ble 84 y then
 (bif Nat.beq y 84 then zc_X10_bundleAt G pc else s_no)
 else (bif Nat.beq y 79 then zc_X11_pull G pc else s_no))
 else (bif Nat.beq y 78 then zc_X10_takeOut G pc else s_no))
 else (bif Nat.ble 77 y then
 (bif Nat.beq y 77 then zc_X2_release G pc else s_no)
 else (bif Nat.beq y 76 then zc_X11_wireAt G pc else s_no)))
 else (bif Nat.ble 66 y then
 (bif Nat.ble 67 y then
 (bif Nat.beq y 67 then zc_X11_wire G pc else s_no)
 else (bif Nat.beq y 66 then zc_X4_addWire G pc else s_no))
 else (bif Nat.ble 65 y then
 (bif Nat.beq y 65 then zc_X4_layAlong G pc else s_no)
 else (bif Nat.beq y 64 then zc_X10_goBy G pc else s_no)))))
 else (bif Nat.ble 55 y then
 (bif Nat.ble 59 y then
 (bif Nat.ble 61 y then
 (bif Nat.ble 62 y then
 (bif Nat.ble 63 y then
 (bif Nat.beq y 63 then zc_X4_lowestOnward G pc else s_no)
 else (bif Nat.beq y 62 then zc_X10_putIn G pc else s_no))
 else (bif Nat.beq y 61 then zc_X2_take G pc else s_no))
 else (bif Nat.ble 60 y then
 (bif Nat.beq y 60 then zc_X10_init G pc else s_no)
 else (bif Nat.beq y 59 then zc_X4_hasWay G pc else s_no)))
 else (bif Nat.ble 57 y then
 (bif Nat.ble 58 y then
 (bif Nat.beq y 58 then zc_X4_findCosts G pc else s_no)
 else (bif Nat.beq y 57 then zc_X4_lowerCost G pc else s_no))
 else (bif Nat.ble 56 y then
 (bif Nat.beq y 56 then zc_X1_across G pc else s_no)
 else (bif Nat.beq y 55 then zc_X1_cost G pc else s_no))))
 else (bif Nat.ble 47 y then
 (bif Nat.ble 53 y then
 (bif Nat.ble 54 y then
 (bif Nat.beq y 54 then zc_X8_at G pc else s_no)
 else (bif Nat.beq y 53 then zc_X2_isFree G pc else s_no))
 else (bif Nat.ble 48 y then
 (bif Nat.beq y 48 then zc_X11_mates G pc else s_no)
 else (bif Nat.beq y 47 then zc_X4_pairsThatFitWrong G pc else s_no)))
 else (bif Nat.ble 45 y then
 (bif Nat.ble 46 y then
 (bif Nat.beq y 46 then zc_X2_fits G pc else s_no)
 else (bif Nat.beq y 45 then zc_X11_connectorAt G pc else s_no))
 else (bif Nat.ble 44 y then
 (bif Nat.beq y 44 then zc_Jx4a65c_get_915e3 G pc else s_no)
 else (bif Nat.beq y 43 then zc_Jx4a65c_elementData_915e3 G pc else s_no))))))
 else (bif Nat.ble 18 y then
 (bif Nat.ble 26 y then
 (bif Nat.ble 36 y then
 (bif Nat.ble 38 y then
 (bif Nat.ble 41 y then
 (bif Nat.ble 42 y then
 (bif Nat.beq y 42 then zc_J15_checkIndex_7cf53 G pc else s_no)
 else (bif Nat.beq y 41 then zc_J3_checkIndex_8e157 G pc else s_no))
 else (bif Nat.beq y 38 then zc_X11_connector G pc else s_no))
 else (bif Nat.ble 37 y then
 (bif Nat.beq y 37 then zc_X4_addConnector G pc else s_no)
 else (bif Nat.beq y 36 then zc_X2_init G pc else s_no)))
 else (bif Nat.ble 28 y then
 (bif Nat.ble 29 y then
 (bif Nat.beq y 29 then zc_X11_bundle G pc else s_no)
 else (bif Nat.beq y 28 then zc_X4_addBundle G pc else s_no))
 else (bif Nat.ble 27 y then
 (bif Nat.beq y 27 then zc_Jx4a65c_add_9ea2d G pc else s_no)
 else (bif Nat.beq y 26 then zc_Jx4a65c_add_72be8 G pc else s_no))))
 else (bif Nat.ble 22 y then
 (bif Nat.ble 24 y then
 (bif Nat.ble 25 y then
 (bif Nat.beq y 25 then zc_Jx4a65c_grow_d5877 G pc else s_no)
 else (bif Nat.beq y 24 then zc_Jx4a65c_grow_92f84 G pc else s_no))
 else (bif Nat.ble 23 y then
 (bif Nat.beq y 23 then zc_J7_copyOf_1904c G pc else s_no)
 else (bif Nat.beq y 22 then zc_J7_copyOf_6403c G pc else s_no)))
 else (bif Nat.ble 20 y then
 (bif Nat.ble 21 y then
 (bif Nat.beq y 21 then zc_J9_min_7cf53 G pc else s_no)
 else (bif Nat.beq y 20 then zc_J8_newLength_cabcc G pc else s_no))
 else (bif Nat.ble 19 y then
 (bif Nat.beq y 19 then zc_J9_max_7cf53 G pc else s_no)
 else (bif Nat.beq y 18 then zc_X1_init G pc else s_no)))))
 else (bif Nat.ble 8 y then
 (bif Nat.ble 13 y then
 (bif Nat.ble 15 y then
 (bif Nat.ble 16 y then
 (bif Nat.ble 17 y then
 (bif Nat.beq y 17 then zc_X11_checkState G pc else s_no)
 else (bif Nat.beq y 16 then zc_Jx4a65c_size_8abf5 G pc else s_no))
 else (bif Nat.beq y 15 then zc_X11_checkArgument G pc else s_no))
 else (bif Nat.ble 14 y then
 (bif Nat.beq y 14 then zc_X11_isWithin G pc else s_no)
 else (bif Nat.beq y 13 then zc_X11_checkIndex G pc else s_no)))
 else (bif Nat.ble 10 y then
 (bif Nat.ble 12 y then
 (bif Nat.beq y 12 then zc_X11_isIndex G pc else s_no)
 else (bif Nat.beq y 10 then zc_X11_init G pc else s_no))
 else (bif Nat.ble 9 y then
 (bif Nat.beq y 9 then zc_X6_init G pc else s_no)
 else (bif Nat.beq y 8 then zc_X8_fill G pc else s_no))))
 else (bif Nat.ble 4 y then
 (bif Nat.ble 6 y then
 (bif Nat.ble 7 y then
 (bif Nat.beq y 7 then zc_X8_put G pc else s_no)
 else (bif Nat.beq y 6 then zc_X3_init G pc else s_no))
 else (bif Nat.ble 5 y then
 (bif Nat.beq y 5 then zc_X5_init G pc else s_no)
 else (bif Nat.beq y 4 then zc_X4_init G pc else s_no)))
 else (bif Nat.ble 2 y then
 (bif Nat.ble 3 y then
 (bif Nat.beq y 3 then zc_X8_init G pc else s_no)
 else (bif Nat.beq y 2 then zc_Jx4a65c_init_da8c8 G pc else s_no))
 else (bif Nat.ble 1 y then
 (bif Nat.beq y 1 then zc_Jxc12de_init_da8c8 G pc else s_no)
 else (bif Nat.beq y 0 then zc_Jxa1e45_init_da8c8 G pc else s_no)))))))
theorem zcode_mono (G : Nat × Nat) (y pc : Nat) : zMon (zcode G y pc) := mo_f2 (zm_X5_leastOfRest G y pc) (mo_f2 (mo_f2 (mo_f2 (mo_f2 (mo_f2 (mo_f2 (mo_f2 (mo_f2 (mo_f (zm_L_isTold G pc)) (mo_f (zm_L_isBoard G pc))) (mo_f (zm_L_soldered G pc))) (mo_f2 (mo_f (zm_L_isReel G pc)) (mo_f (zm_L_isHarness G pc)))) (mo_f2 (mo_f2 (mo_f (zm_L_isSo G pc)) (mo_f (zm_L_faults G pc))) (mo_f2 (mo_f (zm_L_window G pc)) (mo_f (zm_L_gives G pc))))) (mo_f2 (mo_f2 (mo_f2 (mo_f2 (mo_f (zm_L_runs G pc)) (mo_f (zm_L_wrong G pc))) (mo_f (zm_L_weight G pc))) (mo_f2 (mo_f (zm_L_way G pc)) (mo_f (zm_L_flawed G pc)))) (mo_f2 (mo_f2 (mo_f (zm_L_limited G pc)) (mo_f (zm_L_does G pc))) (mo_f2 (mo_f (zm_L_part G pc)) (mo_f (zm_L_law G pc)))))) (mo_f2 (mo_f2 (mo_f2 (mo_f2 (mo_f2 (mo_f (zm_X11_recall G pc)) (mo_f (zm_X0_hasPartOf G pc))) (mo_f (zm_X11_jointAnew G pc))) (mo_f2 (mo_f (zm_X11_ofSlot G pc)) (mo_f (zm_X11_pass G pc)))) (mo_f2 (mo_f2 (mo_f (zm_X11_ship G pc)) (mo_f (zm_X11_repair G pc))) (mo_f2 (mo_f (zm_X9_mend G pc)) (mo_f (zm_X11_test G pc))))) (mo_f2 (mo_f2 (mo_f2 (mo_f (zm_X0_faultsFound G pc)) (mo_f (zm_X0_findFaults G pc))) (mo_f2 (mo_f (zm_X11_cover G pc)) (mo_f (zm_J6_bitCount_0f7a4 G pc)))) (mo_f2 (mo_f2 (mo_f (zm_X11_flaw G pc)) (mo_f (zm_X11_solder G pc))) (mo_f2 (mo_f (zm_X0_goThrough G pc)) (mo_f (zm_X9_join G pc))))))) (mo_f2 (mo_f2 (mo_f2 (mo_f2 (mo_f2 (mo_f2 (mo_f (zm_X9_jointFor G pc)) (mo_f (zm_X0_peak G pc))) (mo_f (zm_X6_peakOf G pc))) (mo_f2 (mo_f (zm_X0_mass G pc)) (mo_f (zm_X8_copyFrom G pc)))) (mo_f2 (mo_f2 (mo_f (zm_X11_limits G pc)) (mo_f (zm_X11_place G pc))) (mo_f2 (mo_f (zm_X9_fill G pc)) (mo_f (zm_X7_gives G pc))))) (mo_f2 (mo_f2 (mo_f2 (mo_f (zm_X9_hasPart G pc)) (mo_f (zm_X0_slotAt G pc))) (mo_f2 (mo_f (zm_X11_boardAt G pc)) (mo_f (zm_X11_board G pc)))) (mo_f2 (mo_f2 (mo_f (zm_X0_init G pc)) (mo_f (zm_X9_init G pc))) (mo_f2 (mo_f (zm_X11_ofReel G pc)) (mo_f (zm_X11_open G pc)))))) (mo_f2 (mo_f2 (mo_f2 (mo_f2 (mo_f2 (mo_f (zm_X7_clockAt G pc)) (mo_f (zm_X7_beginClock G pc))) (mo_f (zm_X11_reelAt G pc))) (mo_f2 (mo_f (zm_X11_reel G pc)) (mo_f (zm_X7_init G pc)))) (mo_f2 (mo_f2 (mo_f (zm_X11_crimps G pc)) (mo_f (zm_X11_crimp G pc))) (mo_f2 (mo_f (zm_X3_judge G pc)) (mo_f (zm_J9_abs_0f7a4 G pc))))) (mo_f2 (mo_f2 (mo_f2 (mo_f (zm_X3_window G pc)) (mo_f (zm_X11_divideDown G pc))) (mo_f2 (mo_f (zm_J9_floorDiv_7cf53 G pc)) (mo_f (zm_X11_leastAnew G pc)))) (mo_f2 (mo_f2 (mo_f (zm_X5_leastByTable G pc)) (mo_f (zm_X5_addFamily G pc))) (mo_f2 (mo_f (zm_X5_leastWithOneMore G pc)) (mo_f (zm_X11_least G pc)))))))) (mo_f2 (mo_f2 (mo_f2 (mo_f2 (mo_f2 (mo_f2 (mo_f2 (mo_f (zm_X5_leastByChoice G pc)) (mo_f (zm_X5_weighSets G pc))) (mo_f (zm_X5_weightAsOne G pc))) (mo_f2 (mo_f (zm_X5_allOrders G pc)) (mo_f (zm_X11_order G pc)))) (mo_f2 (mo_f2 (mo_f (zm_X5_add G pc)) (mo_f (zm_X11_weight G pc))) (mo_f2 (mo_f (zm_X4_weightOf G pc)) (mo_f (zm_X11_ofWire G pc))))) (mo_f2 (mo_f2 (mo_f2 (mo_f2 (mo_f (zm_X10_bundleAt G pc)) (mo_f (zm_X11_pull G pc))) (mo_f (zm_X10_takeOut G pc))) (mo_f2 (mo_f (zm_X2_release G pc)) (mo_f (zm_X11_wireAt G pc)))) (mo_f2 (mo_f2 (mo_f (zm_X11_wire G pc)) (mo_f (zm_X4_addWire G pc))) (mo_f2 (mo_f (zm_X4_layAlong G pc)) (mo_f (zm_X10_goBy G pc)))))) (mo_f2 (mo_f2 (mo_f2 (mo_f2 (mo_f2 (mo_f (zm_X4_lowestOnward G pc)) (mo_f (zm_X10_putIn G pc))) (mo_f (zm_X2_take G pc))) (mo_f2 (mo_f (zm_X10_init G pc)) (mo_f (zm_X4_hasWay G pc)))) (mo_f2 (mo_f2 (mo_f (zm_X4_findCosts G pc)) (mo_f (zm_X4_lowerCost G pc))) (mo_f2 (mo_f (zm_X1_across G pc)) (mo_f (zm_X1_cost G pc))))) (mo_f2 (mo_f2 (mo_f2 (mo_f (zm_X8_at G pc)) (mo_f (zm_X2_isFree G pc))) (mo_f2 (mo_f (zm_X11_mates G pc)) (mo_f (zm_X4_pairsThatFitWrong G pc)))) (mo_f2 (mo_f2 (mo_f (zm_X2_fits G pc)) (mo_f (zm_X11_connectorAt G pc))) (mo_f2 (mo_f (zm_Jx4a65c_get_915e3 G pc)) (mo_f (zm_Jx4a65c_elementData_915e3 G pc))))))) (mo_f2 (mo_f2 (mo_f2 (mo_f2 (mo_f2 (mo_f2 (mo_f (zm_J15_checkIndex_7cf53 G pc)) (mo_f (zm_J3_checkIndex_8e157 G pc))) (mo_f (zm_X11_connector G pc))) (mo_f2 (mo_f (zm_X4_addConnector G pc)) (mo_f (zm_X2_init G pc)))) (mo_f2 (mo_f2 (mo_f (zm_X11_bundle G pc)) (mo_f (zm_X4_addBundle G pc))) (mo_f2 (mo_f (zm_Jx4a65c_add_9ea2d G pc)) (mo_f (zm_Jx4a65c_add_72be8 G pc))))) (mo_f2 (mo_f2 (mo_f2 (mo_f (zm_Jx4a65c_grow_d5877 G pc)) (mo_f (zm_Jx4a65c_grow_92f84 G pc))) (mo_f2 (mo_f (zm_J7_copyOf_1904c G pc)) (mo_f (zm_J7_copyOf_6403c G pc)))) (mo_f2 (mo_f2 (mo_f (zm_J9_min_7cf53 G pc)) (mo_f (zm_J8_newLength_cabcc G pc))) (mo_f2 (mo_f (zm_J9_max_7cf53 G pc)) (mo_f (zm_X1_init G pc)))))) (mo_f2 (mo_f2 (mo_f2 (mo_f2 (mo_f2 (mo_f (zm_X11_checkState G pc)) (mo_f (zm_Jx4a65c_size_8abf5 G pc))) (mo_f (zm_X11_checkArgument G pc))) (mo_f2 (mo_f (zm_X11_isWithin G pc)) (mo_f (zm_X11_checkIndex G pc)))) (mo_f2 (mo_f2 (mo_f (zm_X11_isIndex G pc)) (mo_f (zm_X11_init G pc))) (mo_f2 (mo_f (zm_X6_init G pc)) (mo_f (zm_X8_fill G pc))))) (mo_f2 (mo_f2 (mo_f2 (mo_f (zm_X8_put G pc)) (mo_f (zm_X3_init G pc))) (mo_f2 (mo_f (zm_X5_init G pc)) (mo_f (zm_X4_init G pc)))) (mo_f2 (mo_f2 (mo_f (zm_X8_init G pc)) (mo_f (zm_Jx4a65c_init_da8c8 G pc))) (mo_f2 (mo_f (zm_Jxc12de_init_da8c8 G pc)) (mo_f (zm_Jxa1e45_init_da8c8 G pc)))))))))
/-- the runs of a method from a pc on: what they end with -/
noncomputable def ev_ (G : Nat × Nat) : zF := zfix (zcode G) (zcode_mono G)
theorem ev_eq (G : Nat × Nat) (y pc : Nat) (ls st : List Value) (W : zW) : ev_ G y pc ls st W = zcode G y pc (ev_ G) (ev_ G y) ls st W := zfix_eq _ _ y pc ls st W
theorem zh_Jxa1e45_init_da8c8 (G : Nat × Nat) : ∀ pc ls st W, ev_ G 0 pc ls st W = zc_Jxa1e45_init_da8c8 G pc (ev_ G) (ev_ G 0) ls st W := fun pc ls st W => ev_eq G 0 pc ls st W
theorem zh_Jxc12de_init_da8c8 (G : Nat × Nat) : ∀ pc ls st W, ev_ G 1 pc ls st W = zc_Jxc12de_init_da8c8 G pc (ev_ G) (ev_ G 1) ls st W := fun pc ls st W => ev_eq G 1 pc ls st W
theorem zh_Jx4a65c_init_da8c8 (G : Nat × Nat) : ∀ pc ls st W, ev_ G 2 pc ls st W = zc_Jx4a65c_init_da8c8 G pc (ev_ G) (ev_ G 2) ls st W := fun pc ls st W => ev_eq G 2 pc ls st W
theorem zh_X8_init (G : Nat × Nat) : ∀ pc ls st W, ev_ G 3 pc ls st W = zc_X8_init G pc (ev_ G) (ev_ G 3) ls st W := fun pc ls st W => ev_eq G 3 pc ls st W
theorem zh_X4_init (G : Nat × Nat) : ∀ pc ls st W, ev_ G 4 pc ls st W = zc_X4_init G pc (ev_ G) (ev_ G 4) ls st W := fun pc ls st W => ev_eq G 4 pc ls st W
theorem zh_X5_init (G : Nat × Nat) : ∀ pc ls st W, ev_ G 5 pc ls st W = zc_X5_init G pc (ev_ G) (ev_ G 5) ls st W := fun pc ls st W => ev_eq G 5 pc ls st W
theorem zh_X3_init (G : Nat × Nat) : ∀ pc ls st W, ev_ G 6 pc ls st W = zc_X3_init G pc (ev_ G) (ev_ G 6) ls st W := fun pc ls st W => ev_eq G 6 pc ls st W
theorem zh_X8_put (G : Nat × Nat) : ∀ pc ls st W, ev_ G 7 pc ls st W = zc_X8_put G pc (ev_ G) (ev_ G 7) ls st W := fun pc ls st W => ev_eq G 7 pc ls st W
theorem zh_X8_fill (G : Nat × Nat) : ∀ pc ls st W, ev_ G 8 pc ls st W = zc_X8_fill G pc (ev_ G) (ev_ G 8) ls st W := fun pc ls st W => ev_eq G 8 pc ls st W
theorem zh_X6_init (G : Nat × Nat) : ∀ pc ls st W, ev_ G 9 pc ls st W = zc_X6_init G pc (ev_ G) (ev_ G 9) ls st W := fun pc ls st W => ev_eq G 9 pc ls st W
theorem zh_X11_init (G : Nat × Nat) : ∀ pc ls st W, ev_ G 10 pc ls st W = zc_X11_init G pc (ev_ G) (ev_ G 10) ls st W := fun pc ls st W => ev_eq G 10 pc ls st W
theorem zh_X11_isIndex (G : Nat × Nat) : ∀ pc ls st W, ev_ G 12 pc ls st W = zc_X11_isIndex G pc (ev_ G) (ev_ G 12) ls st W := fun pc ls st W => ev_eq G 12 pc ls st W
theorem zh_X11_checkIndex (G : Nat × Nat) : ∀ pc ls st W, ev_ G 13 pc ls st W = zc_X11_checkIndex G pc (ev_ G) (ev_ G 13) ls st W := fun pc ls st W => ev_eq G 13 pc ls st W
theorem zh_X11_isWithin (G : Nat × Nat) : ∀ pc ls st W, ev_ G 14 pc ls st W = zc_X11_isWithin G pc (ev_ G) (ev_ G 14) ls st W := fun pc ls st W => ev_eq G 14 pc ls st W
theorem zh_X11_checkArgument (G : Nat × Nat) : ∀ pc ls st W, ev_ G 15 pc ls st W = zc_X11_checkArgument G pc (ev_ G) (ev_ G 15) ls st W := fun pc ls st W => ev_eq G 15 pc ls st W
theorem zh_Jx4a65c_size_8abf5 (G : Nat × Nat) : ∀ pc ls st W, ev_ G 16 pc ls st W = zc_Jx4a65c_size_8abf5 G pc (ev_ G) (ev_ G 16) ls st W := fun pc ls st W => ev_eq G 16 pc ls st W
theorem zh_X11_checkState (G : Nat × Nat) : ∀ pc ls st W, ev_ G 17 pc ls st W = zc_X11_checkState G pc (ev_ G) (ev_ G 17) ls st W := fun pc ls st W => ev_eq G 17 pc ls st W
theorem zh_X1_init (G : Nat × Nat) : ∀ pc ls st W, ev_ G 18 pc ls st W = zc_X1_init G pc (ev_ G) (ev_ G 18) ls st W := fun pc ls st W => ev_eq G 18 pc ls st W
theorem zh_J9_max_7cf53 (G : Nat × Nat) : ∀ pc ls st W, ev_ G 19 pc ls st W = zc_J9_max_7cf53 G pc (ev_ G) (ev_ G 19) ls st W := fun pc ls st W => ev_eq G 19 pc ls st W
theorem zh_J8_newLength_cabcc (G : Nat × Nat) : ∀ pc ls st W, ev_ G 20 pc ls st W = zc_J8_newLength_cabcc G pc (ev_ G) (ev_ G 20) ls st W := fun pc ls st W => ev_eq G 20 pc ls st W
theorem zh_J9_min_7cf53 (G : Nat × Nat) : ∀ pc ls st W, ev_ G 21 pc ls st W = zc_J9_min_7cf53 G pc (ev_ G) (ev_ G 21) ls st W := fun pc ls st W => ev_eq G 21 pc ls st W
theorem zh_J7_copyOf_6403c (G : Nat × Nat) : ∀ pc ls st W, ev_ G 22 pc ls st W = zc_J7_copyOf_6403c G pc (ev_ G) (ev_ G 22) ls st W := fun pc ls st W => ev_eq G 22 pc ls st W
theorem zh_J7_copyOf_1904c (G : Nat × Nat) : ∀ pc ls st W, ev_ G 23 pc ls st W = zc_J7_copyOf_1904c G pc (ev_ G) (ev_ G 23) ls st W := fun pc ls st W => ev_eq G 23 pc ls st W
theorem zh_Jx4a65c_grow_92f84 (G : Nat × Nat) : ∀ pc ls st W, ev_ G 24 pc ls st W = zc_Jx4a65c_grow_92f84 G pc (ev_ G) (ev_ G 24) ls st W := fun pc ls st W => ev_eq G 24 pc ls st W
theorem zh_Jx4a65c_grow_d5877 (G : Nat × Nat) : ∀ pc ls st W, ev_ G 25 pc ls st W = zc_Jx4a65c_grow_d5877 G pc (ev_ G) (ev_ G 25) ls st W := fun pc ls st W => ev_eq G 25 pc ls st W
theorem zh_Jx4a65c_add_72be8 (G : Nat × Nat) : ∀ pc ls st W, ev_ G 26 pc ls st W = zc_Jx4a65c_add_72be8 G pc (ev_ G) (ev_ G 26) ls st W := fun pc ls st W => ev_eq G 26 pc ls st W
theorem zh_Jx4a65c_add_9ea2d (G : Nat × Nat) : ∀ pc ls st W, ev_ G 27 pc ls st W = zc_Jx4a65c_add_9ea2d G pc (ev_ G) (ev_ G 27) ls st W := fun pc ls st W => ev_eq G 27 pc ls st W
theorem zh_X4_addBundle (G : Nat × Nat) : ∀ pc ls st W, ev_ G 28 pc ls st W = zc_X4_addBundle G pc (ev_ G) (ev_ G 28) ls st W := fun pc ls st W => ev_eq G 28 pc ls st W
theorem zh_X11_bundle (G : Nat × Nat) : ∀ pc ls st W, ev_ G 29 pc ls st W = zc_X11_bundle G pc (ev_ G) (ev_ G 29) ls st W := fun pc ls st W => ev_eq G 29 pc ls st W
theorem zh_X2_init (G : Nat × Nat) : ∀ pc ls st W, ev_ G 36 pc ls st W = zc_X2_init G pc (ev_ G) (ev_ G 36) ls st W := fun pc ls st W => ev_eq G 36 pc ls st W
theorem zh_X4_addConnector (G : Nat × Nat) : ∀ pc ls st W, ev_ G 37 pc ls st W = zc_X4_addConnector G pc (ev_ G) (ev_ G 37) ls st W := fun pc ls st W => ev_eq G 37 pc ls st W
theorem zh_X11_connector (G : Nat × Nat) : ∀ pc ls st W, ev_ G 38 pc ls st W = zc_X11_connector G pc (ev_ G) (ev_ G 38) ls st W := fun pc ls st W => ev_eq G 38 pc ls st W
theorem zh_J3_checkIndex_8e157 (G : Nat × Nat) : ∀ pc ls st W, ev_ G 41 pc ls st W = zc_J3_checkIndex_8e157 G pc (ev_ G) (ev_ G 41) ls st W := fun pc ls st W => ev_eq G 41 pc ls st W
theorem zh_J15_checkIndex_7cf53 (G : Nat × Nat) : ∀ pc ls st W, ev_ G 42 pc ls st W = zc_J15_checkIndex_7cf53 G pc (ev_ G) (ev_ G 42) ls st W := fun pc ls st W => ev_eq G 42 pc ls st W
theorem zh_Jx4a65c_elementData_915e3 (G : Nat × Nat) : ∀ pc ls st W, ev_ G 43 pc ls st W = zc_Jx4a65c_elementData_915e3 G pc (ev_ G) (ev_ G 43) ls st W := fun pc ls st W => ev_eq G 43 pc ls st W
theorem zh_Jx4a65c_get_915e3 (G : Nat × Nat) : ∀ pc ls st W, ev_ G 44 pc ls st W = zc_Jx4a65c_get_915e3 G pc (ev_ G) (ev_ G 44) ls st W := fun pc ls st W => ev_eq G 44 pc ls st W
theorem zh_X11_connectorAt (G : Nat × Nat) : ∀ pc ls st W, ev_ G 45 pc ls st W = zc_X11_connectorAt G pc (ev_ G) (ev_ G 45) ls st W := fun pc ls st W => ev_eq G 45 pc ls st W
theorem zh_X2_fits (G : Nat × Nat) : ∀ pc ls st W, ev_ G 46 pc ls st W = zc_X2_fits G pc (ev_ G) (ev_ G 46) ls st W := fun pc ls st W => ev_eq G 46 pc ls st W
theorem zh_X4_pairsThatFitWrong (G : Nat × Nat) : ∀ pc ls st W, ev_ G 47 pc ls st W = zc_X4_pairsThatFitWrong G pc (ev_ G) (ev_ G 47) ls st W := fun pc ls st W => ev_eq G 47 pc ls st W
theorem zh_X11_mates (G : Nat × Nat) : ∀ pc ls st W, ev_ G 48 pc ls st W = zc_X11_mates G pc (ev_ G) (ev_ G 48) ls st W := fun pc ls st W => ev_eq G 48 pc ls st W
theorem zh_X2_isFree (G : Nat × Nat) : ∀ pc ls st W, ev_ G 53 pc ls st W = zc_X2_isFree G pc (ev_ G) (ev_ G 53) ls st W := fun pc ls st W => ev_eq G 53 pc ls st W
theorem zh_X8_at (G : Nat × Nat) : ∀ pc ls st W, ev_ G 54 pc ls st W = zc_X8_at G pc (ev_ G) (ev_ G 54) ls st W := fun pc ls st W => ev_eq G 54 pc ls st W
theorem zh_X1_cost (G : Nat × Nat) : ∀ pc ls st W, ev_ G 55 pc ls st W = zc_X1_cost G pc (ev_ G) (ev_ G 55) ls st W := fun pc ls st W => ev_eq G 55 pc ls st W
theorem zh_X1_across (G : Nat × Nat) : ∀ pc ls st W, ev_ G 56 pc ls st W = zc_X1_across G pc (ev_ G) (ev_ G 56) ls st W := fun pc ls st W => ev_eq G 56 pc ls st W
theorem zh_X4_lowerCost (G : Nat × Nat) : ∀ pc ls st W, ev_ G 57 pc ls st W = zc_X4_lowerCost G pc (ev_ G) (ev_ G 57) ls st W := fun pc ls st W => ev_eq G 57 pc ls st W
theorem zh_X4_findCosts (G : Nat × Nat) : ∀ pc ls st W, ev_ G 58 pc ls st W = zc_X4_findCosts G pc (ev_ G) (ev_ G 58) ls st W := fun pc ls st W => ev_eq G 58 pc ls st W
theorem zh_X4_hasWay (G : Nat × Nat) : ∀ pc ls st W, ev_ G 59 pc ls st W = zc_X4_hasWay G pc (ev_ G) (ev_ G 59) ls st W := fun pc ls st W => ev_eq G 59 pc ls st W
theorem zh_X10_init (G : Nat × Nat) : ∀ pc ls st W, ev_ G 60 pc ls st W = zc_X10_init G pc (ev_ G) (ev_ G 60) ls st W := fun pc ls st W => ev_eq G 60 pc ls st W
theorem zh_X2_take (G : Nat × Nat) : ∀ pc ls st W, ev_ G 61 pc ls st W = zc_X2_take G pc (ev_ G) (ev_ G 61) ls st W := fun pc ls st W => ev_eq G 61 pc ls st W
theorem zh_X10_putIn (G : Nat × Nat) : ∀ pc ls st W, ev_ G 62 pc ls st W = zc_X10_putIn G pc (ev_ G) (ev_ G 62) ls st W := fun pc ls st W => ev_eq G 62 pc ls st W
theorem zh_X4_lowestOnward (G : Nat × Nat) : ∀ pc ls st W, ev_ G 63 pc ls st W = zc_X4_lowestOnward G pc (ev_ G) (ev_ G 63) ls st W := fun pc ls st W => ev_eq G 63 pc ls st W
theorem zh_X10_goBy (G : Nat × Nat) : ∀ pc ls st W, ev_ G 64 pc ls st W = zc_X10_goBy G pc (ev_ G) (ev_ G 64) ls st W := fun pc ls st W => ev_eq G 64 pc ls st W
theorem zh_X4_layAlong (G : Nat × Nat) : ∀ pc ls st W, ev_ G 65 pc ls st W = zc_X4_layAlong G pc (ev_ G) (ev_ G 65) ls st W := fun pc ls st W => ev_eq G 65 pc ls st W
theorem zh_X4_addWire (G : Nat × Nat) : ∀ pc ls st W, ev_ G 66 pc ls st W = zc_X4_addWire G pc (ev_ G) (ev_ G 66) ls st W := fun pc ls st W => ev_eq G 66 pc ls st W
theorem zh_X11_wire (G : Nat × Nat) : ∀ pc ls st W, ev_ G 67 pc ls st W = zc_X11_wire G pc (ev_ G) (ev_ G 67) ls st W := fun pc ls st W => ev_eq G 67 pc ls st W
theorem zh_X11_wireAt (G : Nat × Nat) : ∀ pc ls st W, ev_ G 76 pc ls st W = zc_X11_wireAt G pc (ev_ G) (ev_ G 76) ls st W := fun pc ls st W => ev_eq G 76 pc ls st W
theorem zh_X2_release (G : Nat × Nat) : ∀ pc ls st W, ev_ G 77 pc ls st W = zc_X2_release G pc (ev_ G) (ev_ G 77) ls st W := fun pc ls st W => ev_eq G 77 pc ls st W
theorem zh_X10_takeOut (G : Nat × Nat) : ∀ pc ls st W, ev_ G 78 pc ls st W = zc_X10_takeOut G pc (ev_ G) (ev_ G 78) ls st W := fun pc ls st W => ev_eq G 78 pc ls st W
theorem zh_X11_pull (G : Nat × Nat) : ∀ pc ls st W, ev_ G 79 pc ls st W = zc_X11_pull G pc (ev_ G) (ev_ G 79) ls st W := fun pc ls st W => ev_eq G 79 pc ls st W
theorem zh_X10_bundleAt (G : Nat × Nat) : ∀ pc ls st W, ev_ G 84 pc ls st W = zc_X10_bundleAt G pc (ev_ G) (ev_ G 84) ls st W := fun pc ls st W => ev_eq G 84 pc ls st W
theorem zh_X11_ofWire (G : Nat × Nat) : ∀ pc ls st W, ev_ G 85 pc ls st W = zc_X11_ofWire G pc (ev_ G) (ev_ G 85) ls st W := fun pc ls st W => ev_eq G 85 pc ls st W
theorem zh_X5_add (G : Nat × Nat) : ∀ pc ls st W, ev_ G 94 pc ls st W = zc_X5_add G pc (ev_ G) (ev_ G 94) ls st W := fun pc ls st W => ev_eq G 94 pc ls st W
theorem zh_X11_order (G : Nat × Nat) : ∀ pc ls st W, ev_ G 95 pc ls st W = zc_X11_order G pc (ev_ G) (ev_ G 95) ls st W := fun pc ls st W => ev_eq G 95 pc ls st W
theorem zh_J9_floorDiv_7cf53 (G : Nat × Nat) : ∀ pc ls st W, ev_ G 114 pc ls st W = zc_J9_floorDiv_7cf53 G pc (ev_ G) (ev_ G 114) ls st W := fun pc ls st W => ev_eq G 114 pc ls st W
theorem zh_X11_divideDown (G : Nat × Nat) : ∀ pc ls st W, ev_ G 115 pc ls st W = zc_X11_divideDown G pc (ev_ G) (ev_ G 115) ls st W := fun pc ls st W => ev_eq G 115 pc ls st W
theorem zh_X3_window (G : Nat × Nat) : ∀ pc ls st W, ev_ G 116 pc ls st W = zc_X3_window G pc (ev_ G) (ev_ G 116) ls st W := fun pc ls st W => ev_eq G 116 pc ls st W
theorem zh_J9_abs_0f7a4 (G : Nat × Nat) : ∀ pc ls st W, ev_ G 117 pc ls st W = zc_J9_abs_0f7a4 G pc (ev_ G) (ev_ G 117) ls st W := fun pc ls st W => ev_eq G 117 pc ls st W
theorem zh_X3_judge (G : Nat × Nat) : ∀ pc ls st W, ev_ G 118 pc ls st W = zc_X3_judge G pc (ev_ G) (ev_ G 118) ls st W := fun pc ls st W => ev_eq G 118 pc ls st W
theorem zh_X11_crimp (G : Nat × Nat) : ∀ pc ls st W, ev_ G 119 pc ls st W = zc_X11_crimp G pc (ev_ G) (ev_ G 119) ls st W := fun pc ls st W => ev_eq G 119 pc ls st W
theorem zh_X7_init (G : Nat × Nat) : ∀ pc ls st W, ev_ G 126 pc ls st W = zc_X7_init G pc (ev_ G) (ev_ G 126) ls st W := fun pc ls st W => ev_eq G 126 pc ls st W
theorem zh_X11_reel (G : Nat × Nat) : ∀ pc ls st W, ev_ G 127 pc ls st W = zc_X11_reel G pc (ev_ G) (ev_ G 127) ls st W := fun pc ls st W => ev_eq G 127 pc ls st W
theorem zh_X11_reelAt (G : Nat × Nat) : ∀ pc ls st W, ev_ G 130 pc ls st W = zc_X11_reelAt G pc (ev_ G) (ev_ G 130) ls st W := fun pc ls st W => ev_eq G 130 pc ls st W
theorem zh_X7_beginClock (G : Nat × Nat) : ∀ pc ls st W, ev_ G 131 pc ls st W = zc_X7_beginClock G pc (ev_ G) (ev_ G 131) ls st W := fun pc ls st W => ev_eq G 131 pc ls st W
theorem zh_X7_clockAt (G : Nat × Nat) : ∀ pc ls st W, ev_ G 132 pc ls st W = zc_X7_clockAt G pc (ev_ G) (ev_ G 132) ls st W := fun pc ls st W => ev_eq G 132 pc ls st W
theorem zh_X11_open (G : Nat × Nat) : ∀ pc ls st W, ev_ G 133 pc ls st W = zc_X11_open G pc (ev_ G) (ev_ G 133) ls st W := fun pc ls st W => ev_eq G 133 pc ls st W
theorem zh_X11_ofReel (G : Nat × Nat) : ∀ pc ls st W, ev_ G 138 pc ls st W = zc_X11_ofReel G pc (ev_ G) (ev_ G 138) ls st W := fun pc ls st W => ev_eq G 138 pc ls st W
theorem zh_X9_init (G : Nat × Nat) : ∀ pc ls st W, ev_ G 141 pc ls st W = zc_X9_init G pc (ev_ G) (ev_ G 141) ls st W := fun pc ls st W => ev_eq G 141 pc ls st W
theorem zh_X0_init (G : Nat × Nat) : ∀ pc ls st W, ev_ G 142 pc ls st W = zc_X0_init G pc (ev_ G) (ev_ G 142) ls st W := fun pc ls st W => ev_eq G 142 pc ls st W
theorem zh_X11_board (G : Nat × Nat) : ∀ pc ls st W, ev_ G 143 pc ls st W = zc_X11_board G pc (ev_ G) (ev_ G 143) ls st W := fun pc ls st W => ev_eq G 143 pc ls st W
theorem zh_X11_boardAt (G : Nat × Nat) : ∀ pc ls st W, ev_ G 146 pc ls st W = zc_X11_boardAt G pc (ev_ G) (ev_ G 146) ls st W := fun pc ls st W => ev_eq G 146 pc ls st W
theorem zh_X0_slotAt (G : Nat × Nat) : ∀ pc ls st W, ev_ G 147 pc ls st W = zc_X0_slotAt G pc (ev_ G) (ev_ G 147) ls st W := fun pc ls st W => ev_eq G 147 pc ls st W
theorem zh_X9_hasPart (G : Nat × Nat) : ∀ pc ls st W, ev_ G 148 pc ls st W = zc_X9_hasPart G pc (ev_ G) (ev_ G 148) ls st W := fun pc ls st W => ev_eq G 148 pc ls st W
theorem zh_X7_gives (G : Nat × Nat) : ∀ pc ls st W, ev_ G 149 pc ls st W = zc_X7_gives G pc (ev_ G) (ev_ G 149) ls st W := fun pc ls st W => ev_eq G 149 pc ls st W
theorem zh_X9_fill (G : Nat × Nat) : ∀ pc ls st W, ev_ G 150 pc ls st W = zc_X9_fill G pc (ev_ G) (ev_ G 150) ls st W := fun pc ls st W => ev_eq G 150 pc ls st W
theorem zh_X11_place (G : Nat × Nat) : ∀ pc ls st W, ev_ G 151 pc ls st W = zc_X11_place G pc (ev_ G) (ev_ G 151) ls st W := fun pc ls st W => ev_eq G 151 pc ls st W
theorem zh_X11_limits (G : Nat × Nat) : ∀ pc ls st W, ev_ G 157 pc ls st W = zc_X11_limits G pc (ev_ G) (ev_ G 157) ls st W := fun pc ls st W => ev_eq G 157 pc ls st W
theorem zh_L_limited (G : Nat × Nat) : ∀ pc ls st W, ev_ G 208 pc ls st W = zc_L_limited G pc (ev_ G) (ev_ G 208) ls st W := fun pc ls st W => ev_eq G 208 pc ls st W
theorem zh_X8_copyFrom (G : Nat × Nat) : ∀ pc ls st W, ev_ G 160 pc ls st W = zc_X8_copyFrom G pc (ev_ G) (ev_ G 160) ls st W := fun pc ls st W => ev_eq G 160 pc ls st W
theorem zh_X0_mass (G : Nat × Nat) : ∀ pc ls st W, ev_ G 161 pc ls st W = zc_X0_mass G pc (ev_ G) (ev_ G 161) ls st W := fun pc ls st W => ev_eq G 161 pc ls st W
theorem zh_X6_peakOf (G : Nat × Nat) : ∀ pc ls st W, ev_ G 162 pc ls st W = zc_X6_peakOf G pc (ev_ G) (ev_ G 162) ls st W := fun pc ls st W => ev_eq G 162 pc ls st W
theorem zh_X0_peak (G : Nat × Nat) : ∀ pc ls st W, ev_ G 163 pc ls st W = zc_X0_peak G pc (ev_ G) (ev_ G 163) ls st W := fun pc ls st W => ev_eq G 163 pc ls st W
theorem zh_X9_jointFor (G : Nat × Nat) : ∀ pc ls st W, ev_ G 164 pc ls st W = zc_X9_jointFor G pc (ev_ G) (ev_ G 164) ls st W := fun pc ls st W => ev_eq G 164 pc ls st W
theorem zh_X9_join (G : Nat × Nat) : ∀ pc ls st W, ev_ G 165 pc ls st W = zc_X9_join G pc (ev_ G) (ev_ G 165) ls st W := fun pc ls st W => ev_eq G 165 pc ls st W
theorem zh_X0_goThrough (G : Nat × Nat) : ∀ pc ls st W, ev_ G 166 pc ls st W = zc_X0_goThrough G pc (ev_ G) (ev_ G 166) ls st W := fun pc ls st W => ev_eq G 166 pc ls st W
theorem zh_X11_solder (G : Nat × Nat) : ∀ pc ls st W, ev_ G 167 pc ls st W = zc_X11_solder G pc (ev_ G) (ev_ G 167) ls st W := fun pc ls st W => ev_eq G 167 pc ls st W
theorem zh_X11_flaw (G : Nat × Nat) : ∀ pc ls st W, ev_ G 172 pc ls st W = zc_X11_flaw G pc (ev_ G) (ev_ G 172) ls st W := fun pc ls st W => ev_eq G 172 pc ls st W
theorem zh_L_flawed (G : Nat × Nat) : ∀ pc ls st W, ev_ G 209 pc ls st W = zc_L_flawed G pc (ev_ G) (ev_ G 209) ls st W := fun pc ls st W => ev_eq G 209 pc ls st W
theorem zh_J6_bitCount_0f7a4 (G : Nat × Nat) : ∀ pc ls st W, ev_ G 175 pc ls st W = zc_J6_bitCount_0f7a4 G pc (ev_ G) (ev_ G 175) ls st W := fun pc ls st W => ev_eq G 175 pc ls st W
theorem zh_X11_cover (G : Nat × Nat) : ∀ pc ls st W, ev_ G 176 pc ls st W = zc_X11_cover G pc (ev_ G) (ev_ G 176) ls st W := fun pc ls st W => ev_eq G 176 pc ls st W
theorem zh_X0_findFaults (G : Nat × Nat) : ∀ pc ls st W, ev_ G 179 pc ls st W = zc_X0_findFaults G pc (ev_ G) (ev_ G 179) ls st W := fun pc ls st W => ev_eq G 179 pc ls st W
theorem zh_X0_faultsFound (G : Nat × Nat) : ∀ pc ls st W, ev_ G 180 pc ls st W = zc_X0_faultsFound G pc (ev_ G) (ev_ G 180) ls st W := fun pc ls st W => ev_eq G 180 pc ls st W
theorem zh_X11_test (G : Nat × Nat) : ∀ pc ls st W, ev_ G 181 pc ls st W = zc_X11_test G pc (ev_ G) (ev_ G 181) ls st W := fun pc ls st W => ev_eq G 181 pc ls st W
theorem zh_X9_mend (G : Nat × Nat) : ∀ pc ls st W, ev_ G 185 pc ls st W = zc_X9_mend G pc (ev_ G) (ev_ G 185) ls st W := fun pc ls st W => ev_eq G 185 pc ls st W
theorem zh_X11_repair (G : Nat × Nat) : ∀ pc ls st W, ev_ G 186 pc ls st W = zc_X11_repair G pc (ev_ G) (ev_ G 186) ls st W := fun pc ls st W => ev_eq G 186 pc ls st W
theorem zh_X11_ship (G : Nat × Nat) : ∀ pc ls st W, ev_ G 189 pc ls st W = zc_X11_ship G pc (ev_ G) (ev_ G 189) ls st W := fun pc ls st W => ev_eq G 189 pc ls st W
theorem zh_X11_pass (G : Nat × Nat) : ∀ pc ls st W, ev_ G 192 pc ls st W = zc_X11_pass G pc (ev_ G) (ev_ G 192) ls st W := fun pc ls st W => ev_eq G 192 pc ls st W
theorem zh_X11_ofSlot (G : Nat × Nat) : ∀ pc ls st W, ev_ G 195 pc ls st W = zc_X11_ofSlot G pc (ev_ G) (ev_ G 195) ls st W := fun pc ls st W => ev_eq G 195 pc ls st W
theorem zh_X0_hasPartOf (G : Nat × Nat) : ∀ pc ls st W, ev_ G 201 pc ls st W = zc_X0_hasPartOf G pc (ev_ G) (ev_ G 201) ls st W := fun pc ls st W => ev_eq G 201 pc ls st W
theorem zh_X11_recall (G : Nat × Nat) : ∀ pc ls st W, ev_ G 202 pc ls st W = zc_X11_recall G pc (ev_ G) (ev_ G 202) ls st W := fun pc ls st W => ev_eq G 202 pc ls st W
theorem zh_L_does (G : Nat × Nat) : ∀ pc ls st W, ev_ G 207 pc ls st W = zc_L_does G pc (ev_ G) (ev_ G 207) ls st W := fun pc ls st W => ev_eq G 207 pc ls st W
theorem zh_X5_allOrders (G : Nat × Nat) : ∀ pc ls st W, ev_ G 98 pc ls st W = zc_X5_allOrders G pc (ev_ G) (ev_ G 98) ls st W := fun pc ls st W => ev_eq G 98 pc ls st W
theorem zh_X4_weightOf (G : Nat × Nat) : ∀ pc ls st W, ev_ G 88 pc ls st W = zc_X4_weightOf G pc (ev_ G) (ev_ G 88) ls st W := fun pc ls st W => ev_eq G 88 pc ls st W
theorem zh_X5_weightAsOne (G : Nat × Nat) : ∀ pc ls st W, ev_ G 99 pc ls st W = zc_X5_weightAsOne G pc (ev_ G) (ev_ G 99) ls st W := fun pc ls st W => ev_eq G 99 pc ls st W
theorem zh_X5_weighSets (G : Nat × Nat) : ∀ pc ls st W, ev_ G 100 pc ls st W = zc_X5_weighSets G pc (ev_ G) (ev_ G 100) ls st W := fun pc ls st W => ev_eq G 100 pc ls st W
theorem zh_X5_leastOfRest (G : Nat × Nat) (d : Nat) : ∀ pc ls st W, ev_ G (d + 1000) pc ls st W = zc_X5_leastOfRest G (d + 1000) pc (ev_ G) (ev_ G (d + 1000)) ls st W := fun pc ls st W => (ev_eq G (d + 1000) pc ls st W).trans (by
  unfold zcode
  rw [show Nat.ble 1000 (d + 1000) = true from Nat.ble_eq_true_of_le (Nat.le_add_left _ _)]
  rfl)
theorem zh_X5_leastByChoice (G : Nat × Nat) : ∀ pc ls st W, ev_ G 102 pc ls st W = zc_X5_leastByChoice G pc (ev_ G) (ev_ G 102) ls st W := fun pc ls st W => ev_eq G 102 pc ls st W
theorem zh_X11_least (G : Nat × Nat) : ∀ pc ls st W, ev_ G 103 pc ls st W = zc_X11_least G pc (ev_ G) (ev_ G 103) ls st W := fun pc ls st W => ev_eq G 103 pc ls st W
theorem zh_X5_leastWithOneMore (G : Nat × Nat) : ∀ pc ls st W, ev_ G 108 pc ls st W = zc_X5_leastWithOneMore G pc (ev_ G) (ev_ G 108) ls st W := fun pc ls st W => ev_eq G 108 pc ls st W
theorem zh_X5_addFamily (G : Nat × Nat) : ∀ pc ls st W, ev_ G 109 pc ls st W = zc_X5_addFamily G pc (ev_ G) (ev_ G 109) ls st W := fun pc ls st W => ev_eq G 109 pc ls st W
theorem zh_X5_leastByTable (G : Nat × Nat) : ∀ pc ls st W, ev_ G 110 pc ls st W = zc_X5_leastByTable G pc (ev_ G) (ev_ G 110) ls st W := fun pc ls st W => ev_eq G 110 pc ls st W
theorem zh_X11_leastAnew (G : Nat × Nat) : ∀ pc ls st W, ev_ G 111 pc ls st W = zc_X11_leastAnew G pc (ev_ G) (ev_ G 111) ls st W := fun pc ls st W => ev_eq G 111 pc ls st W
theorem zh_L_part (G : Nat × Nat) : ∀ pc ls st W, ev_ G 206 pc ls st W = zc_L_part G pc (ev_ G) (ev_ G 206) ls st W := fun pc ls st W => ev_eq G 206 pc ls st W
theorem zh_L_wrong (G : Nat × Nat) : ∀ pc ls st W, ev_ G 212 pc ls st W = zc_L_wrong G pc (ev_ G) (ev_ G 212) ls st W := fun pc ls st W => ev_eq G 212 pc ls st W
theorem zh_L_way (G : Nat × Nat) : ∀ pc ls st W, ev_ G 210 pc ls st W = zc_L_way G pc (ev_ G) (ev_ G 210) ls st W := fun pc ls st W => ev_eq G 210 pc ls st W
theorem zh_L_isHarness (G : Nat × Nat) : ∀ pc ls st W, ev_ G 218 pc ls st W = zc_L_isHarness G pc (ev_ G) (ev_ G 218) ls st W := fun pc ls st W => ev_eq G 218 pc ls st W
theorem zh_L_window (G : Nat × Nat) : ∀ pc ls st W, ev_ G 215 pc ls st W = zc_L_window G pc (ev_ G) (ev_ G 215) ls st W := fun pc ls st W => ev_eq G 215 pc ls st W
theorem zh_L_isReel (G : Nat × Nat) : ∀ pc ls st W, ev_ G 219 pc ls st W = zc_L_isReel G pc (ev_ G) (ev_ G 219) ls st W := fun pc ls st W => ev_eq G 219 pc ls st W
theorem zh_L_runs (G : Nat × Nat) : ∀ pc ls st W, ev_ G 213 pc ls st W = zc_L_runs G pc (ev_ G) (ev_ G 213) ls st W := fun pc ls st W => ev_eq G 213 pc ls st W
theorem zh_L_gives (G : Nat × Nat) : ∀ pc ls st W, ev_ G 214 pc ls st W = zc_L_gives G pc (ev_ G) (ev_ G 214) ls st W := fun pc ls st W => ev_eq G 214 pc ls st W
theorem zh_L_soldered (G : Nat × Nat) : ∀ pc ls st W, ev_ G 220 pc ls st W = zc_L_soldered G pc (ev_ G) (ev_ G 220) ls st W := fun pc ls st W => ev_eq G 220 pc ls st W
theorem zh_L_faults (G : Nat × Nat) : ∀ pc ls st W, ev_ G 216 pc ls st W = zc_L_faults G pc (ev_ G) (ev_ G 216) ls st W := fun pc ls st W => ev_eq G 216 pc ls st W
theorem zh_L_isBoard (G : Nat × Nat) : ∀ pc ls st W, ev_ G 221 pc ls st W = zc_L_isBoard G pc (ev_ G) (ev_ G 221) ls st W := fun pc ls st W => ev_eq G 221 pc ls st W
theorem zh_L_isTold (G : Nat × Nat) : ∀ pc ls st W, ev_ G 222 pc ls st W = zc_L_isTold G pc (ev_ G) (ev_ G 222) ls st W := fun pc ls st W => ev_eq G 222 pc ls st W
theorem zh_X11_crimps (G : Nat × Nat) : ∀ pc ls st W, ev_ G 123 pc ls st W = zc_X11_crimps G pc (ev_ G) (ev_ G 123) ls st W := fun pc ls st W => ev_eq G 123 pc ls st W
theorem zh_X11_weight (G : Nat × Nat) : ∀ pc ls st W, ev_ G 89 pc ls st W = zc_X11_weight G pc (ev_ G) (ev_ G 89) ls st W := fun pc ls st W => ev_eq G 89 pc ls st W
theorem zh_L_weight (G : Nat × Nat) : ∀ pc ls st W, ev_ G 211 pc ls st W = zc_L_weight G pc (ev_ G) (ev_ G 211) ls st W := fun pc ls st W => ev_eq G 211 pc ls st W
theorem zh_X11_jointAnew (G : Nat × Nat) : ∀ pc ls st W, ev_ G 198 pc ls st W = zc_X11_jointAnew G pc (ev_ G) (ev_ G 198) ls st W := fun pc ls st W => ev_eq G 198 pc ls st W
theorem zh_L_isSo (G : Nat × Nat) : ∀ pc ls st W, ev_ G 217 pc ls st W = zc_L_isSo G pc (ev_ G) (ev_ G 217) ls st W := fun pc ls st W => ev_eq G 217 pc ls st W
theorem zh_L_law (G : Nat × Nat) : ∀ pc ls st W, ev_ G 205 pc ls st W = zc_L_law G pc (ev_ G) (ev_ G 205) ls st W := fun pc ls st W => ev_eq G 205 pc ls st W
