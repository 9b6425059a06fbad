/-! the code, by program: what stands at each pc of each method -/
abbrev zlf (pc k : Nat) (s : zSem) : zSem := bif Nat.beq pc k then s else s_no
abbrev znd (pc k : Nat) (l r : zSem) : zSem := bif Nat.ble k pc then r else l
theorem mo_l {pc k : Nat} {s : zSem} (h : zMon s) : zMon (zlf pc k s) := by
  unfold zlf
  cases Nat.beq pc k
  · exact mo_no
  · exact h
theorem mo_d {pc k : Nat} {l r : zSem} (h : zMon l) (g : zMon r) : zMon (znd pc k l r) := by
  unfold znd
  cases Nat.ble k pc
  · exact h
  · exact g
theorem mo_f {b : Bool} {s : zSem} (h : zMon s) : zMon (bif b then s else s_no) := by
  cases b
  · exact mo_no
  · exact h
theorem mo_f2 {b : Bool} {l r : zSem} (h : zMon l) (g : zMon r) : zMon (bif b then l else r) := by
  cases b
  · exact g
  · exact h
def zc_Jxa1e45_init_da8c8 (G : Nat × Nat) : Nat → zSem := fun pc =>
 znd pc 1
 (zlf pc 0 (s_aload 0 1))
 (znd pc 4
 (zlf pc 1 (s_obj 4))
 (zlf pc 4 (s_rV)))
theorem zm_Jxa1e45_init_da8c8 (G : Nat × Nat) (pc : Nat) : zMon (zc_Jxa1e45_init_da8c8 G pc) := (mo_d (mo_l (mo_aload _ _)) (mo_d (mo_l (mo_obj _)) (mo_l (mo_rV))))
def zc_Jxc12de_init_da8c8 (G : Nat × Nat) : Nat → zSem := fun pc =>
 znd pc 5
 (znd pc 1
 (zlf pc 0 (s_aload 0 1))
 (znd pc 4
 (zlf pc 1 (s_cV zpI 0 1 [] zx0 4))
 (zlf pc 4 (s_aload 0 5))))
 (znd pc 6
 (zlf pc 5 (s_ic 0 6))
 (znd pc 9
 (zlf pc 6 (s_pI 0 0 9))
 (zlf pc 9 (s_rV))))
theorem zm_Jxc12de_init_da8c8 (G : Nat × Nat) (pc : Nat) : zMon (zc_Jxc12de_init_da8c8 G pc) := (mo_d (mo_d (mo_l (mo_aload _ _)) (mo_d (mo_l (mo_cV _ _ _ _ zPre_I zHm_0)) (mo_l (mo_aload _ _)))) (mo_d (mo_l (mo_ic _ _)) (mo_d (mo_l (mo_pI _ _ _)) (mo_l (mo_rV)))))
def zc_Jx4a65c_init_da8c8 (G : Nat × Nat) : Nat → zSem := fun pc =>
 znd pc 5
 (znd pc 1
 (zlf pc 0 (s_aload 0 1))
 (znd pc 4
 (zlf pc 1 (s_cV zpI 1 1 [] zx0 4))
 (zlf pc 4 (s_aload 0 5))))
 (znd pc 8
 (zlf pc 5 (s_gs G.1 8))
 (znd pc 11
 (zlf pc 8 (s_pR 0 1 11))
 (zlf pc 11 (s_rV))))
theorem zm_Jx4a65c_init_da8c8 (G : Nat × Nat) (pc : Nat) : zMon (zc_Jx4a65c_init_da8c8 G pc) := (mo_d (mo_d (mo_l (mo_aload _ _)) (mo_d (mo_l (mo_cV _ _ _ _ zPre_I zHm_0)) (mo_l (mo_aload _ _)))) (mo_d (mo_l (mo_gs _ _)) (mo_d (mo_l (mo_pR _ _ _)) (mo_l (mo_rV)))))
def zc_X8_init (G : Nat × Nat) : Nat → zSem := fun pc =>
 znd pc 9
 (znd pc 4
 (znd pc 1
 (zlf pc 0 (s_aload 0 1))
 (zlf pc 1 (s_obj 4)))
 (znd pc 5
 (zlf pc 4 (s_aload 0 5))
 (znd pc 6
 (zlf pc 5 (s_iload 1 6))
 (zlf pc 6 (s_ifge 13 9)))))
 (znd pc 14
 (znd pc 10
 (zlf pc 9 (s_ic 0 10))
 (znd pc 13
 (zlf pc 10 (s_goto 14))
 (zlf pc 13 (s_iload 1 14))))
 (znd pc 16
 (zlf pc 14 (s_nai 0 16))
 (znd pc 19
 (zlf pc 16 (s_pR 9 0 19))
 (zlf pc 19 (s_rV)))))
theorem zm_X8_init (G : Nat × Nat) (pc : Nat) : zMon (zc_X8_init G pc) := (mo_d (mo_d (mo_d (mo_l (mo_aload _ _)) (mo_l (mo_obj _))) (mo_d (mo_l (mo_aload _ _)) (mo_d (mo_l (mo_iload _ _)) (mo_l (mo_ifge _ _))))) (mo_d (mo_d (mo_l (mo_ic _ _)) (mo_d (mo_l (mo_goto _)) (mo_l (mo_iload _ _)))) (mo_d (mo_l (mo_nai _ _)) (mo_d (mo_l (mo_pR _ _ _)) (mo_l (mo_rV))))))
def zc_X4_init (G : Nat × Nat) : Nat → zSem := fun pc =>
 znd pc 26
 (znd pc 12
 (znd pc 5
 (znd pc 1
 (zlf pc 0 (s_aload 0 1))
 (znd pc 4
 (zlf pc 1 (s_obj 4))
 (zlf pc 4 (s_aload 0 5))))
 (znd pc 8
 (zlf pc 5 (s_new 0 3 [.int 0, .null, .int 0] 8))
 (znd pc 9
 (zlf pc 8 (s_dup 9))
 (zlf pc 9 (s_cV zpI 2 1 [] zx0 12)))))
 (znd pc 19
 (znd pc 15
 (zlf pc 12 (s_pR 5 0 15))
 (znd pc 16
 (zlf pc 15 (s_aload 0 16))
 (zlf pc 16 (s_new 0 3 [.int 0, .null, .int 0] 19))))
 (znd pc 20
 (zlf pc 19 (s_dup 20))
 (znd pc 23
 (zlf pc 20 (s_cV zpI 2 1 [] zx0 23))
 (zlf pc 23 (s_pR 5 1 26))))))
 (znd pc 38
 (znd pc 31
 (znd pc 27
 (zlf pc 26 (s_aload 0 27))
 (znd pc 30
 (zlf pc 27 (s_new 0 3 [.int 0, .null, .int 0] 30))
 (zlf pc 30 (s_dup 31))))
 (znd pc 34
 (zlf pc 31 (s_cV zpI 2 1 [] zx0 34))
 (znd pc 37
 (zlf pc 34 (s_pR 5 2 37))
 (zlf pc 37 (s_aload 0 38)))))
 (znd pc 44
 (znd pc 41
 (zlf pc 38 (s_new 9 1 [.null] 41))
 (znd pc 42
 (zlf pc 41 (s_dup 42))
 (zlf pc 42 (s_ic 8 44))))
 (znd pc 47
 (zlf pc 44 (s_cV zpI 3 2 [] zx0 47))
 (znd pc 50
 (zlf pc 47 (s_pR 5 3 50))
 (zlf pc 50 (s_rV))))))
theorem zm_X4_init (G : Nat × Nat) (pc : Nat) : zMon (zc_X4_init G pc) := (mo_d (mo_d (mo_d (mo_d (mo_l (mo_aload _ _)) (mo_d (mo_l (mo_obj _)) (mo_l (mo_aload _ _)))) (mo_d (mo_l (mo_new _ _ _ _)) (mo_d (mo_l (mo_dup _)) (mo_l (mo_cV _ _ _ _ zPre_I zHm_0))))) (mo_d (mo_d (mo_l (mo_pR _ _ _)) (mo_d (mo_l (mo_aload _ _)) (mo_l (mo_new _ _ _ _)))) (mo_d (mo_l (mo_dup _)) (mo_d (mo_l (mo_cV _ _ _ _ zPre_I zHm_0)) (mo_l (mo_pR _ _ _)))))) (mo_d (mo_d (mo_d (mo_l (mo_aload _ _)) (mo_d (mo_l (mo_new _ _ _ _)) (mo_l (mo_dup _)))) (mo_d (mo_l (mo_cV _ _ _ _ zPre_I zHm_0)) (mo_d (mo_l (mo_pR _ _ _)) (mo_l (mo_aload _ _))))) (mo_d (mo_d (mo_l (mo_new _ _ _ _)) (mo_d (mo_l (mo_dup _)) (mo_l (mo_ic _ _)))) (mo_d (mo_l (mo_cV _ _ _ _ zPre_I zHm_0)) (mo_d (mo_l (mo_pR _ _ _)) (mo_l (mo_rV)))))))
def zc_X5_init (G : Nat × Nat) : Nat → zSem := fun pc =>
 znd pc 25
 (znd pc 10
 (znd pc 5
 (znd pc 1
 (zlf pc 0 (s_aload 0 1))
 (znd pc 4
 (zlf pc 1 (s_obj 4))
 (zlf pc 4 (s_aload 0 5))))
 (znd pc 8
 (zlf pc 5 (s_new 9 1 [.null] 8))
 (znd pc 9
 (zlf pc 8 (s_dup 9))
 (zlf pc 9 (s_ic 5 10)))))
 (znd pc 17
 (znd pc 13
 (zlf pc 10 (s_cV zpI 3 2 [] zx0 13))
 (znd pc 16
 (zlf pc 13 (s_pR 6 0 16))
 (zlf pc 16 (s_aload 0 17))))
 (znd pc 21
 (znd pc 20
 (zlf pc 17 (s_new 9 1 [.null] 20))
 (zlf pc 20 (s_dup 21)))
 (znd pc 22
 (zlf pc 21 (s_ic 5 22))
 (zlf pc 22 (s_cV zpI 3 2 [] zx0 25))))))
 (znd pc 41
 (znd pc 32
 (znd pc 28
 (zlf pc 25 (s_pR 6 1 28))
 (znd pc 29
 (zlf pc 28 (s_aload 0 29))
 (zlf pc 29 (s_new 9 1 [.null] 32))))
 (znd pc 35
 (znd pc 33
 (zlf pc 32 (s_dup 33))
 (zlf pc 33 (s_ic 32 35)))
 (znd pc 38
 (zlf pc 35 (s_cV zpI 3 2 [] zx0 38))
 (zlf pc 38 (s_pR 6 2 41)))))
 (znd pc 46
 (znd pc 42
 (zlf pc 41 (s_aload 0 42))
 (znd pc 45
 (zlf pc 42 (s_new 9 1 [.null] 45))
 (zlf pc 45 (s_dup 46))))
 (znd pc 51
 (znd pc 48
 (zlf pc 46 (s_ic 32 48))
 (zlf pc 48 (s_cV zpI 3 2 [] zx0 51)))
 (znd pc 54
 (zlf pc 51 (s_pR 6 3 54))
 (zlf pc 54 (s_rV))))))
theorem zm_X5_init (G : Nat × Nat) (pc : Nat) : zMon (zc_X5_init G pc) := (mo_d (mo_d (mo_d (mo_d (mo_l (mo_aload _ _)) (mo_d (mo_l (mo_obj _)) (mo_l (mo_aload _ _)))) (mo_d (mo_l (mo_new _ _ _ _)) (mo_d (mo_l (mo_dup _)) (mo_l (mo_ic _ _))))) (mo_d (mo_d (mo_l (mo_cV _ _ _ _ zPre_I zHm_0)) (mo_d (mo_l (mo_pR _ _ _)) (mo_l (mo_aload _ _)))) (mo_d (mo_d (mo_l (mo_new _ _ _ _)) (mo_l (mo_dup _))) (mo_d (mo_l (mo_ic _ _)) (mo_l (mo_cV _ _ _ _ zPre_I zHm_0)))))) (mo_d (mo_d (mo_d (mo_l (mo_pR _ _ _)) (mo_d (mo_l (mo_aload _ _)) (mo_l (mo_new _ _ _ _)))) (mo_d (mo_d (mo_l (mo_dup _)) (mo_l (mo_ic _ _))) (mo_d (mo_l (mo_cV _ _ _ _ zPre_I zHm_0)) (mo_l (mo_pR _ _ _))))) (mo_d (mo_d (mo_l (mo_aload _ _)) (mo_d (mo_l (mo_new _ _ _ _)) (mo_l (mo_dup _)))) (mo_d (mo_d (mo_l (mo_ic _ _)) (mo_l (mo_cV _ _ _ _ zPre_I zHm_0))) (mo_d (mo_l (mo_pR _ _ _)) (mo_l (mo_rV)))))))
def zc_X3_init (G : Nat × Nat) : Nat → zSem := fun pc =>
 znd pc 8
 (znd pc 4
 (znd pc 1
 (zlf pc 0 (s_aload 0 1))
 (zlf pc 1 (s_obj 4)))
 (znd pc 5
 (zlf pc 4 (s_aload 0 5))
 (zlf pc 5 (s_new 9 1 [.null] 8))))
 (znd pc 11
 (znd pc 9
 (zlf pc 8 (s_dup 9))
 (zlf pc 9 (s_ic 8 11)))
 (znd pc 14
 (zlf pc 11 (s_cV zpI 3 2 [] zx0 14))
 (znd pc 17
 (zlf pc 14 (s_pR 4 2 17))
 (zlf pc 17 (s_rV)))))
theorem zm_X3_init (G : Nat × Nat) (pc : Nat) : zMon (zc_X3_init G pc) := (mo_d (mo_d (mo_d (mo_l (mo_aload _ _)) (mo_l (mo_obj _))) (mo_d (mo_l (mo_aload _ _)) (mo_l (mo_new _ _ _ _)))) (mo_d (mo_d (mo_l (mo_dup _)) (mo_l (mo_ic _ _))) (mo_d (mo_l (mo_cV _ _ _ _ zPre_I zHm_0)) (mo_d (mo_l (mo_pR _ _ _)) (mo_l (mo_rV))))))
def zc_X8_put (G : Nat × Nat) : Nat → zSem := fun pc =>
 znd pc 10
 (znd pc 5
 (znd pc 1
 (zlf pc 0 (s_iload 1 1))
 (znd pc 4
 (zlf pc 1 (s_iflt 20 4))
 (zlf pc 4 (s_iload 1 5))))
 (znd pc 6
 (zlf pc 5 (s_aload 0 6))
 (znd pc 9
 (zlf pc 6 (s_gR 9 0 9))
 (zlf pc 9 (s_alen 10)))))
 (znd pc 17
 (znd pc 13
 (zlf pc 10 (s_cmpge 20 13))
 (znd pc 14
 (zlf pc 13 (s_aload 0 14))
 (zlf pc 14 (s_gR 9 0 17))))
 (znd pc 19
 (znd pc 18
 (zlf pc 17 (s_iload 1 18))
 (zlf pc 18 (s_iload 2 19)))
 (znd pc 20
 (zlf pc 19 (s_iast 20))
 (zlf pc 20 (s_rV)))))
theorem zm_X8_put (G : Nat × Nat) (pc : Nat) : zMon (zc_X8_put G pc) := (mo_d (mo_d (mo_d (mo_l (mo_iload _ _)) (mo_d (mo_l (mo_iflt _ _)) (mo_l (mo_iload _ _)))) (mo_d (mo_l (mo_aload _ _)) (mo_d (mo_l (mo_gR _ _ _)) (mo_l (mo_alen _))))) (mo_d (mo_d (mo_l (mo_cmpge _ _)) (mo_d (mo_l (mo_aload _ _)) (mo_l (mo_gR _ _ _)))) (mo_d (mo_d (mo_l (mo_iload _ _)) (mo_l (mo_iload _ _))) (mo_d (mo_l (mo_iast _)) (mo_l (mo_rV))))))
def zc_X8_fill (G : Nat × Nat) : Nat → zSem := fun pc =>
 znd pc 11
 (znd pc 3
 (znd pc 1
 (zlf pc 0 (s_ic 0 1))
 (znd pc 2
 (zlf pc 1 (s_istore 2 2))
 (zlf pc 2 (s_iload 2 3))))
 (znd pc 7
 (znd pc 4
 (zlf pc 3 (s_aload 0 4))
 (zlf pc 4 (s_gR 9 0 7)))
 (znd pc 8
 (zlf pc 7 (s_alen 8))
 (zlf pc 8 (s_cmpge 24 11)))))
 (znd pc 17
 (znd pc 15
 (znd pc 12
 (zlf pc 11 (s_aload 0 12))
 (zlf pc 12 (s_gR 9 0 15)))
 (znd pc 16
 (zlf pc 15 (s_iload 2 16))
 (zlf pc 16 (s_iload 1 17))))
 (znd pc 21
 (znd pc 18
 (zlf pc 17 (s_iast 18))
 (zlf pc 18 (s_iinc 2 1 21)))
 (znd pc 24
 (zlf pc 21 (s_goto 2))
 (zlf pc 24 (s_rV)))))
theorem zm_X8_fill (G : Nat × Nat) (pc : Nat) : zMon (zc_X8_fill G pc) := (mo_d (mo_d (mo_d (mo_l (mo_ic _ _)) (mo_d (mo_l (mo_istore _ _)) (mo_l (mo_iload _ _)))) (mo_d (mo_d (mo_l (mo_aload _ _)) (mo_l (mo_gR _ _ _))) (mo_d (mo_l (mo_alen _)) (mo_l (mo_cmpge _ _))))) (mo_d (mo_d (mo_d (mo_l (mo_aload _ _)) (mo_l (mo_gR _ _ _))) (mo_d (mo_l (mo_iload _ _)) (mo_l (mo_iload _ _)))) (mo_d (mo_d (mo_l (mo_iast _)) (mo_l (mo_iinc _ _ _))) (mo_d (mo_l (mo_goto _)) (mo_l (mo_rV))))))
def zc_X6_init (G : Nat × Nat) : Nat → zSem := fun pc =>
 znd pc 50
 (znd pc 23
 (znd pc 10
 (znd pc 5
 (znd pc 1
 (zlf pc 0 (s_aload 0 1))
 (znd pc 4
 (zlf pc 1 (s_obj 4))
 (zlf pc 4 (s_aload 0 5))))
 (znd pc 8
 (zlf pc 5 (s_new 9 1 [.null] 8))
 (znd pc 9
 (zlf pc 8 (s_dup 9))
 (zlf pc 9 (s_ic 4 10)))))
 (znd pc 17
 (znd pc 13
 (zlf pc 10 (s_cV zpI 3 2 [] zx0 13))
 (znd pc 16
 (zlf pc 13 (s_pR 7 0 16))
 (zlf pc 16 (s_aload 0 17))))
 (znd pc 20
 (zlf pc 17 (s_new 9 1 [.null] 20))
 (znd pc 21
 (zlf pc 20 (s_dup 21))
 (zlf pc 21 (s_ic 6 23))))))
 (znd pc 36
 (znd pc 30
 (znd pc 26
 (zlf pc 23 (s_cV zpI 3 2 [] zx0 26))
 (znd pc 29
 (zlf pc 26 (s_pR 7 1 29))
 (zlf pc 29 (s_aload 0 30))))
 (znd pc 33
 (zlf pc 30 (s_new 9 1 [.null] 33))
 (znd pc 34
 (zlf pc 33 (s_dup 34))
 (zlf pc 34 (s_ic 6 36)))))
 (znd pc 43
 (znd pc 39
 (zlf pc 36 (s_cV zpI 3 2 [] zx0 39))
 (znd pc 42
 (zlf pc 39 (s_pR 7 2 42))
 (zlf pc 42 (s_aload 0 43))))
 (znd pc 46
 (zlf pc 43 (s_gR 7 0 46))
 (znd pc 47
 (zlf pc 46 (s_ic 0 47))
 (zlf pc 47 (s_ic 150 50)))))))
 (znd pc 76
 (znd pc 64
 (znd pc 57
 (znd pc 53
 (zlf pc 50 (s_cV (zpV 9) 7 3 [] zx0 53))
 (znd pc 54
 (zlf pc 53 (s_aload 0 54))
 (zlf pc 54 (s_gR 7 0 57))))
 (znd pc 58
 (zlf pc 57 (s_ic 1 58))
 (znd pc 61
 (zlf pc 58 (s_ic 200 61))
 (zlf pc 61 (s_cV (zpV 9) 7 3 [] zx0 64)))))
 (znd pc 69
 (znd pc 65
 (zlf pc 64 (s_aload 0 65))
 (znd pc 68
 (zlf pc 65 (s_gR 7 0 68))
 (zlf pc 68 (s_ic 2 69))))
 (znd pc 72
 (zlf pc 69 (s_ic 240 72))
 (znd pc 75
 (zlf pc 72 (s_cV (zpV 9) 7 3 [] zx0 75))
 (zlf pc 75 (s_aload 0 76))))))
 (znd pc 89
 (znd pc 82
 (znd pc 79
 (zlf pc 76 (s_gR 7 0 79))
 (znd pc 80
 (zlf pc 79 (s_ic 3 80))
 (zlf pc 80 (s_ic 100 82))))
 (znd pc 85
 (zlf pc 82 (s_cV (zpV 9) 7 3 [] zx0 85))
 (znd pc 86
 (zlf pc 85 (s_aload 0 86))
 (zlf pc 86 (s_gR 7 1 89)))))
 (znd pc 96
 (znd pc 92
 (zlf pc 89 (s_ic 180 92))
 (znd pc 95
 (zlf pc 92 (s_cV (zpV 9) 8 2 [zU] zx0 95))
 (zlf pc 95 (s_aload 0 96))))
 (znd pc 102
 (znd pc 99
 (zlf pc 96 (s_gR 7 2 99))
 (zlf pc 99 (s_ic 260 102)))
 (znd pc 105
 (zlf pc 102 (s_cV (zpV 9) 8 2 [zU] zx0 105))
 (zlf pc 105 (s_rV)))))))
theorem zm_X6_init (G : Nat × Nat) (pc : Nat) : zMon (zc_X6_init G pc) := (mo_d (mo_d (mo_d (mo_d (mo_d (mo_l (mo_aload _ _)) (mo_d (mo_l (mo_obj _)) (mo_l (mo_aload _ _)))) (mo_d (mo_l (mo_new _ _ _ _)) (mo_d (mo_l (mo_dup _)) (mo_l (mo_ic _ _))))) (mo_d (mo_d (mo_l (mo_cV _ _ _ _ zPre_I zHm_0)) (mo_d (mo_l (mo_pR _ _ _)) (mo_l (mo_aload _ _)))) (mo_d (mo_l (mo_new _ _ _ _)) (mo_d (mo_l (mo_dup _)) (mo_l (mo_ic _ _)))))) (mo_d (mo_d (mo_d (mo_l (mo_cV _ _ _ _ zPre_I zHm_0)) (mo_d (mo_l (mo_pR _ _ _)) (mo_l (mo_aload _ _)))) (mo_d (mo_l (mo_new _ _ _ _)) (mo_d (mo_l (mo_dup _)) (mo_l (mo_ic _ _))))) (mo_d (mo_d (mo_l (mo_cV _ _ _ _ zPre_I zHm_0)) (mo_d (mo_l (mo_pR _ _ _)) (mo_l (mo_aload _ _)))) (mo_d (mo_l (mo_gR _ _ _)) (mo_d (mo_l (mo_ic _ _)) (mo_l (mo_ic _ _))))))) (mo_d (mo_d (mo_d (mo_d (mo_l (mo_cV _ _ _ _ (zPre_V _) zHm_0)) (mo_d (mo_l (mo_aload _ _)) (mo_l (mo_gR _ _ _)))) (mo_d (mo_l (mo_ic _ _)) (mo_d (mo_l (mo_ic _ _)) (mo_l (mo_cV _ _ _ _ (zPre_V _) zHm_0))))) (mo_d (mo_d (mo_l (mo_aload _ _)) (mo_d (mo_l (mo_gR _ _ _)) (mo_l (mo_ic _ _)))) (mo_d (mo_l (mo_ic _ _)) (mo_d (mo_l (mo_cV _ _ _ _ (zPre_V _) zHm_0)) (mo_l (mo_aload _ _)))))) (mo_d (mo_d (mo_d (mo_l (mo_gR _ _ _)) (mo_d (mo_l (mo_ic _ _)) (mo_l (mo_ic _ _)))) (mo_d (mo_l (mo_cV _ _ _ _ (zPre_V _) zHm_0)) (mo_d (mo_l (mo_aload _ _)) (mo_l (mo_gR _ _ _))))) (mo_d (mo_d (mo_l (mo_ic _ _)) (mo_d (mo_l (mo_cV _ _ _ _ (zPre_V _) zHm_0)) (mo_l (mo_aload _ _)))) (mo_d (mo_d (mo_l (mo_gR _ _ _)) (mo_l (mo_ic _ _))) (mo_d (mo_l (mo_cV _ _ _ _ (zPre_V _) zHm_0)) (mo_l (mo_rV))))))))
def zc_X11_init (G : Nat × Nat) : Nat → zSem := fun pc =>
 znd pc 41
 (znd pc 19
 (znd pc 8
 (znd pc 4
 (znd pc 1
 (zlf pc 0 (s_aload 0 1))
 (zlf pc 1 (s_obj 4)))
 (znd pc 5
 (zlf pc 4 (s_aload 0 5))
 (zlf pc 5 (s_new 5 4 [.null, .null, .null, .null] 8))))
 (znd pc 12
 (znd pc 9
 (zlf pc 8 (s_dup 9))
 (zlf pc 9 (s_cV zpI 4 1 [] zx0 12)))
 (znd pc 15
 (zlf pc 12 (s_pR 12 0 15))
 (znd pc 16
 (zlf pc 15 (s_aload 0 16))
 (zlf pc 16 (s_new 6 5 [.null, .null, .null, .null, .int 0] 19))))))
 (znd pc 30
 (znd pc 23
 (znd pc 20
 (zlf pc 19 (s_dup 20))
 (zlf pc 20 (s_cV zpI 5 1 [] zx0 23)))
 (znd pc 26
 (zlf pc 23 (s_pR 12 1 26))
 (znd pc 27
 (zlf pc 26 (s_aload 0 27))
 (zlf pc 27 (s_new 4 4 [.int 0, .int 0, .null, .int 0] 30)))))
 (znd pc 34
 (znd pc 31
 (zlf pc 30 (s_dup 31))
 (zlf pc 31 (s_cV zpI 6 1 [] zx0 34)))
 (znd pc 37
 (zlf pc 34 (s_pR 12 2 37))
 (znd pc 38
 (zlf pc 37 (s_aload 0 38))
 (zlf pc 38 (s_new 7 3 [.null, .null, .null] 41)))))))
 (znd pc 63
 (znd pc 52
 (znd pc 45
 (znd pc 42
 (zlf pc 41 (s_dup 42))
 (zlf pc 42 (s_cV zpI 9 1 [] zx0 45)))
 (znd pc 48
 (zlf pc 45 (s_pR 12 3 48))
 (znd pc 49
 (zlf pc 48 (s_aload 0 49))
 (zlf pc 49 (s_new 0 3 [.int 0, .null, .int 0] 52)))))
 (znd pc 56
 (znd pc 53
 (zlf pc 52 (s_dup 53))
 (zlf pc 53 (s_cV zpI 2 1 [] zx0 56)))
 (znd pc 59
 (zlf pc 56 (s_pR 12 4 59))
 (znd pc 60
 (zlf pc 59 (s_aload 0 60))
 (zlf pc 60 (s_new 0 3 [.int 0, .null, .int 0] 63))))))
 (znd pc 74
 (znd pc 67
 (znd pc 64
 (zlf pc 63 (s_dup 64))
 (zlf pc 64 (s_cV zpI 2 1 [] zx0 67)))
 (znd pc 70
 (zlf pc 67 (s_pR 12 5 70))
 (znd pc 71
 (zlf pc 70 (s_aload 0 71))
 (zlf pc 71 (s_ic 255 74)))))
 (znd pc 78
 (znd pc 77
 (zlf pc 74 (s_pI 12 6 77))
 (zlf pc 77 (s_aload 0 78)))
 (znd pc 79
 (zlf pc 78 (s_ic 0 79))
 (znd pc 82
 (zlf pc 79 (s_pI 12 7 82))
 (zlf pc 82 (s_rV)))))))
theorem zm_X11_init (G : Nat × Nat) (pc : Nat) : zMon (zc_X11_init G pc) := (mo_d (mo_d (mo_d (mo_d (mo_d (mo_l (mo_aload _ _)) (mo_l (mo_obj _))) (mo_d (mo_l (mo_aload _ _)) (mo_l (mo_new _ _ _ _)))) (mo_d (mo_d (mo_l (mo_dup _)) (mo_l (mo_cV _ _ _ _ zPre_I zHm_0))) (mo_d (mo_l (mo_pR _ _ _)) (mo_d (mo_l (mo_aload _ _)) (mo_l (mo_new _ _ _ _)))))) (mo_d (mo_d (mo_d (mo_l (mo_dup _)) (mo_l (mo_cV _ _ _ _ zPre_I zHm_0))) (mo_d (mo_l (mo_pR _ _ _)) (mo_d (mo_l (mo_aload _ _)) (mo_l (mo_new _ _ _ _))))) (mo_d (mo_d (mo_l (mo_dup _)) (mo_l (mo_cV _ _ _ _ zPre_I zHm_0))) (mo_d (mo_l (mo_pR _ _ _)) (mo_d (mo_l (mo_aload _ _)) (mo_l (mo_new _ _ _ _))))))) (mo_d (mo_d (mo_d (mo_d (mo_l (mo_dup _)) (mo_l (mo_cV _ _ _ _ zPre_I zHm_0))) (mo_d (mo_l (mo_pR _ _ _)) (mo_d (mo_l (mo_aload _ _)) (mo_l (mo_new _ _ _ _))))) (mo_d (mo_d (mo_l (mo_dup _)) (mo_l (mo_cV _ _ _ _ zPre_I zHm_0))) (mo_d (mo_l (mo_pR _ _ _)) (mo_d (mo_l (mo_aload _ _)) (mo_l (mo_new _ _ _ _)))))) (mo_d (mo_d (mo_d (mo_l (mo_dup _)) (mo_l (mo_cV _ _ _ _ zPre_I zHm_0))) (mo_d (mo_l (mo_pR _ _ _)) (mo_d (mo_l (mo_aload _ _)) (mo_l (mo_ic _ _))))) (mo_d (mo_d (mo_l (mo_pI _ _ _)) (mo_l (mo_aload _ _))) (mo_d (mo_l (mo_ic _ _)) (mo_d (mo_l (mo_pI _ _ _)) (mo_l (mo_rV))))))))
def zc_X12_init (G : Nat × Nat) : Nat → zSem := fun pc =>
 znd pc 222
 (znd pc 112
 (znd pc 55
 (znd pc 28
 (znd pc 13
 (znd pc 5
 (znd pc 1
 (zlf pc 0 (s_aload 0 1))
 (znd pc 4
 (zlf pc 1 (s_obj 4))
 (zlf pc 4 (s_aload 0 5))))
 (znd pc 9
 (znd pc 7
 (zlf pc 5 (s_ic 16 7))
 (zlf pc 7 (s_nai 0 9)))
 (znd pc 12
 (zlf pc 9 (s_pR 13 1 12))
 (zlf pc 12 (s_aload 0 13)))))
 (znd pc 20
 (znd pc 15
 (zlf pc 13 (s_ic 16 15))
 (znd pc 17
 (zlf pc 15 (s_nai 0 17))
 (zlf pc 17 (s_pR 13 2 20))))
 (znd pc 23
 (znd pc 21
 (zlf pc 20 (s_aload 0 21))
 (zlf pc 21 (s_ic 16 23)))
 (znd pc 25
 (zlf pc 23 (s_nai 0 25))
 (zlf pc 25 (s_pR 13 3 28))))))
 (znd pc 41
 (znd pc 33
 (znd pc 29
 (zlf pc 28 (s_aload 0 29))
 (znd pc 31
 (zlf pc 29 (s_ic 16 31))
 (zlf pc 31 (s_nai 0 33))))
 (znd pc 37
 (znd pc 36
 (zlf pc 33 (s_pR 13 4 36))
 (zlf pc 36 (s_aload 0 37)))
 (znd pc 39
 (zlf pc 37 (s_ic 8 39))
 (zlf pc 39 (s_nai 0 41)))))
 (znd pc 47
 (znd pc 44
 (zlf pc 41 (s_pR 13 6 44))
 (znd pc 45
 (zlf pc 44 (s_aload 0 45))
 (zlf pc 45 (s_ic 8 47))))
 (znd pc 52
 (znd pc 49
 (zlf pc 47 (s_nai 0 49))
 (zlf pc 49 (s_pR 13 7 52)))
 (znd pc 53
 (zlf pc 52 (s_aload 0 53))
 (zlf pc 53 (s_ic 8 55)))))))
 (znd pc 84
 (znd pc 69
 (znd pc 61
 (znd pc 57
 (zlf pc 55 (s_nai 0 57))
 (znd pc 60
 (zlf pc 57 (s_pR 13 8 60))
 (zlf pc 60 (s_aload 0 61))))
 (znd pc 65
 (znd pc 63
 (zlf pc 61 (s_ic 8 63))
 (zlf pc 63 (s_nai 0 65)))
 (znd pc 68
 (zlf pc 65 (s_pR 13 9 68))
 (zlf pc 68 (s_aload 0 69)))))
 (znd pc 76
 (znd pc 71
 (zlf pc 69 (s_ic 24 71))
 (znd pc 73
 (zlf pc 71 (s_nai 1 73))
 (zlf pc 73 (s_pR 13 11 76))))
 (znd pc 79
 (znd pc 77
 (zlf pc 76 (s_aload 0 77))
 (zlf pc 77 (s_ic 48 79)))
 (znd pc 81
 (zlf pc 79 (s_nai 0 81))
 (zlf pc 81 (s_pR 13 12 84))))))
 (znd pc 97
 (znd pc 89
 (znd pc 85
 (zlf pc 84 (s_aload 0 85))
 (znd pc 87
 (zlf pc 85 (s_ic 24 87))
 (zlf pc 87 (s_nai 0 89))))
 (znd pc 93
 (znd pc 92
 (zlf pc 89 (s_pR 13 13 92))
 (zlf pc 92 (s_aload 0 93)))
 (znd pc 95
 (zlf pc 93 (s_ic 24 95))
 (zlf pc 95 (s_nai 0 97)))))
 (znd pc 104
 (znd pc 100
 (zlf pc 97 (s_pR 13 14 100))
 (znd pc 101
 (zlf pc 100 (s_aload 0 101))
 (zlf pc 101 (s_ic 384 104))))
 (znd pc 109
 (znd pc 106
 (zlf pc 104 (s_nai 0 106))
 (zlf pc 106 (s_pR 13 15 109)))
 (znd pc 110
 (zlf pc 109 (s_aload 0 110))
 (zlf pc 110 (s_ic 8 112))))))))
 (znd pc 165
 (znd pc 138
 (znd pc 125
 (znd pc 118
 (znd pc 114
 (zlf pc 112 (s_nai 0 114))
 (znd pc 117
 (zlf pc 114 (s_pR 13 16 117))
 (zlf pc 117 (s_aload 0 118))))
 (znd pc 121
 (znd pc 119
 (zlf pc 118 (s_ic 5 119))
 (zlf pc 119 (s_nai 0 121)))
 (znd pc 124
 (zlf pc 121 (s_pR 13 18 124))
 (zlf pc 124 (s_aload 0 125)))))
 (znd pc 131
 (znd pc 126
 (zlf pc 125 (s_ic 5 126))
 (znd pc 128
 (zlf pc 126 (s_nai 0 128))
 (zlf pc 128 (s_pR 13 19 131))))
 (znd pc 133
 (znd pc 132
 (zlf pc 131 (s_aload 0 132))
 (zlf pc 132 (s_ic 5 133)))
 (znd pc 135
 (zlf pc 133 (s_nai 0 135))
 (zlf pc 135 (s_pR 13 20 138))))))
 (znd pc 151
 (znd pc 143
 (znd pc 139
 (zlf pc 138 (s_aload 0 139))
 (znd pc 141
 (zlf pc 139 (s_ic 8 141))
 (zlf pc 141 (s_nai 0 143))))
 (znd pc 147
 (znd pc 146
 (zlf pc 143 (s_pR 13 23 146))
 (zlf pc 146 (s_aload 0 147)))
 (znd pc 149
 (zlf pc 147 (s_ic 12 149))
 (zlf pc 149 (s_nai 0 151)))))
 (znd pc 157
 (znd pc 154
 (zlf pc 151 (s_pR 13 26 154))
 (znd pc 155
 (zlf pc 154 (s_aload 0 155))
 (zlf pc 155 (s_ic 12 157))))
 (znd pc 162
 (znd pc 159
 (zlf pc 157 (s_nai 0 159))
 (zlf pc 159 (s_pR 13 27 162)))
 (znd pc 163
 (zlf pc 162 (s_aload 0 163))
 (zlf pc 163 (s_ic 12 165)))))))
 (znd pc 193
 (znd pc 179
 (znd pc 171
 (znd pc 167
 (zlf pc 165 (s_nai 0 167))
 (znd pc 170
 (zlf pc 167 (s_pR 13 28 170))
 (zlf pc 170 (s_aload 0 171))))
 (znd pc 175
 (znd pc 173
 (zlf pc 171 (s_ic 12 173))
 (zlf pc 173 (s_nai 0 175)))
 (znd pc 178
 (zlf pc 175 (s_pR 13 29 178))
 (zlf pc 178 (s_aload 0 179)))))
 (znd pc 185
 (znd pc 180
 (zlf pc 179 (s_ic 4 180))
 (znd pc 182
 (zlf pc 180 (s_nai 0 182))
 (zlf pc 182 (s_pR 13 30 185))))
 (znd pc 188
 (znd pc 186
 (zlf pc 185 (s_aload 0 186))
 (zlf pc 186 (s_ic 6 188)))
 (znd pc 190
 (zlf pc 188 (s_nai 0 190))
 (zlf pc 190 (s_pR 13 31 193))))))
 (znd pc 206
 (znd pc 198
 (znd pc 194
 (zlf pc 193 (s_aload 0 194))
 (znd pc 196
 (zlf pc 194 (s_ic 6 196))
 (zlf pc 196 (s_nai 0 198))))
 (znd pc 202
 (znd pc 201
 (zlf pc 198 (s_pR 13 32 201))
 (zlf pc 201 (s_aload 0 202)))
 (znd pc 204
 (zlf pc 202 (s_ic 8 204))
 (zlf pc 204 (s_nai 1 206)))))
 (znd pc 214
 (znd pc 210
 (znd pc 209
 (zlf pc 206 (s_pR 13 33 209))
 (zlf pc 209 (s_aload 0 210)))
 (znd pc 212
 (zlf pc 210 (s_ic 12 212))
 (zlf pc 212 (s_nai 1 214))))
 (znd pc 218
 (znd pc 217
 (zlf pc 214 (s_pR 13 35 217))
 (zlf pc 217 (s_aload 0 218)))
 (znd pc 220
 (zlf pc 218 (s_ic 12 220))
 (zlf pc 220 (s_nai 1 222)))))))))
 (znd pc 324
 (znd pc 278
 (znd pc 250
 (znd pc 236
 (znd pc 228
 (znd pc 225
 (zlf pc 222 (s_pR 13 36 225))
 (znd pc 226
 (zlf pc 225 (s_aload 0 226))
 (zlf pc 226 (s_ic 12 228))))
 (znd pc 233
 (znd pc 230
 (zlf pc 228 (s_nai 1 230))
 (zlf pc 230 (s_pR 13 37 233)))
 (znd pc 234
 (zlf pc 233 (s_aload 0 234))
 (zlf pc 234 (s_ic 96 236)))))
 (znd pc 242
 (znd pc 238
 (zlf pc 236 (s_nai 0 238))
 (znd pc 241
 (zlf pc 238 (s_pR 13 38 241))
 (zlf pc 241 (s_aload 0 242))))
 (znd pc 246
 (znd pc 244
 (zlf pc 242 (s_ic 96 244))
 (zlf pc 244 (s_nai 0 246)))
 (znd pc 249
 (zlf pc 246 (s_pR 13 39 249))
 (zlf pc 249 (s_aload 0 250))))))
 (znd pc 265
 (znd pc 257
 (znd pc 252
 (zlf pc 250 (s_ic 96 252))
 (znd pc 254
 (zlf pc 252 (s_nai 0 254))
 (zlf pc 254 (s_pR 13 40 257))))
 (znd pc 260
 (znd pc 258
 (zlf pc 257 (s_aload 0 258))
 (zlf pc 258 (s_ic 96 260)))
 (znd pc 262
 (zlf pc 260 (s_nai 0 262))
 (zlf pc 262 (s_pR 13 41 265)))))
 (znd pc 270
 (znd pc 266
 (zlf pc 265 (s_aload 0 266))
 (znd pc 268
 (zlf pc 266 (s_ic 96 268))
 (zlf pc 268 (s_nai 1 270))))
 (znd pc 274
 (znd pc 273
 (zlf pc 270 (s_pR 13 42 273))
 (zlf pc 273 (s_aload 0 274)))
 (znd pc 276
 (zlf pc 274 (s_ic 96 276))
 (zlf pc 276 (s_nai 1 278)))))))
 (znd pc 303
 (znd pc 290
 (znd pc 283
 (znd pc 281
 (zlf pc 278 (s_pR 13 43 281))
 (znd pc 282
 (zlf pc 281 (s_ic 0 282))
 (zlf pc 282 (s_istore 1 283))))
 (znd pc 286
 (znd pc 284
 (zlf pc 283 (s_iload 1 284))
 (zlf pc 284 (s_ic 8 286)))
 (znd pc 289
 (zlf pc 286 (s_cmpge 302 289))
 (zlf pc 289 (s_aload 0 290)))))
 (znd pc 295
 (znd pc 293
 (zlf pc 290 (s_gR 13 9 293))
 (znd pc 294
 (zlf pc 293 (s_iload 1 294))
 (zlf pc 294 (s_ic (-1) 295))))
 (znd pc 299
 (znd pc 296
 (zlf pc 295 (s_iast 296))
 (zlf pc 296 (s_iinc 1 1 299)))
 (znd pc 302
 (zlf pc 299 (s_goto 283))
 (zlf pc 302 (s_ic 0 303))))))
 (znd pc 315
 (znd pc 307
 (znd pc 304
 (zlf pc 303 (s_istore 1 304))
 (znd pc 305
 (zlf pc 304 (s_iload 1 305))
 (zlf pc 305 (s_ic 96 307))))
 (znd pc 311
 (znd pc 310
 (zlf pc 307 (s_cmpge 337 310))
 (zlf pc 310 (s_aload 0 311)))
 (znd pc 314
 (zlf pc 311 (s_gR 13 38 314))
 (zlf pc 314 (s_iload 1 315)))))
 (znd pc 318
 (znd pc 316
 (zlf pc 315 (s_ic (-1) 316))
 (znd pc 317
 (zlf pc 316 (s_iast 317))
 (zlf pc 317 (s_aload 0 318))))
 (znd pc 322
 (znd pc 321
 (zlf pc 318 (s_gR 13 39 321))
 (zlf pc 321 (s_iload 1 322)))
 (znd pc 323
 (zlf pc 322 (s_ic (-1) 323))
 (zlf pc 323 (s_iast 324))))))))
 (znd pc 374
 (znd pc 349
 (znd pc 337
 (znd pc 329
 (znd pc 325
 (zlf pc 324 (s_aload 0 325))
 (znd pc 328
 (zlf pc 325 (s_gR 13 40 328))
 (zlf pc 328 (s_iload 1 329))))
 (znd pc 331
 (znd pc 330
 (zlf pc 329 (s_ic (-1) 330))
 (zlf pc 330 (s_iast 331)))
 (znd pc 334
 (zlf pc 331 (s_iinc 1 1 334))
 (zlf pc 334 (s_goto 304)))))
 (znd pc 340
 (znd pc 338
 (zlf pc 337 (s_ic 0 338))
 (znd pc 339
 (zlf pc 338 (s_istore 1 339))
 (zlf pc 339 (s_iload 1 340))))
 (znd pc 345
 (znd pc 342
 (zlf pc 340 (s_ic 8 342))
 (zlf pc 342 (s_cmpge 358 345)))
 (znd pc 346
 (zlf pc 345 (s_aload 0 346))
 (zlf pc 346 (s_gR 13 33 349))))))
 (znd pc 360
 (znd pc 352
 (znd pc 350
 (zlf pc 349 (s_iload 1 350))
 (znd pc 351
 (zlf pc 350 (s_ic 1 351))
 (zlf pc 351 (s_zast 352))))
 (znd pc 358
 (znd pc 355
 (zlf pc 352 (s_iinc 1 1 355))
 (zlf pc 355 (s_goto 339)))
 (znd pc 359
 (zlf pc 358 (s_ic 0 359))
 (zlf pc 359 (s_istore 1 360)))))
 (znd pc 366
 (znd pc 361
 (zlf pc 360 (s_iload 1 361))
 (znd pc 363
 (zlf pc 361 (s_ic 6 363))
 (zlf pc 363 (s_cmpge 390 366))))
 (znd pc 370
 (znd pc 367
 (zlf pc 366 (s_aload 0 367))
 (zlf pc 367 (s_gR 13 31 370)))
 (znd pc 371
 (zlf pc 370 (s_iload 1 371))
 (zlf pc 371 (s_ic 180 374)))))))
 (znd pc 400
 (znd pc 387
 (znd pc 379
 (znd pc 375
 (zlf pc 374 (s_iast 375))
 (znd pc 376
 (zlf pc 375 (s_aload 0 376))
 (zlf pc 376 (s_gR 13 32 379))))
 (znd pc 383
 (znd pc 380
 (zlf pc 379 (s_iload 1 380))
 (zlf pc 380 (s_ic 260 383)))
 (znd pc 384
 (zlf pc 383 (s_iast 384))
 (zlf pc 384 (s_iinc 1 1 387)))))
 (znd pc 394
 (znd pc 390
 (zlf pc 387 (s_goto 360))
 (znd pc 391
 (zlf pc 390 (s_aload 0 391))
 (zlf pc 391 (s_gR 13 30 394))))
 (znd pc 398
 (znd pc 395
 (zlf pc 394 (s_ic 0 395))
 (zlf pc 395 (s_ic 150 398)))
 (znd pc 399
 (zlf pc 398 (s_iast 399))
 (zlf pc 399 (s_aload 0 400))))))
 (znd pc 413
 (znd pc 407
 (znd pc 403
 (zlf pc 400 (s_gR 13 30 403))
 (znd pc 404
 (zlf pc 403 (s_ic 1 404))
 (zlf pc 404 (s_ic 200 407))))
 (znd pc 409
 (znd pc 408
 (zlf pc 407 (s_iast 408))
 (zlf pc 408 (s_aload 0 409)))
 (znd pc 412
 (zlf pc 409 (s_gR 13 30 412))
 (zlf pc 412 (s_ic 2 413)))))
 (znd pc 421
 (znd pc 417
 (znd pc 416
 (zlf pc 413 (s_ic 240 416))
 (zlf pc 416 (s_iast 417)))
 (znd pc 418
 (zlf pc 417 (s_aload 0 418))
 (zlf pc 418 (s_gR 13 30 421))))
 (znd pc 424
 (znd pc 422
 (zlf pc 421 (s_ic 3 422))
 (zlf pc 422 (s_ic 100 424)))
 (znd pc 425
 (zlf pc 424 (s_iast 425))
 (zlf pc 425 (s_rV)))))))))
theorem zm_X12_init (G : Nat × Nat) (pc : Nat) : zMon (zc_X12_init G pc) := (mo_d (mo_d (mo_d (mo_d (mo_d (mo_d (mo_d (mo_l (mo_aload _ _)) (mo_d (mo_l (mo_obj _)) (mo_l (mo_aload _ _)))) (mo_d (mo_d (mo_l (mo_ic _ _)) (mo_l (mo_nai _ _))) (mo_d (mo_l (mo_pR _ _ _)) (mo_l (mo_aload _ _))))) (mo_d (mo_d (mo_l (mo_ic _ _)) (mo_d (mo_l (mo_nai _ _)) (mo_l (mo_pR _ _ _)))) (mo_d (mo_d (mo_l (mo_aload _ _)) (mo_l (mo_ic _ _))) (mo_d (mo_l (mo_nai _ _)) (mo_l (mo_pR _ _ _)))))) (mo_d (mo_d (mo_d (mo_l (mo_aload _ _)) (mo_d (mo_l (mo_ic _ _)) (mo_l (mo_nai _ _)))) (mo_d (mo_d (mo_l (mo_pR _ _ _)) (mo_l (mo_aload _ _))) (mo_d (mo_l (mo_ic _ _)) (mo_l (mo_nai _ _))))) (mo_d (mo_d (mo_l (mo_pR _ _ _)) (mo_d (mo_l (mo_aload _ _)) (mo_l (mo_ic _ _)))) (mo_d (mo_d (mo_l (mo_nai _ _)) (mo_l (mo_pR _ _ _))) (mo_d (mo_l (mo_aload _ _)) (mo_l (mo_ic _ _))))))) (mo_d (mo_d (mo_d (mo_d (mo_l (mo_nai _ _)) (mo_d (mo_l (mo_pR _ _ _)) (mo_l (mo_aload _ _)))) (mo_d (mo_d (mo_l (mo_ic _ _)) (mo_l (mo_nai _ _))) (mo_d (mo_l (mo_pR _ _ _)) (mo_l (mo_aload _ _))))) (mo_d (mo_d (mo_l (mo_ic _ _)) (mo_d (mo_l (mo_nai _ _)) (mo_l (mo_pR _ _ _)))) (mo_d (mo_d (mo_l (mo_aload _ _)) (mo_l (mo_ic _ _))) (mo_d (mo_l (mo_nai _ _)) (mo_l (mo_pR _ _ _)))))) (mo_d (mo_d (mo_d (mo_l (mo_aload _ _)) (mo_d (mo_l (mo_ic _ _)) (mo_l (mo_nai _ _)))) (mo_d (mo_d (mo_l (mo_pR _ _ _)) (mo_l (mo_aload _ _))) (mo_d (mo_l (mo_ic _ _)) (mo_l (mo_nai _ _))))) (mo_d (mo_d (mo_l (mo_pR _ _ _)) (mo_d (mo_l (mo_aload _ _)) (mo_l (mo_ic _ _)))) (mo_d (mo_d (mo_l (mo_nai _ _)) (mo_l (mo_pR _ _ _))) (mo_d (mo_l (mo_aload _ _)) (mo_l (mo_ic _ _)))))))) (mo_d (mo_d (mo_d (mo_d (mo_d (mo_l (mo_nai _ _)) (mo_d (mo_l (mo_pR _ _ _)) (mo_l (mo_aload _ _)))) (mo_d (mo_d (mo_l (mo_ic _ _)) (mo_l (mo_nai _ _))) (mo_d (mo_l (mo_pR _ _ _)) (mo_l (mo_aload _ _))))) (mo_d (mo_d (mo_l (mo_ic _ _)) (mo_d (mo_l (mo_nai _ _)) (mo_l (mo_pR _ _ _)))) (mo_d (mo_d (mo_l (mo_aload _ _)) (mo_l (mo_ic _ _))) (mo_d (mo_l (mo_nai _ _)) (mo_l (mo_pR _ _ _)))))) (mo_d (mo_d (mo_d (mo_l (mo_aload _ _)) (mo_d (mo_l (mo_ic _ _)) (mo_l (mo_nai _ _)))) (mo_d (mo_d (mo_l (mo_pR _ _ _)) (mo_l (mo_aload _ _))) (mo_d (mo_l (mo_ic _ _)) (mo_l (mo_nai _ _))))) (mo_d (mo_d (mo_l (mo_pR _ _ _)) (mo_d (mo_l (mo_aload _ _)) (mo_l (mo_ic _ _)))) (mo_d (mo_d (mo_l (mo_nai _ _)) (mo_l (mo_pR _ _ _))) (mo_d (mo_l (mo_aload _ _)) (mo_l (mo_ic _ _))))))) (mo_d (mo_d (mo_d (mo_d (mo_l (mo_nai _ _)) (mo_d (mo_l (mo_pR _ _ _)) (mo_l (mo_aload _ _)))) (mo_d (mo_d (mo_l (mo_ic _ _)) (mo_l (mo_nai _ _))) (mo_d (mo_l (mo_pR _ _ _)) (mo_l (mo_aload _ _))))) (mo_d (mo_d (mo_l (mo_ic _ _)) (mo_d (mo_l (mo_nai _ _)) (mo_l (mo_pR _ _ _)))) (mo_d (mo_d (mo_l (mo_aload _ _)) (mo_l (mo_ic _ _))) (mo_d (mo_l (mo_nai _ _)) (mo_l (mo_pR _ _ _)))))) (mo_d (mo_d (mo_d (mo_l (mo_aload _ _)) (mo_d (mo_l (mo_ic _ _)) (mo_l (mo_nai _ _)))) (mo_d (mo_d (mo_l (mo_pR _ _ _)) (mo_l (mo_aload _ _))) (mo_d (mo_l (mo_ic _ _)) (mo_l (mo_nai _ _))))) (mo_d (mo_d (mo_d (mo_l (mo_pR _ _ _)) (mo_l (mo_aload _ _))) (mo_d (mo_l (mo_ic _ _)) (mo_l (mo_nai _ _)))) (mo_d (mo_d (mo_l (mo_pR _ _ _)) (mo_l (mo_aload _ _))) (mo_d (mo_l (mo_ic _ _)) (mo_l (mo_nai _ _))))))))) (mo_d (mo_d (mo_d (mo_d (mo_d (mo_d (mo_l (mo_pR _ _ _)) (mo_d (mo_l (mo_aload _ _)) (mo_l (mo_ic _ _)))) (mo_d (mo_d (mo_l (mo_nai _ _)) (mo_l (mo_pR _ _ _))) (mo_d (mo_l (mo_aload _ _)) (mo_l (mo_ic _ _))))) (mo_d (mo_d (mo_l (mo_nai _ _)) (mo_d (mo_l (mo_pR _ _ _)) (mo_l (mo_aload _ _)))) (mo_d (mo_d (mo_l (mo_ic _ _)) (mo_l (mo_nai _ _))) (mo_d (mo_l (mo_pR _ _ _)) (mo_l (mo_aload _ _)))))) (mo_d (mo_d (mo_d (mo_l (mo_ic _ _)) (mo_d (mo_l (mo_nai _ _)) (mo_l (mo_pR _ _ _)))) (mo_d (mo_d (mo_l (mo_aload _ _)) (mo_l (mo_ic _ _))) (mo_d (mo_l (mo_nai _ _)) (mo_l (mo_pR _ _ _))))) (mo_d (mo_d (mo_l (mo_aload _ _)) (mo_d (mo_l (mo_ic _ _)) (mo_l (mo_nai _ _)))) (mo_d (mo_d (mo_l (mo_pR _ _ _)) (mo_l (mo_aload _ _))) (mo_d (mo_l (mo_ic _ _)) (mo_l (mo_nai _ _))))))) (mo_d (mo_d (mo_d (mo_d (mo_l (mo_pR _ _ _)) (mo_d (mo_l (mo_ic _ _)) (mo_l (mo_istore _ _)))) (mo_d (mo_d (mo_l (mo_iload _ _)) (mo_l (mo_ic _ _))) (mo_d (mo_l (mo_cmpge _ _)) (mo_l (mo_aload _ _))))) (mo_d (mo_d (mo_l (mo_gR _ _ _)) (mo_d (mo_l (mo_iload _ _)) (mo_l (mo_ic _ _)))) (mo_d (mo_d (mo_l (mo_iast _)) (mo_l (mo_iinc _ _ _))) (mo_d (mo_l (mo_goto _)) (mo_l (mo_ic _ _)))))) (mo_d (mo_d (mo_d (mo_l (mo_istore _ _)) (mo_d (mo_l (mo_iload _ _)) (mo_l (mo_ic _ _)))) (mo_d (mo_d (mo_l (mo_cmpge _ _)) (mo_l (mo_aload _ _))) (mo_d (mo_l (mo_gR _ _ _)) (mo_l (mo_iload _ _))))) (mo_d (mo_d (mo_l (mo_ic _ _)) (mo_d (mo_l (mo_iast _)) (mo_l (mo_aload _ _)))) (mo_d (mo_d (mo_l (mo_gR _ _ _)) (mo_l (mo_iload _ _))) (mo_d (mo_l (mo_ic _ _)) (mo_l (mo_iast _)))))))) (mo_d (mo_d (mo_d (mo_d (mo_d (mo_l (mo_aload _ _)) (mo_d (mo_l (mo_gR _ _ _)) (mo_l (mo_iload _ _)))) (mo_d (mo_d (mo_l (mo_ic _ _)) (mo_l (mo_iast _))) (mo_d (mo_l (mo_iinc _ _ _)) (mo_l (mo_goto _))))) (mo_d (mo_d (mo_l (mo_ic _ _)) (mo_d (mo_l (mo_istore _ _)) (mo_l (mo_iload _ _)))) (mo_d (mo_d (mo_l (mo_ic _ _)) (mo_l (mo_cmpge _ _))) (mo_d (mo_l (mo_aload _ _)) (mo_l (mo_gR _ _ _)))))) (mo_d (mo_d (mo_d (mo_l (mo_iload _ _)) (mo_d (mo_l (mo_ic _ _)) (mo_l (mo_zast _)))) (mo_d (mo_d (mo_l (mo_iinc _ _ _)) (mo_l (mo_goto _))) (mo_d (mo_l (mo_ic _ _)) (mo_l (mo_istore _ _))))) (mo_d (mo_d (mo_l (mo_iload _ _)) (mo_d (mo_l (mo_ic _ _)) (mo_l (mo_cmpge _ _)))) (mo_d (mo_d (mo_l (mo_aload _ _)) (mo_l (mo_gR _ _ _))) (mo_d (mo_l (mo_iload _ _)) (mo_l (mo_ic _ _))))))) (mo_d (mo_d (mo_d (mo_d (mo_l (mo_iast _)) (mo_d (mo_l (mo_aload _ _)) (mo_l (mo_gR _ _ _)))) (mo_d (mo_d (mo_l (mo_iload _ _)) (mo_l (mo_ic _ _))) (mo_d (mo_l (mo_iast _)) (mo_l (mo_iinc _ _ _))))) (mo_d (mo_d (mo_l (mo_goto _)) (mo_d (mo_l (mo_aload _ _)) (mo_l (mo_gR _ _ _)))) (mo_d (mo_d (mo_l (mo_ic _ _)) (mo_l (mo_ic _ _))) (mo_d (mo_l (mo_iast _)) (mo_l (mo_aload _ _)))))) (mo_d (mo_d (mo_d (mo_l (mo_gR _ _ _)) (mo_d (mo_l (mo_ic _ _)) (mo_l (mo_ic _ _)))) (mo_d (mo_d (mo_l (mo_iast _)) (mo_l (mo_aload _ _))) (mo_d (mo_l (mo_gR _ _ _)) (mo_l (mo_ic _ _))))) (mo_d (mo_d (mo_d (mo_l (mo_ic _ _)) (mo_l (mo_iast _))) (mo_d (mo_l (mo_aload _ _)) (mo_l (mo_gR _ _ _)))) (mo_d (mo_d (mo_l (mo_ic _ _)) (mo_l (mo_ic _ _))) (mo_d (mo_l (mo_iast _)) (mo_l (mo_rV))))))))))
def zc_X11_isIndex (G : Nat × Nat) : Nat → zSem := fun pc =>
 znd pc 6
 (znd pc 4
 (znd pc 1
 (zlf pc 0 (s_iload 0 1))
 (zlf pc 1 (s_iflt 13 4)))
 (znd pc 5
 (zlf pc 4 (s_iload 0 5))
 (zlf pc 5 (s_iload 1 6))))
 (znd pc 10
 (znd pc 9
 (zlf pc 6 (s_cmpge 13 9))
 (zlf pc 9 (s_ic 1 10)))
 (znd pc 13
 (zlf pc 10 (s_goto 14))
 (znd pc 14
 (zlf pc 13 (s_ic 0 14))
 (zlf pc 14 (s_rZ)))))
theorem zm_X11_isIndex (G : Nat × Nat) (pc : Nat) : zMon (zc_X11_isIndex G pc) := (mo_d (mo_d (mo_d (mo_l (mo_iload _ _)) (mo_l (mo_iflt _ _))) (mo_d (mo_l (mo_iload _ _)) (mo_l (mo_iload _ _)))) (mo_d (mo_d (mo_l (mo_cmpge _ _)) (mo_l (mo_ic _ _))) (mo_d (mo_l (mo_goto _)) (mo_d (mo_l (mo_ic _ _)) (mo_l (mo_rZ))))))
def zc_X11_checkIndex (G : Nat × Nat) : Nat → zSem := fun pc =>
 znd pc 4
 (znd pc 1
 (zlf pc 0 (s_iload 0 1))
 (zlf pc 1 (s_ifne 12 4)))
 (znd pc 12
 (zlf pc 4 (s_thr 0))
 (zlf pc 12 (s_rV)))
theorem zm_X11_checkIndex (G : Nat × Nat) (pc : Nat) : zMon (zc_X11_checkIndex G pc) := (mo_d (mo_d (mo_l (mo_iload _ _)) (mo_l (mo_ifne _ _))) (mo_d (mo_l (mo_thr _)) (mo_l (mo_rV))))
def zc_X11_isWithin (G : Nat × Nat) : Nat → zSem := fun pc =>
 znd pc 7
 (znd pc 2
 (znd pc 1
 (zlf pc 0 (s_iload 0 1))
 (zlf pc 1 (s_iload 1 2)))
 (znd pc 5
 (zlf pc 2 (s_cmplt 14 5))
 (znd pc 6
 (zlf pc 5 (s_iload 0 6))
 (zlf pc 6 (s_iload 2 7)))))
 (znd pc 11
 (znd pc 10
 (zlf pc 7 (s_cmpgt 14 10))
 (zlf pc 10 (s_ic 1 11)))
 (znd pc 14
 (zlf pc 11 (s_goto 15))
 (znd pc 15
 (zlf pc 14 (s_ic 0 15))
 (zlf pc 15 (s_rZ)))))
theorem zm_X11_isWithin (G : Nat × Nat) (pc : Nat) : zMon (zc_X11_isWithin G pc) := (mo_d (mo_d (mo_d (mo_l (mo_iload _ _)) (mo_l (mo_iload _ _))) (mo_d (mo_l (mo_cmplt _ _)) (mo_d (mo_l (mo_iload _ _)) (mo_l (mo_iload _ _))))) (mo_d (mo_d (mo_l (mo_cmpgt _ _)) (mo_l (mo_ic _ _))) (mo_d (mo_l (mo_goto _)) (mo_d (mo_l (mo_ic _ _)) (mo_l (mo_rZ))))))
def zc_X11_checkArgument (G : Nat × Nat) : Nat → zSem := fun pc =>
 znd pc 4
 (znd pc 1
 (zlf pc 0 (s_iload 0 1))
 (zlf pc 1 (s_ifne 12 4)))
 (znd pc 12
 (zlf pc 4 (s_thr 1))
 (zlf pc 12 (s_rV)))
theorem zm_X11_checkArgument (G : Nat × Nat) (pc : Nat) : zMon (zc_X11_checkArgument G pc) := (mo_d (mo_d (mo_l (mo_iload _ _)) (mo_l (mo_ifne _ _))) (mo_d (mo_l (mo_thr _)) (mo_l (mo_rV))))
def zc_Jx4a65c_size_8abf5 (G : Nat × Nat) : Nat → zSem := fun pc =>
 znd pc 1
 (zlf pc 0 (s_aload 0 1))
 (znd pc 4
 (zlf pc 1 (s_gI 0 2 4))
 (zlf pc 4 (s_rI)))
theorem zm_Jx4a65c_size_8abf5 (G : Nat × Nat) (pc : Nat) : zMon (zc_Jx4a65c_size_8abf5 G pc) := (mo_d (mo_l (mo_aload _ _)) (mo_d (mo_l (mo_gI _ _ _)) (mo_l (mo_rI))))
def zc_X11_checkState (G : Nat × Nat) : Nat → zSem := fun pc =>
 znd pc 4
 (znd pc 1
 (zlf pc 0 (s_iload 0 1))
 (zlf pc 1 (s_ifne 12 4)))
 (znd pc 12
 (zlf pc 4 (s_thr 2))
 (zlf pc 12 (s_rV)))
theorem zm_X11_checkState (G : Nat × Nat) (pc : Nat) : zMon (zc_X11_checkState G pc) := (mo_d (mo_d (mo_l (mo_iload _ _)) (mo_l (mo_ifne _ _))) (mo_d (mo_l (mo_thr _)) (mo_l (mo_rV))))
def zc_X1_init (G : Nat × Nat) : Nat → zSem := fun pc =>
 znd pc 15
 (znd pc 6
 (znd pc 4
 (znd pc 1
 (zlf pc 0 (s_aload 0 1))
 (zlf pc 1 (s_obj 4)))
 (znd pc 5
 (zlf pc 4 (s_aload 0 5))
 (zlf pc 5 (s_iload 1 6))))
 (znd pc 10
 (znd pc 9
 (zlf pc 6 (s_pI 2 0 9))
 (zlf pc 9 (s_aload 0 10)))
 (znd pc 11
 (zlf pc 10 (s_iload 2 11))
 (znd pc 14
 (zlf pc 11 (s_pI 2 1 14))
 (zlf pc 14 (s_aload 0 15))))))
 (znd pc 22
 (znd pc 19
 (znd pc 16
 (zlf pc 15 (s_iload 3 16))
 (zlf pc 16 (s_pI 2 2 19)))
 (znd pc 20
 (zlf pc 19 (s_aload 0 20))
 (zlf pc 20 (s_iload 4 22))))
 (znd pc 26
 (znd pc 25
 (zlf pc 22 (s_pI 2 3 25))
 (zlf pc 25 (s_aload 0 26)))
 (znd pc 28
 (zlf pc 26 (s_iload 5 28))
 (znd pc 31
 (zlf pc 28 (s_pI 2 4 31))
 (zlf pc 31 (s_rV))))))
theorem zm_X1_init (G : Nat × Nat) (pc : Nat) : zMon (zc_X1_init G pc) := (mo_d (mo_d (mo_d (mo_d (mo_l (mo_aload _ _)) (mo_l (mo_obj _))) (mo_d (mo_l (mo_aload _ _)) (mo_l (mo_iload _ _)))) (mo_d (mo_d (mo_l (mo_pI _ _ _)) (mo_l (mo_aload _ _))) (mo_d (mo_l (mo_iload _ _)) (mo_d (mo_l (mo_pI _ _ _)) (mo_l (mo_aload _ _)))))) (mo_d (mo_d (mo_d (mo_l (mo_iload _ _)) (mo_l (mo_pI _ _ _))) (mo_d (mo_l (mo_aload _ _)) (mo_l (mo_iload _ _)))) (mo_d (mo_d (mo_l (mo_pI _ _ _)) (mo_l (mo_aload _ _))) (mo_d (mo_l (mo_iload _ _)) (mo_d (mo_l (mo_pI _ _ _)) (mo_l (mo_rV)))))))
def zc_J9_max_7cf53 (G : Nat × Nat) : Nat → zSem := fun pc =>
 znd pc 5
 (znd pc 1
 (zlf pc 0 (s_iload 0 1))
 (znd pc 2
 (zlf pc 1 (s_iload 1 2))
 (zlf pc 2 (s_cmplt 9 5))))
 (znd pc 9
 (znd pc 6
 (zlf pc 5 (s_iload 0 6))
 (zlf pc 6 (s_goto 10)))
 (znd pc 10
 (zlf pc 9 (s_iload 1 10))
 (zlf pc 10 (s_rI))))
theorem zm_J9_max_7cf53 (G : Nat × Nat) (pc : Nat) : zMon (zc_J9_max_7cf53 G pc) := (mo_d (mo_d (mo_l (mo_iload _ _)) (mo_d (mo_l (mo_iload _ _)) (mo_l (mo_cmplt _ _)))) (mo_d (mo_d (mo_l (mo_iload _ _)) (mo_l (mo_goto _))) (mo_d (mo_l (mo_iload _ _)) (mo_l (mo_rI)))))
def zc_J8_newLength_cabcc (G : Nat × Nat) : Nat → zSem := fun pc =>
 znd pc 10
 (znd pc 6
 (znd pc 2
 (znd pc 1
 (zlf pc 0 (s_iload 0 1))
 (zlf pc 1 (s_iload 1 2)))
 (znd pc 3
 (zlf pc 2 (s_iload 2 3))
 (zlf pc 3 (s_cI zpS 19 2 [] zx0 6))))
 (znd pc 8
 (znd pc 7
 (zlf pc 6 (s_iadd 7))
 (zlf pc 7 (s_istore 3 8)))
 (znd pc 9
 (zlf pc 8 (s_ic 0 9))
 (zlf pc 9 (s_iload 3 10)))))
 (znd pc 19
 (znd pc 14
 (znd pc 13
 (zlf pc 10 (s_cmpge 21 13))
 (zlf pc 13 (s_iload 3 14)))
 (znd pc 16
 (zlf pc 14 (s_ic 2147483639 16))
 (zlf pc 16 (s_cmpgt 21 19))))
 (znd pc 21
 (znd pc 20
 (zlf pc 19 (s_iload 3 20))
 (zlf pc 20 (s_rI)))
 (znd pc 22
 (zlf pc 21 (s_iload 0 22))
 (znd pc 23
 (zlf pc 22 (s_iload 1 23))
 (zlf pc 23 (s_no))))))
theorem zm_J8_newLength_cabcc (G : Nat × Nat) (pc : Nat) : zMon (zc_J8_newLength_cabcc G pc) := (mo_d (mo_d (mo_d (mo_d (mo_l (mo_iload _ _)) (mo_l (mo_iload _ _))) (mo_d (mo_l (mo_iload _ _)) (mo_l (mo_cI _ _ _ _ zPre_S zHm_0)))) (mo_d (mo_d (mo_l (mo_iadd _)) (mo_l (mo_istore _ _))) (mo_d (mo_l (mo_ic _ _)) (mo_l (mo_iload _ _))))) (mo_d (mo_d (mo_d (mo_l (mo_cmpge _ _)) (mo_l (mo_iload _ _))) (mo_d (mo_l (mo_ic _ _)) (mo_l (mo_cmpgt _ _)))) (mo_d (mo_d (mo_l (mo_iload _ _)) (mo_l (mo_rI))) (mo_d (mo_l (mo_iload _ _)) (mo_d (mo_l (mo_iload _ _)) (mo_l (mo_no)))))))
def zc_J9_min_7cf53 (G : Nat × Nat) : Nat → zSem := fun pc =>
 znd pc 5
 (znd pc 1
 (zlf pc 0 (s_iload 0 1))
 (znd pc 2
 (zlf pc 1 (s_iload 1 2))
 (zlf pc 2 (s_cmpgt 9 5))))
 (znd pc 9
 (znd pc 6
 (zlf pc 5 (s_iload 0 6))
 (zlf pc 6 (s_goto 10)))
 (znd pc 10
 (zlf pc 9 (s_iload 1 10))
 (zlf pc 10 (s_rI))))
theorem zm_J9_min_7cf53 (G : Nat × Nat) (pc : Nat) : zMon (zc_J9_min_7cf53 G pc) := (mo_d (mo_d (mo_l (mo_iload _ _)) (mo_d (mo_l (mo_iload _ _)) (mo_l (mo_cmpgt _ _)))) (mo_d (mo_d (mo_l (mo_iload _ _)) (mo_l (mo_goto _))) (mo_d (mo_l (mo_iload _ _)) (mo_l (mo_rI)))))
def zc_J7_copyOf_6403c (G : Nat × Nat) : Nat → zSem := fun pc =>
 znd pc 26
 (znd pc 10
 (znd pc 3
 (znd pc 1
 (zlf pc 0 (s_aload 2 1))
 (zlf pc 1 (s_gs G.2 3)))
 (znd pc 6
 (zlf pc 3 (s_acmpne 13 6))
 (znd pc 7
 (zlf pc 6 (s_iload 1 7))
 (zlf pc 7 (s_naq 10)))))
 (znd pc 14
 (znd pc 13
 (zlf pc 10 (s_goto 24))
 (zlf pc 13 (s_aload 2 14)))
 (znd pc 24
 (zlf pc 14 (s_no))
 (znd pc 25
 (zlf pc 24 (s_astore 3 25))
 (zlf pc 25 (s_aload 0 26))))))
 (znd pc 31
 (znd pc 28
 (znd pc 27
 (zlf pc 26 (s_ic 0 27))
 (zlf pc 27 (s_aload 3 28)))
 (znd pc 29
 (zlf pc 28 (s_ic 0 29))
 (znd pc 30
 (zlf pc 29 (s_aload 0 30))
 (zlf pc 30 (s_alen 31)))))
 (znd pc 35
 (znd pc 32
 (zlf pc 31 (s_iload 1 32))
 (zlf pc 32 (s_cI zpS 21 2 [] zx0 35)))
 (znd pc 38
 (zlf pc 35 (s_cpy 38))
 (znd pc 39
 (zlf pc 38 (s_aload 3 39))
 (zlf pc 39 (s_rR))))))
theorem zm_J7_copyOf_6403c (G : Nat × Nat) (pc : Nat) : zMon (zc_J7_copyOf_6403c G pc) := (mo_d (mo_d (mo_d (mo_d (mo_l (mo_aload _ _)) (mo_l (mo_gs _ _))) (mo_d (mo_l (mo_acmpne _ _)) (mo_d (mo_l (mo_iload _ _)) (mo_l (mo_naq _))))) (mo_d (mo_d (mo_l (mo_goto _)) (mo_l (mo_aload _ _))) (mo_d (mo_l (mo_no)) (mo_d (mo_l (mo_astore _ _)) (mo_l (mo_aload _ _)))))) (mo_d (mo_d (mo_d (mo_l (mo_ic _ _)) (mo_l (mo_aload _ _))) (mo_d (mo_l (mo_ic _ _)) (mo_d (mo_l (mo_aload _ _)) (mo_l (mo_alen _))))) (mo_d (mo_d (mo_l (mo_iload _ _)) (mo_l (mo_cI _ _ _ _ zPre_S zHm_0))) (mo_d (mo_l (mo_cpy _)) (mo_d (mo_l (mo_aload _ _)) (mo_l (mo_rR)))))))
def zc_J7_copyOf_1904c (G : Nat × Nat) : Nat → zSem := fun pc =>
 znd pc 3
 (znd pc 1
 (zlf pc 0 (s_aload 0 1))
 (znd pc 2
 (zlf pc 1 (s_iload 1 2))
 (zlf pc 2 (s_aload 0 3))))
 (znd pc 6
 (zlf pc 3 (s_gcls G.2 6))
 (znd pc 9
 (zlf pc 6 (s_cR zpS 22 3 [zU] zx0 9))
 (zlf pc 9 (s_rR))))
theorem zm_J7_copyOf_1904c (G : Nat × Nat) (pc : Nat) : zMon (zc_J7_copyOf_1904c G pc) := (mo_d (mo_d (mo_l (mo_aload _ _)) (mo_d (mo_l (mo_iload _ _)) (mo_l (mo_aload _ _)))) (mo_d (mo_l (mo_gcls _ _)) (mo_d (mo_l (mo_cR _ _ _ _ zPre_S zHm_0)) (mo_l (mo_rR)))))
def zc_Jx4a65c_grow_92f84 (G : Nat × Nat) : Nat → zSem := fun pc =>
 znd pc 27
 (znd pc 14
 (znd pc 6
 (znd pc 4
 (znd pc 1
 (zlf pc 0 (s_aload 0 1))
 (zlf pc 1 (s_gR 0 1 4)))
 (znd pc 5
 (zlf pc 4 (s_alen 5))
 (zlf pc 5 (s_istore 2 6))))
 (znd pc 10
 (znd pc 7
 (zlf pc 6 (s_iload 2 7))
 (zlf pc 7 (s_ifgt 20 10)))
 (znd pc 11
 (zlf pc 10 (s_aload 0 11))
 (zlf pc 11 (s_gR 0 1 14)))))
 (znd pc 22
 (znd pc 20
 (znd pc 17
 (zlf pc 14 (s_gs G.1 17))
 (zlf pc 17 (s_acmpeq 45 20)))
 (znd pc 21
 (zlf pc 20 (s_iload 2 21))
 (zlf pc 21 (s_iload 1 22))))
 (znd pc 24
 (znd pc 23
 (zlf pc 22 (s_iload 2 23))
 (zlf pc 23 (s_isub 24)))
 (znd pc 25
 (zlf pc 24 (s_iload 2 25))
 (znd pc 26
 (zlf pc 25 (s_ic 1 26))
 (zlf pc 26 (s_ishr 27)))))))
 (znd pc 44
 (znd pc 33
 (znd pc 31
 (znd pc 30
 (zlf pc 27 (s_cI zpS 20 3 [zU] zx0 30))
 (zlf pc 30 (s_istore 3 31)))
 (znd pc 32
 (zlf pc 31 (s_aload 0 32))
 (zlf pc 32 (s_aload 0 33))))
 (znd pc 37
 (znd pc 36
 (zlf pc 33 (s_gR 0 1 36))
 (zlf pc 36 (s_iload 3 37)))
 (znd pc 40
 (zlf pc 37 (s_cR zpS 23 2 [] zx0 40))
 (znd pc 41
 (zlf pc 40 (s_dupx1 41))
 (zlf pc 41 (s_pR 0 1 44))))))
 (znd pc 49
 (znd pc 46
 (znd pc 45
 (zlf pc 44 (s_rR))
 (zlf pc 45 (s_aload 0 46)))
 (znd pc 48
 (zlf pc 46 (s_ic 10 48))
 (zlf pc 48 (s_iload 1 49))))
 (znd pc 55
 (znd pc 52
 (zlf pc 49 (s_cI zpS 19 2 [] zx0 52))
 (zlf pc 52 (s_naq 55)))
 (znd pc 56
 (zlf pc 55 (s_dupx1 56))
 (znd pc 59
 (zlf pc 56 (s_pR 0 1 59))
 (zlf pc 59 (s_rR)))))))
theorem zm_Jx4a65c_grow_92f84 (G : Nat × Nat) (pc : Nat) : zMon (zc_Jx4a65c_grow_92f84 G pc) := (mo_d (mo_d (mo_d (mo_d (mo_d (mo_l (mo_aload _ _)) (mo_l (mo_gR _ _ _))) (mo_d (mo_l (mo_alen _)) (mo_l (mo_istore _ _)))) (mo_d (mo_d (mo_l (mo_iload _ _)) (mo_l (mo_ifgt _ _))) (mo_d (mo_l (mo_aload _ _)) (mo_l (mo_gR _ _ _))))) (mo_d (mo_d (mo_d (mo_l (mo_gs _ _)) (mo_l (mo_acmpeq _ _))) (mo_d (mo_l (mo_iload _ _)) (mo_l (mo_iload _ _)))) (mo_d (mo_d (mo_l (mo_iload _ _)) (mo_l (mo_isub _))) (mo_d (mo_l (mo_iload _ _)) (mo_d (mo_l (mo_ic _ _)) (mo_l (mo_ishr _))))))) (mo_d (mo_d (mo_d (mo_d (mo_l (mo_cI _ _ _ _ zPre_S zHm_0)) (mo_l (mo_istore _ _))) (mo_d (mo_l (mo_aload _ _)) (mo_l (mo_aload _ _)))) (mo_d (mo_d (mo_l (mo_gR _ _ _)) (mo_l (mo_iload _ _))) (mo_d (mo_l (mo_cR _ _ _ _ zPre_S zHm_0)) (mo_d (mo_l (mo_dupx1 _)) (mo_l (mo_pR _ _ _)))))) (mo_d (mo_d (mo_d (mo_l (mo_rR)) (mo_l (mo_aload _ _))) (mo_d (mo_l (mo_ic _ _)) (mo_l (mo_iload _ _)))) (mo_d (mo_d (mo_l (mo_cI _ _ _ _ zPre_S zHm_0)) (mo_l (mo_naq _))) (mo_d (mo_l (mo_dupx1 _)) (mo_d (mo_l (mo_pR _ _ _)) (mo_l (mo_rR))))))))
def zc_Jx4a65c_grow_d5877 (G : Nat × Nat) : Nat → zSem := fun pc =>
 znd pc 5
 (znd pc 1
 (zlf pc 0 (s_aload 0 1))
 (znd pc 2
 (zlf pc 1 (s_aload 0 2))
 (zlf pc 2 (s_gI 0 2 5))))
 (znd pc 7
 (znd pc 6
 (zlf pc 5 (s_ic 1 6))
 (zlf pc 6 (s_iadd 7)))
 (znd pc 10
 (zlf pc 7 (s_cR (zpV 0) 24 2 [zU, zU] zx0 10))
 (zlf pc 10 (s_rR))))
theorem zm_Jx4a65c_grow_d5877 (G : Nat × Nat) (pc : Nat) : zMon (zc_Jx4a65c_grow_d5877 G pc) := (mo_d (mo_d (mo_l (mo_aload _ _)) (mo_d (mo_l (mo_aload _ _)) (mo_l (mo_gI _ _ _)))) (mo_d (mo_d (mo_l (mo_ic _ _)) (mo_l (mo_iadd _))) (mo_d (mo_l (mo_cR _ _ _ _ (zPre_V _) zHm_0)) (mo_l (mo_rR)))))
def zc_Jx4a65c_add_72be8 (G : Nat × Nat) : Nat → zSem := fun pc =>
 znd pc 12
 (znd pc 6
 (znd pc 2
 (znd pc 1
 (zlf pc 0 (s_iload 3 1))
 (zlf pc 1 (s_aload 2 2)))
 (znd pc 3
 (zlf pc 2 (s_alen 3))
 (zlf pc 3 (s_cmpne 11 6))))
 (znd pc 10
 (znd pc 7
 (zlf pc 6 (s_aload 0 7))
 (zlf pc 7 (s_cR (zpV 0) 25 1 [] zx0 10)))
 (znd pc 11
 (zlf pc 10 (s_astore 2 11))
 (zlf pc 11 (s_aload 2 12)))))
 (znd pc 16
 (znd pc 14
 (znd pc 13
 (zlf pc 12 (s_iload 3 13))
 (zlf pc 13 (s_aload 1 14)))
 (znd pc 15
 (zlf pc 14 (s_qast 15))
 (zlf pc 15 (s_aload 0 16))))
 (znd pc 18
 (znd pc 17
 (zlf pc 16 (s_iload 3 17))
 (zlf pc 17 (s_ic 1 18)))
 (znd pc 19
 (zlf pc 18 (s_iadd 19))
 (znd pc 22
 (zlf pc 19 (s_pI 0 2 22))
 (zlf pc 22 (s_rV))))))
theorem zm_Jx4a65c_add_72be8 (G : Nat × Nat) (pc : Nat) : zMon (zc_Jx4a65c_add_72be8 G pc) := (mo_d (mo_d (mo_d (mo_d (mo_l (mo_iload _ _)) (mo_l (mo_aload _ _))) (mo_d (mo_l (mo_alen _)) (mo_l (mo_cmpne _ _)))) (mo_d (mo_d (mo_l (mo_aload _ _)) (mo_l (mo_cR _ _ _ _ (zPre_V _) zHm_0))) (mo_d (mo_l (mo_astore _ _)) (mo_l (mo_aload _ _))))) (mo_d (mo_d (mo_d (mo_l (mo_iload _ _)) (mo_l (mo_aload _ _))) (mo_d (mo_l (mo_qast _)) (mo_l (mo_aload _ _)))) (mo_d (mo_d (mo_l (mo_iload _ _)) (mo_l (mo_ic _ _))) (mo_d (mo_l (mo_iadd _)) (mo_d (mo_l (mo_pI _ _ _)) (mo_l (mo_rV)))))))
def zc_Jx4a65c_add_9ea2d (G : Nat × Nat) : Nat → zSem := fun pc =>
 znd pc 11
 (znd pc 5
 (znd pc 1
 (zlf pc 0 (s_aload 0 1))
 (znd pc 2
 (zlf pc 1 (s_dup 2))
 (zlf pc 2 (s_gI 0 0 5))))
 (znd pc 7
 (znd pc 6
 (zlf pc 5 (s_ic 1 6))
 (zlf pc 6 (s_iadd 7)))
 (znd pc 10
 (zlf pc 7 (s_pI 0 0 10))
 (zlf pc 10 (s_aload 0 11)))))
 (znd pc 17
 (znd pc 13
 (znd pc 12
 (zlf pc 11 (s_aload 1 12))
 (zlf pc 12 (s_aload 0 13)))
 (znd pc 16
 (zlf pc 13 (s_gR 0 1 16))
 (zlf pc 16 (s_aload 0 17))))
 (znd pc 23
 (znd pc 20
 (zlf pc 17 (s_gI 0 2 20))
 (zlf pc 20 (s_cV (zpV 0) 26 4 [] zx0 23)))
 (znd pc 24
 (zlf pc 23 (s_ic 1 24))
 (zlf pc 24 (s_rZ)))))
theorem zm_Jx4a65c_add_9ea2d (G : Nat × Nat) (pc : Nat) : zMon (zc_Jx4a65c_add_9ea2d G pc) := (mo_d (mo_d (mo_d (mo_l (mo_aload _ _)) (mo_d (mo_l (mo_dup _)) (mo_l (mo_gI _ _ _)))) (mo_d (mo_d (mo_l (mo_ic _ _)) (mo_l (mo_iadd _))) (mo_d (mo_l (mo_pI _ _ _)) (mo_l (mo_aload _ _))))) (mo_d (mo_d (mo_d (mo_l (mo_aload _ _)) (mo_l (mo_aload _ _))) (mo_d (mo_l (mo_gR _ _ _)) (mo_l (mo_aload _ _)))) (mo_d (mo_d (mo_l (mo_gI _ _ _)) (mo_l (mo_cV _ _ _ _ (zPre_V _) zHm_0))) (mo_d (mo_l (mo_ic _ _)) (mo_l (mo_rZ))))))
def zc_X4_addBundle (G : Nat × Nat) : Nat → zSem := fun pc =>
 znd pc 18
 (znd pc 9
 (znd pc 4
 (znd pc 1
 (zlf pc 0 (s_aload 0 1))
 (zlf pc 1 (s_gR 5 0 4)))
 (znd pc 7
 (zlf pc 4 (s_new 2 5 [.int 0, .int 0, .int 0, .int 0, .int 0] 7))
 (znd pc 8
 (zlf pc 7 (s_dup 8))
 (zlf pc 8 (s_aload 0 9)))))
 (znd pc 15
 (znd pc 12
 (zlf pc 9 (s_gR 5 0 12))
 (zlf pc 12 (s_cI (zpV 0) 16 1 [] zx0 15)))
 (znd pc 16
 (zlf pc 15 (s_iload 1 16))
 (znd pc 17
 (zlf pc 16 (s_iload 2 17))
 (zlf pc 17 (s_iload 3 18))))))
 (znd pc 28
 (znd pc 23
 (znd pc 20
 (zlf pc 18 (s_iload 4 20))
 (zlf pc 20 (s_cV zpI 18 6 [] zx0 23)))
 (znd pc 26
 (zlf pc 23 (s_cI (zpV 0) 27 2 [] zx0 26))
 (znd pc 27
 (zlf pc 26 (s_pop 27))
 (zlf pc 27 (s_aload 0 28)))))
 (znd pc 34
 (znd pc 31
 (zlf pc 28 (s_gR 5 0 31))
 (zlf pc 31 (s_cI (zpV 0) 16 1 [] zx0 34)))
 (znd pc 35
 (zlf pc 34 (s_ic 1 35))
 (znd pc 36
 (zlf pc 35 (s_isub 36))
 (zlf pc 36 (s_rI))))))
theorem zm_X4_addBundle (G : Nat × Nat) (pc : Nat) : zMon (zc_X4_addBundle G pc) := (mo_d (mo_d (mo_d (mo_d (mo_l (mo_aload _ _)) (mo_l (mo_gR _ _ _))) (mo_d (mo_l (mo_new _ _ _ _)) (mo_d (mo_l (mo_dup _)) (mo_l (mo_aload _ _))))) (mo_d (mo_d (mo_l (mo_gR _ _ _)) (mo_l (mo_cI _ _ _ _ (zPre_V _) zHm_0))) (mo_d (mo_l (mo_iload _ _)) (mo_d (mo_l (mo_iload _ _)) (mo_l (mo_iload _ _)))))) (mo_d (mo_d (mo_d (mo_l (mo_iload _ _)) (mo_l (mo_cV _ _ _ _ zPre_I zHm_0))) (mo_d (mo_l (mo_cI _ _ _ _ (zPre_V _) zHm_0)) (mo_d (mo_l (mo_pop _)) (mo_l (mo_aload _ _))))) (mo_d (mo_d (mo_l (mo_gR _ _ _)) (mo_l (mo_cI _ _ _ _ (zPre_V _) zHm_0))) (mo_d (mo_l (mo_ic _ _)) (mo_d (mo_l (mo_isub _)) (mo_l (mo_rI)))))))
def zc_X11_bundle (G : Nat × Nat) : Nat → zSem := fun pc =>
 znd pc 47
 (znd pc 23
 (znd pc 10
 (znd pc 3
 (znd pc 1
 (zlf pc 0 (s_iload 1 1))
 (zlf pc 1 (s_ic 8 3)))
 (znd pc 6
 (zlf pc 3 (s_cI zpS 12 2 [] zx0 6))
 (znd pc 9
 (zlf pc 6 (s_ifeq 22 9))
 (zlf pc 9 (s_iload 2 10)))))
 (znd pc 18
 (znd pc 12
 (zlf pc 10 (s_ic 8 12))
 (znd pc 15
 (zlf pc 12 (s_cI zpS 12 2 [] zx0 15))
 (zlf pc 15 (s_ifeq 22 18))))
 (znd pc 19
 (zlf pc 18 (s_ic 1 19))
 (znd pc 22
 (zlf pc 19 (s_goto 23))
 (zlf pc 22 (s_ic 0 23))))))
 (znd pc 33
 (znd pc 28
 (znd pc 26
 (zlf pc 23 (s_cV zpS 13 1 [] zx0 26))
 (znd pc 27
 (zlf pc 26 (s_iload 1 27))
 (zlf pc 27 (s_iload 2 28))))
 (znd pc 31
 (zlf pc 28 (s_cmpeq 57 31))
 (znd pc 32
 (zlf pc 31 (s_iload 3 32))
 (zlf pc 32 (s_ic 1 33)))))
 (znd pc 42
 (znd pc 36
 (zlf pc 33 (s_ic 999 36))
 (znd pc 39
 (zlf pc 36 (s_cI zpS 14 3 [] zx0 39))
 (zlf pc 39 (s_ifeq 57 42))))
 (znd pc 44
 (zlf pc 42 (s_iload 4 44))
 (znd pc 45
 (zlf pc 44 (s_ic 1 45))
 (zlf pc 45 (s_ic 24 47)))))))
 (znd pc 76
 (znd pc 61
 (znd pc 54
 (znd pc 50
 (zlf pc 47 (s_cI zpS 14 3 [] zx0 50))
 (znd pc 53
 (zlf pc 50 (s_ifeq 57 53))
 (zlf pc 53 (s_ic 1 54))))
 (znd pc 57
 (zlf pc 54 (s_goto 58))
 (znd pc 58
 (zlf pc 57 (s_ic 0 58))
 (zlf pc 58 (s_cV zpS 15 1 [] zx0 61)))))
 (znd pc 68
 (znd pc 62
 (zlf pc 61 (s_aload 0 62))
 (znd pc 65
 (zlf pc 62 (s_gR 12 0 65))
 (zlf pc 65 (s_gR 5 0 68))))
 (znd pc 71
 (zlf pc 68 (s_cI (zpV 0) 16 1 [] zx0 71))
 (znd pc 73
 (zlf pc 71 (s_ic 16 73))
 (zlf pc 73 (s_cmpge 80 76))))))
 (znd pc 88
 (znd pc 81
 (znd pc 77
 (zlf pc 76 (s_ic 1 77))
 (znd pc 80
 (zlf pc 77 (s_goto 81))
 (zlf pc 80 (s_ic 0 81))))
 (znd pc 84
 (zlf pc 81 (s_cV zpS 17 1 [] zx0 84))
 (znd pc 85
 (zlf pc 84 (s_aload 0 85))
 (zlf pc 85 (s_gR 12 0 88)))))
 (znd pc 91
 (znd pc 89
 (zlf pc 88 (s_iload 1 89))
 (znd pc 90
 (zlf pc 89 (s_iload 2 90))
 (zlf pc 90 (s_iload 3 91))))
 (znd pc 93
 (zlf pc 91 (s_iload 4 93))
 (znd pc 96
 (zlf pc 93 (s_cI (zpV 5) 28 5 [] zx0 96))
 (zlf pc 96 (s_rI)))))))
theorem zm_X11_bundle (G : Nat × Nat) (pc : Nat) : zMon (zc_X11_bundle G pc) := (mo_d (mo_d (mo_d (mo_d (mo_d (mo_l (mo_iload _ _)) (mo_l (mo_ic _ _))) (mo_d (mo_l (mo_cI _ _ _ _ zPre_S zHm_0)) (mo_d (mo_l (mo_ifeq _ _)) (mo_l (mo_iload _ _))))) (mo_d (mo_d (mo_l (mo_ic _ _)) (mo_d (mo_l (mo_cI _ _ _ _ zPre_S zHm_0)) (mo_l (mo_ifeq _ _)))) (mo_d (mo_l (mo_ic _ _)) (mo_d (mo_l (mo_goto _)) (mo_l (mo_ic _ _)))))) (mo_d (mo_d (mo_d (mo_l (mo_cV _ _ _ _ zPre_S zHm_0)) (mo_d (mo_l (mo_iload _ _)) (mo_l (mo_iload _ _)))) (mo_d (mo_l (mo_cmpeq _ _)) (mo_d (mo_l (mo_iload _ _)) (mo_l (mo_ic _ _))))) (mo_d (mo_d (mo_l (mo_ic _ _)) (mo_d (mo_l (mo_cI _ _ _ _ zPre_S zHm_0)) (mo_l (mo_ifeq _ _)))) (mo_d (mo_l (mo_iload _ _)) (mo_d (mo_l (mo_ic _ _)) (mo_l (mo_ic _ _))))))) (mo_d (mo_d (mo_d (mo_d (mo_l (mo_cI _ _ _ _ zPre_S zHm_0)) (mo_d (mo_l (mo_ifeq _ _)) (mo_l (mo_ic _ _)))) (mo_d (mo_l (mo_goto _)) (mo_d (mo_l (mo_ic _ _)) (mo_l (mo_cV _ _ _ _ zPre_S zHm_0))))) (mo_d (mo_d (mo_l (mo_aload _ _)) (mo_d (mo_l (mo_gR _ _ _)) (mo_l (mo_gR _ _ _)))) (mo_d (mo_l (mo_cI _ _ _ _ (zPre_V _) zHm_0)) (mo_d (mo_l (mo_ic _ _)) (mo_l (mo_cmpge _ _)))))) (mo_d (mo_d (mo_d (mo_l (mo_ic _ _)) (mo_d (mo_l (mo_goto _)) (mo_l (mo_ic _ _)))) (mo_d (mo_l (mo_cV _ _ _ _ zPre_S zHm_0)) (mo_d (mo_l (mo_aload _ _)) (mo_l (mo_gR _ _ _))))) (mo_d (mo_d (mo_l (mo_iload _ _)) (mo_d (mo_l (mo_iload _ _)) (mo_l (mo_iload _ _)))) (mo_d (mo_l (mo_iload _ _)) (mo_d (mo_l (mo_cI _ _ _ _ (zPre_V _) zHm_0)) (mo_l (mo_rI))))))))
def zc_L_bundle (G : Nat × Nat) : Nat → zSem := fun pc =>
 znd pc 13
 (znd pc 5
 (znd pc 3
 (znd pc 2
 (zlf pc 0 (s_aload 5 2))
 (zlf pc 2 (s_ic 0 3)))
 (znd pc 4
 (zlf pc 3 (s_aload 0 4))
 (zlf pc 4 (s_iload 1 5))))
 (znd pc 7
 (znd pc 6
 (zlf pc 5 (s_iload 2 6))
 (zlf pc 6 (s_iload 3 7)))
 (znd pc 9
 (zlf pc 7 (s_iload 4 9))
 (znd pc 12
 (zlf pc 9 (s_cI (zpV 12) 29 5 [] (zxc 6 [(0, 19), (1, 23), (2, 27)]) 12))
 (zlf pc 12 (s_i2l 13))))))
 (znd pc 24
 (znd pc 19
 (znd pc 14
 (zlf pc 13 (s_last 14))
 (zlf pc 14 (s_goto 29)))
 (znd pc 20
 (zlf pc 19 (s_ic 1 20))
 (znd pc 23
 (zlf pc 20 (s_rI))
 (zlf pc 23 (s_ic 2 24)))))
 (znd pc 28
 (znd pc 27
 (zlf pc 24 (s_rI))
 (zlf pc 27 (s_ic 3 28)))
 (znd pc 29
 (zlf pc 28 (s_rI))
 (znd pc 30
 (zlf pc 29 (s_ic 0 30))
 (zlf pc 30 (s_rI))))))
theorem zm_L_bundle (G : Nat × Nat) (pc : Nat) : zMon (zc_L_bundle G pc) := (mo_d (mo_d (mo_d (mo_d (mo_l (mo_aload _ _)) (mo_l (mo_ic _ _))) (mo_d (mo_l (mo_aload _ _)) (mo_l (mo_iload _ _)))) (mo_d (mo_d (mo_l (mo_iload _ _)) (mo_l (mo_iload _ _))) (mo_d (mo_l (mo_iload _ _)) (mo_d (mo_l (mo_cI _ _ _ _ (zPre_V _) (zHm_c _ _))) (mo_l (mo_i2l _)))))) (mo_d (mo_d (mo_d (mo_l (mo_last _)) (mo_l (mo_goto _))) (mo_d (mo_l (mo_ic _ _)) (mo_d (mo_l (mo_rI)) (mo_l (mo_ic _ _))))) (mo_d (mo_d (mo_l (mo_rI)) (mo_l (mo_ic _ _))) (mo_d (mo_l (mo_rI)) (mo_d (mo_l (mo_ic _ _)) (mo_l (mo_rI)))))))
def zc_X12_isIn (G : Nat × Nat) : Nat → zSem := fun pc =>
 znd pc 7
 (znd pc 2
 (znd pc 1
 (zlf pc 0 (s_iload 0 1))
 (zlf pc 1 (s_iload 1 2)))
 (znd pc 5
 (zlf pc 2 (s_cmplt 14 5))
 (znd pc 6
 (zlf pc 5 (s_iload 0 6))
 (zlf pc 6 (s_iload 2 7)))))
 (znd pc 11
 (znd pc 10
 (zlf pc 7 (s_cmpgt 14 10))
 (zlf pc 10 (s_ic 1 11)))
 (znd pc 14
 (zlf pc 11 (s_goto 15))
 (znd pc 15
 (zlf pc 14 (s_ic 0 15))
 (zlf pc 15 (s_rZ)))))
theorem zm_X12_isIn (G : Nat × Nat) (pc : Nat) : zMon (zc_X12_isIn G pc) := (mo_d (mo_d (mo_d (mo_l (mo_iload _ _)) (mo_l (mo_iload _ _))) (mo_d (mo_l (mo_cmplt _ _)) (mo_d (mo_l (mo_iload _ _)) (mo_l (mo_iload _ _))))) (mo_d (mo_d (mo_l (mo_cmpgt _ _)) (mo_l (mo_ic _ _))) (mo_d (mo_l (mo_goto _)) (mo_d (mo_l (mo_ic _ _)) (mo_l (mo_rZ))))))
def zc_X12_isNode (G : Nat × Nat) : Nat → zSem := fun pc =>
 znd pc 2
 (znd pc 1
 (zlf pc 0 (s_iload 0 1))
 (zlf pc 1 (s_ic 0 2)))
 (znd pc 4
 (zlf pc 2 (s_ic 7 4))
 (znd pc 7
 (zlf pc 4 (s_cI zpS 31 3 [] zx0 7))
 (zlf pc 7 (s_rZ))))
theorem zm_X12_isNode (G : Nat × Nat) (pc : Nat) : zMon (zc_X12_isNode G pc) := (mo_d (mo_d (mo_l (mo_iload _ _)) (mo_l (mo_ic _ _))) (mo_d (mo_l (mo_ic _ _)) (mo_d (mo_l (mo_cI _ _ _ _ zPre_S zHm_0)) (mo_l (mo_rZ)))))
def zc_X12_fails (G : Nat × Nat) : Nat → zSem := fun pc =>
 znd pc 6
 (znd pc 2
 (znd pc 1
 (zlf pc 0 (s_aload 0 1))
 (zlf pc 1 (s_iload 1 2)))
 (znd pc 5
 (zlf pc 2 (s_pI 13 44 5))
 (zlf pc 5 (s_iload 1 6))))
 (znd pc 10
 (znd pc 9
 (zlf pc 6 (s_ifle 13 9))
 (zlf pc 9 (s_ic 1 10)))
 (znd pc 13
 (zlf pc 10 (s_goto 14))
 (znd pc 14
 (zlf pc 13 (s_ic 0 14))
 (zlf pc 14 (s_rZ)))))
theorem zm_X12_fails (G : Nat × Nat) (pc : Nat) : zMon (zc_X12_fails G pc) := (mo_d (mo_d (mo_d (mo_l (mo_aload _ _)) (mo_l (mo_iload _ _))) (mo_d (mo_l (mo_pI _ _ _)) (mo_l (mo_iload _ _)))) (mo_d (mo_d (mo_l (mo_ifle _ _)) (mo_l (mo_ic _ _))) (mo_d (mo_l (mo_goto _)) (mo_d (mo_l (mo_ic _ _)) (mo_l (mo_rZ))))))
def zc_X12_bundle (G : Nat × Nat) : Nat → zSem := fun pc =>
 znd pc 84
 (znd pc 40
 (znd pc 21
 (znd pc 11
 (znd pc 4
 (znd pc 1
 (zlf pc 0 (s_iload 1 1))
 (zlf pc 1 (s_cI zpS 32 1 [] zx0 4)))
 (znd pc 7
 (zlf pc 4 (s_ifeq 18 7))
 (znd pc 8
 (zlf pc 7 (s_iload 2 8))
 (zlf pc 8 (s_cI zpS 32 1 [] zx0 11)))))
 (znd pc 15
 (znd pc 14
 (zlf pc 11 (s_ifeq 18 14))
 (zlf pc 14 (s_ic 1 15)))
 (znd pc 18
 (zlf pc 15 (s_goto 19))
 (znd pc 19
 (zlf pc 18 (s_ic 0 19))
 (zlf pc 19 (s_istore 5 21))))))
 (znd pc 28
 (znd pc 23
 (znd pc 22
 (zlf pc 21 (s_iload 1 22))
 (zlf pc 22 (s_iload 2 23)))
 (znd pc 26
 (zlf pc 23 (s_cmpeq 52 26))
 (znd pc 27
 (zlf pc 26 (s_iload 3 27))
 (zlf pc 27 (s_ic 1 28)))))
 (znd pc 34
 (znd pc 31
 (zlf pc 28 (s_ic 999 31))
 (zlf pc 31 (s_cI zpS 31 3 [] zx0 34)))
 (znd pc 37
 (zlf pc 34 (s_ifeq 52 37))
 (znd pc 39
 (zlf pc 37 (s_iload 4 39))
 (zlf pc 39 (s_ic 1 40)))))))
 (znd pc 61
 (znd pc 52
 (znd pc 45
 (znd pc 42
 (zlf pc 40 (s_ic 24 42))
 (zlf pc 42 (s_cI zpS 31 3 [] zx0 45)))
 (znd pc 48
 (zlf pc 45 (s_ifeq 52 48))
 (znd pc 49
 (zlf pc 48 (s_ic 1 49))
 (zlf pc 49 (s_goto 53)))))
 (znd pc 55
 (znd pc 53
 (zlf pc 52 (s_ic 0 53))
 (zlf pc 53 (s_istore 6 55)))
 (znd pc 56
 (zlf pc 55 (s_aload 0 56))
 (znd pc 58
 (zlf pc 56 (s_iload 5 58))
 (zlf pc 58 (s_ifne 65 61))))))
 (znd pc 71
 (znd pc 65
 (znd pc 62
 (zlf pc 61 (s_ic 1 62))
 (zlf pc 62 (s_goto 88)))
 (znd pc 67
 (zlf pc 65 (s_iload 6 67))
 (znd pc 70
 (zlf pc 67 (s_ifne 74 70))
 (zlf pc 70 (s_ic 2 71)))))
 (znd pc 78
 (znd pc 74
 (zlf pc 71 (s_goto 88))
 (znd pc 75
 (zlf pc 74 (s_aload 0 75))
 (zlf pc 75 (s_gI 13 0 78))))
 (znd pc 80
 (zlf pc 78 (s_ic 16 80))
 (znd pc 83
 (zlf pc 80 (s_cmpne 87 83))
 (zlf pc 83 (s_ic 3 84))))))))
 (znd pc 120
 (znd pc 104
 (znd pc 95
 (znd pc 88
 (znd pc 87
 (zlf pc 84 (s_goto 88))
 (zlf pc 87 (s_ic 0 88)))
 (znd pc 91
 (zlf pc 88 (s_cI (zpV 13) 33 2 [] zx0 91))
 (znd pc 94
 (zlf pc 91 (s_ifeq 96 94))
 (zlf pc 94 (s_ic 0 95)))))
 (znd pc 97
 (znd pc 96
 (zlf pc 95 (s_rI))
 (zlf pc 96 (s_aload 0 97)))
 (znd pc 100
 (zlf pc 97 (s_gR 13 1 100))
 (znd pc 101
 (zlf pc 100 (s_aload 0 101))
 (zlf pc 101 (s_gI 13 0 104))))))
 (znd pc 111
 (znd pc 106
 (znd pc 105
 (zlf pc 104 (s_iload 1 105))
 (zlf pc 105 (s_iast 106)))
 (znd pc 107
 (zlf pc 106 (s_aload 0 107))
 (znd pc 110
 (zlf pc 107 (s_gR 13 2 110))
 (zlf pc 110 (s_aload 0 111)))))
 (znd pc 115
 (znd pc 114
 (zlf pc 111 (s_gI 13 0 114))
 (zlf pc 114 (s_iload 2 115)))
 (znd pc 116
 (zlf pc 115 (s_iast 116))
 (znd pc 117
 (zlf pc 116 (s_aload 0 117))
 (zlf pc 117 (s_gR 13 3 120)))))))
 (znd pc 137
 (znd pc 127
 (znd pc 124
 (znd pc 121
 (zlf pc 120 (s_aload 0 121))
 (zlf pc 121 (s_gI 13 0 124)))
 (znd pc 125
 (zlf pc 124 (s_iload 3 125))
 (znd pc 126
 (zlf pc 125 (s_iast 126))
 (zlf pc 126 (s_aload 0 127)))))
 (znd pc 131
 (znd pc 130
 (zlf pc 127 (s_gR 13 4 130))
 (zlf pc 130 (s_aload 0 131)))
 (znd pc 134
 (zlf pc 131 (s_gI 13 0 134))
 (znd pc 136
 (zlf pc 134 (s_iload 4 136))
 (zlf pc 136 (s_iast 137))))))
 (znd pc 144
 (znd pc 139
 (znd pc 138
 (zlf pc 137 (s_aload 0 138))
 (zlf pc 138 (s_dup 139)))
 (znd pc 142
 (zlf pc 139 (s_gI 13 0 142))
 (znd pc 143
 (zlf pc 142 (s_ic 1 143))
 (zlf pc 143 (s_iadd 144)))))
 (znd pc 151
 (znd pc 147
 (zlf pc 144 (s_pI 13 0 147))
 (znd pc 148
 (zlf pc 147 (s_aload 0 148))
 (zlf pc 148 (s_gI 13 0 151))))
 (znd pc 152
 (zlf pc 151 (s_ic 1 152))
 (znd pc 153
 (zlf pc 152 (s_isub 153))
 (zlf pc 153 (s_rI))))))))
theorem zm_X12_bundle (G : Nat × Nat) (pc : Nat) : zMon (zc_X12_bundle G pc) := (mo_d (mo_d (mo_d (mo_d (mo_d (mo_d (mo_l (mo_iload _ _)) (mo_l (mo_cI _ _ _ _ zPre_S zHm_0))) (mo_d (mo_l (mo_ifeq _ _)) (mo_d (mo_l (mo_iload _ _)) (mo_l (mo_cI _ _ _ _ zPre_S zHm_0))))) (mo_d (mo_d (mo_l (mo_ifeq _ _)) (mo_l (mo_ic _ _))) (mo_d (mo_l (mo_goto _)) (mo_d (mo_l (mo_ic _ _)) (mo_l (mo_istore _ _)))))) (mo_d (mo_d (mo_d (mo_l (mo_iload _ _)) (mo_l (mo_iload _ _))) (mo_d (mo_l (mo_cmpeq _ _)) (mo_d (mo_l (mo_iload _ _)) (mo_l (mo_ic _ _))))) (mo_d (mo_d (mo_l (mo_ic _ _)) (mo_l (mo_cI _ _ _ _ zPre_S zHm_0))) (mo_d (mo_l (mo_ifeq _ _)) (mo_d (mo_l (mo_iload _ _)) (mo_l (mo_ic _ _))))))) (mo_d (mo_d (mo_d (mo_d (mo_l (mo_ic _ _)) (mo_l (mo_cI _ _ _ _ zPre_S zHm_0))) (mo_d (mo_l (mo_ifeq _ _)) (mo_d (mo_l (mo_ic _ _)) (mo_l (mo_goto _))))) (mo_d (mo_d (mo_l (mo_ic _ _)) (mo_l (mo_istore _ _))) (mo_d (mo_l (mo_aload _ _)) (mo_d (mo_l (mo_iload _ _)) (mo_l (mo_ifne _ _)))))) (mo_d (mo_d (mo_d (mo_l (mo_ic _ _)) (mo_l (mo_goto _))) (mo_d (mo_l (mo_iload _ _)) (mo_d (mo_l (mo_ifne _ _)) (mo_l (mo_ic _ _))))) (mo_d (mo_d (mo_l (mo_goto _)) (mo_d (mo_l (mo_aload _ _)) (mo_l (mo_gI _ _ _)))) (mo_d (mo_l (mo_ic _ _)) (mo_d (mo_l (mo_cmpne _ _)) (mo_l (mo_ic _ _)))))))) (mo_d (mo_d (mo_d (mo_d (mo_d (mo_l (mo_goto _)) (mo_l (mo_ic _ _))) (mo_d (mo_l (mo_cI _ _ _ _ (zPre_V _) zHm_0)) (mo_d (mo_l (mo_ifeq _ _)) (mo_l (mo_ic _ _))))) (mo_d (mo_d (mo_l (mo_rI)) (mo_l (mo_aload _ _))) (mo_d (mo_l (mo_gR _ _ _)) (mo_d (mo_l (mo_aload _ _)) (mo_l (mo_gI _ _ _)))))) (mo_d (mo_d (mo_d (mo_l (mo_iload _ _)) (mo_l (mo_iast _))) (mo_d (mo_l (mo_aload _ _)) (mo_d (mo_l (mo_gR _ _ _)) (mo_l (mo_aload _ _))))) (mo_d (mo_d (mo_l (mo_gI _ _ _)) (mo_l (mo_iload _ _))) (mo_d (mo_l (mo_iast _)) (mo_d (mo_l (mo_aload _ _)) (mo_l (mo_gR _ _ _))))))) (mo_d (mo_d (mo_d (mo_d (mo_l (mo_aload _ _)) (mo_l (mo_gI _ _ _))) (mo_d (mo_l (mo_iload _ _)) (mo_d (mo_l (mo_iast _)) (mo_l (mo_aload _ _))))) (mo_d (mo_d (mo_l (mo_gR _ _ _)) (mo_l (mo_aload _ _))) (mo_d (mo_l (mo_gI _ _ _)) (mo_d (mo_l (mo_iload _ _)) (mo_l (mo_iast _)))))) (mo_d (mo_d (mo_d (mo_l (mo_aload _ _)) (mo_l (mo_dup _))) (mo_d (mo_l (mo_gI _ _ _)) (mo_d (mo_l (mo_ic _ _)) (mo_l (mo_iadd _))))) (mo_d (mo_d (mo_l (mo_pI _ _ _)) (mo_d (mo_l (mo_aload _ _)) (mo_l (mo_gI _ _ _)))) (mo_d (mo_l (mo_ic _ _)) (mo_d (mo_l (mo_isub _)) (mo_l (mo_rI)))))))))
def zc_X12_thrown (G : Nat × Nat) : Nat → zSem := fun pc =>
 znd pc 1
 (zlf pc 0 (s_aload 0 1))
 (znd pc 4
 (zlf pc 1 (s_gI 13 44 4))
 (zlf pc 4 (s_rI)))
theorem zm_X12_thrown (G : Nat × Nat) (pc : Nat) : zMon (zc_X12_thrown G pc) := (mo_d (mo_l (mo_aload _ _)) (mo_d (mo_l (mo_gI _ _ _)) (mo_l (mo_rI))))
def zc_X2_init (G : Nat × Nat) : Nat → zSem := fun pc =>
 znd pc 11
 (znd pc 5
 (znd pc 1
 (zlf pc 0 (s_aload 0 1))
 (znd pc 4
 (zlf pc 1 (s_obj 4))
 (zlf pc 4 (s_aload 0 5))))
 (znd pc 9
 (znd pc 6
 (zlf pc 5 (s_ic (-1) 6))
 (zlf pc 6 (s_pI 3 3 9)))
 (znd pc 10
 (zlf pc 9 (s_aload 0 10))
 (zlf pc 10 (s_iload 1 11)))))
 (znd pc 19
 (znd pc 15
 (znd pc 14
 (zlf pc 11 (s_pI 3 0 14))
 (zlf pc 14 (s_aload 0 15)))
 (znd pc 16
 (zlf pc 15 (s_iload 2 16))
 (zlf pc 16 (s_pI 3 1 19))))
 (znd pc 21
 (znd pc 20
 (zlf pc 19 (s_aload 0 20))
 (zlf pc 20 (s_iload 3 21)))
 (znd pc 24
 (zlf pc 21 (s_pI 3 2 24))
 (zlf pc 24 (s_rV)))))
theorem zm_X2_init (G : Nat × Nat) (pc : Nat) : zMon (zc_X2_init G pc) := (mo_d (mo_d (mo_d (mo_l (mo_aload _ _)) (mo_d (mo_l (mo_obj _)) (mo_l (mo_aload _ _)))) (mo_d (mo_d (mo_l (mo_ic _ _)) (mo_l (mo_pI _ _ _))) (mo_d (mo_l (mo_aload _ _)) (mo_l (mo_iload _ _))))) (mo_d (mo_d (mo_d (mo_l (mo_pI _ _ _)) (mo_l (mo_aload _ _))) (mo_d (mo_l (mo_iload _ _)) (mo_l (mo_pI _ _ _)))) (mo_d (mo_d (mo_l (mo_aload _ _)) (mo_l (mo_iload _ _))) (mo_d (mo_l (mo_pI _ _ _)) (mo_l (mo_rV))))))
def zc_X4_addConnector (G : Nat × Nat) : Nat → zSem := fun pc =>
 znd pc 14
 (znd pc 8
 (znd pc 4
 (znd pc 1
 (zlf pc 0 (s_aload 0 1))
 (zlf pc 1 (s_gR 5 1 4)))
 (znd pc 7
 (zlf pc 4 (s_new 3 5 [.int 0, .int 0, .int 0, .int 0, .int 0] 7))
 (zlf pc 7 (s_dup 8))))
 (znd pc 10
 (znd pc 9
 (zlf pc 8 (s_iload 1 9))
 (zlf pc 9 (s_iload 2 10)))
 (znd pc 11
 (zlf pc 10 (s_iload 3 11))
 (zlf pc 11 (s_cV zpI 36 4 [] zx0 14)))))
 (znd pc 22
 (znd pc 18
 (znd pc 17
 (zlf pc 14 (s_cI (zpV 0) 27 2 [] zx0 17))
 (zlf pc 17 (s_pop 18)))
 (znd pc 19
 (zlf pc 18 (s_aload 0 19))
 (zlf pc 19 (s_gR 5 1 22))))
 (znd pc 26
 (znd pc 25
 (zlf pc 22 (s_cI (zpV 0) 16 1 [] zx0 25))
 (zlf pc 25 (s_ic 1 26)))
 (znd pc 27
 (zlf pc 26 (s_isub 27))
 (zlf pc 27 (s_rI)))))
theorem zm_X4_addConnector (G : Nat × Nat) (pc : Nat) : zMon (zc_X4_addConnector G pc) := (mo_d (mo_d (mo_d (mo_d (mo_l (mo_aload _ _)) (mo_l (mo_gR _ _ _))) (mo_d (mo_l (mo_new _ _ _ _)) (mo_l (mo_dup _)))) (mo_d (mo_d (mo_l (mo_iload _ _)) (mo_l (mo_iload _ _))) (mo_d (mo_l (mo_iload _ _)) (mo_l (mo_cV _ _ _ _ zPre_I zHm_0))))) (mo_d (mo_d (mo_d (mo_l (mo_cI _ _ _ _ (zPre_V _) zHm_0)) (mo_l (mo_pop _))) (mo_d (mo_l (mo_aload _ _)) (mo_l (mo_gR _ _ _)))) (mo_d (mo_d (mo_l (mo_cI _ _ _ _ (zPre_V _) zHm_0)) (mo_l (mo_ic _ _))) (mo_d (mo_l (mo_isub _)) (mo_l (mo_rI))))))
def zc_X11_connector (G : Nat × Nat) : Nat → zSem := fun pc =>
 znd pc 34
 (znd pc 16
 (znd pc 9
 (znd pc 3
 (znd pc 1
 (zlf pc 0 (s_iload 1 1))
 (zlf pc 1 (s_ic 8 3)))
 (znd pc 6
 (zlf pc 3 (s_cI zpS 12 2 [] zx0 6))
 (zlf pc 6 (s_cV zpS 13 1 [] zx0 9))))
 (znd pc 11
 (znd pc 10
 (zlf pc 9 (s_iload 2 10))
 (zlf pc 10 (s_ic 1 11)))
 (znd pc 13
 (zlf pc 11 (s_ic 8 13))
 (zlf pc 13 (s_cI zpS 14 3 [] zx0 16)))))
 (znd pc 23
 (znd pc 20
 (znd pc 19
 (zlf pc 16 (s_ifeq 33 19))
 (zlf pc 19 (s_iload 3 20)))
 (znd pc 21
 (zlf pc 20 (s_ic 0 21))
 (zlf pc 21 (s_ic 9 23))))
 (znd pc 29
 (znd pc 26
 (zlf pc 23 (s_cI zpS 14 3 [] zx0 26))
 (zlf pc 26 (s_ifeq 33 29)))
 (znd pc 30
 (zlf pc 29 (s_ic 1 30))
 (znd pc 33
 (zlf pc 30 (s_goto 34))
 (zlf pc 33 (s_ic 0 34)))))))
 (znd pc 56
 (znd pc 44
 (znd pc 38
 (znd pc 37
 (zlf pc 34 (s_cV zpS 15 1 [] zx0 37))
 (zlf pc 37 (s_aload 0 38)))
 (znd pc 41
 (zlf pc 38 (s_gR 12 0 41))
 (zlf pc 41 (s_gR 5 1 44))))
 (znd pc 49
 (znd pc 47
 (zlf pc 44 (s_cI (zpV 0) 16 1 [] zx0 47))
 (zlf pc 47 (s_ic 8 49)))
 (znd pc 52
 (zlf pc 49 (s_cmpge 56 52))
 (znd pc 53
 (zlf pc 52 (s_ic 1 53))
 (zlf pc 53 (s_goto 57))))))
 (znd pc 64
 (znd pc 60
 (znd pc 57
 (zlf pc 56 (s_ic 0 57))
 (zlf pc 57 (s_cV zpS 17 1 [] zx0 60)))
 (znd pc 61
 (zlf pc 60 (s_aload 0 61))
 (zlf pc 61 (s_gR 12 0 64))))
 (znd pc 66
 (znd pc 65
 (zlf pc 64 (s_iload 1 65))
 (zlf pc 65 (s_iload 2 66)))
 (znd pc 67
 (zlf pc 66 (s_iload 3 67))
 (znd pc 70
 (zlf pc 67 (s_cI (zpV 5) 37 4 [] zx0 70))
 (zlf pc 70 (s_rI)))))))
theorem zm_X11_connector (G : Nat × Nat) (pc : Nat) : zMon (zc_X11_connector G pc) := (mo_d (mo_d (mo_d (mo_d (mo_d (mo_l (mo_iload _ _)) (mo_l (mo_ic _ _))) (mo_d (mo_l (mo_cI _ _ _ _ zPre_S zHm_0)) (mo_l (mo_cV _ _ _ _ zPre_S zHm_0)))) (mo_d (mo_d (mo_l (mo_iload _ _)) (mo_l (mo_ic _ _))) (mo_d (mo_l (mo_ic _ _)) (mo_l (mo_cI _ _ _ _ zPre_S zHm_0))))) (mo_d (mo_d (mo_d (mo_l (mo_ifeq _ _)) (mo_l (mo_iload _ _))) (mo_d (mo_l (mo_ic _ _)) (mo_l (mo_ic _ _)))) (mo_d (mo_d (mo_l (mo_cI _ _ _ _ zPre_S zHm_0)) (mo_l (mo_ifeq _ _))) (mo_d (mo_l (mo_ic _ _)) (mo_d (mo_l (mo_goto _)) (mo_l (mo_ic _ _))))))) (mo_d (mo_d (mo_d (mo_d (mo_l (mo_cV _ _ _ _ zPre_S zHm_0)) (mo_l (mo_aload _ _))) (mo_d (mo_l (mo_gR _ _ _)) (mo_l (mo_gR _ _ _)))) (mo_d (mo_d (mo_l (mo_cI _ _ _ _ (zPre_V _) zHm_0)) (mo_l (mo_ic _ _))) (mo_d (mo_l (mo_cmpge _ _)) (mo_d (mo_l (mo_ic _ _)) (mo_l (mo_goto _)))))) (mo_d (mo_d (mo_d (mo_l (mo_ic _ _)) (mo_l (mo_cV _ _ _ _ zPre_S zHm_0))) (mo_d (mo_l (mo_aload _ _)) (mo_l (mo_gR _ _ _)))) (mo_d (mo_d (mo_l (mo_iload _ _)) (mo_l (mo_iload _ _))) (mo_d (mo_l (mo_iload _ _)) (mo_d (mo_l (mo_cI _ _ _ _ (zPre_V _) zHm_0)) (mo_l (mo_rI))))))))
def zc_L_connector (G : Nat × Nat) : Nat → zSem := fun pc =>
 znd pc 12
 (znd pc 5
 (znd pc 3
 (znd pc 2
 (zlf pc 0 (s_aload 4 2))
 (zlf pc 2 (s_ic 0 3)))
 (znd pc 4
 (zlf pc 3 (s_aload 0 4))
 (zlf pc 4 (s_iload 1 5))))
 (znd pc 7
 (znd pc 6
 (zlf pc 5 (s_iload 2 6))
 (zlf pc 6 (s_iload 3 7)))
 (znd pc 10
 (zlf pc 7 (s_cI (zpV 12) 38 4 [] (zxc 5 [(0, 17), (1, 21), (2, 25)]) 10))
 (znd pc 11
 (zlf pc 10 (s_i2l 11))
 (zlf pc 11 (s_last 12))))))
 (znd pc 22
 (znd pc 18
 (znd pc 17
 (zlf pc 12 (s_goto 27))
 (zlf pc 17 (s_ic 1 18)))
 (znd pc 21
 (zlf pc 18 (s_rI))
 (zlf pc 21 (s_ic 2 22))))
 (znd pc 26
 (znd pc 25
 (zlf pc 22 (s_rI))
 (zlf pc 25 (s_ic 3 26)))
 (znd pc 27
 (zlf pc 26 (s_rI))
 (znd pc 28
 (zlf pc 27 (s_ic 0 28))
 (zlf pc 28 (s_rI))))))
theorem zm_L_connector (G : Nat × Nat) (pc : Nat) : zMon (zc_L_connector G pc) := (mo_d (mo_d (mo_d (mo_d (mo_l (mo_aload _ _)) (mo_l (mo_ic _ _))) (mo_d (mo_l (mo_aload _ _)) (mo_l (mo_iload _ _)))) (mo_d (mo_d (mo_l (mo_iload _ _)) (mo_l (mo_iload _ _))) (mo_d (mo_l (mo_cI _ _ _ _ (zPre_V _) (zHm_c _ _))) (mo_d (mo_l (mo_i2l _)) (mo_l (mo_last _)))))) (mo_d (mo_d (mo_d (mo_l (mo_goto _)) (mo_l (mo_ic _ _))) (mo_d (mo_l (mo_rI)) (mo_l (mo_ic _ _)))) (mo_d (mo_d (mo_l (mo_rI)) (mo_l (mo_ic _ _))) (mo_d (mo_l (mo_rI)) (mo_d (mo_l (mo_ic _ _)) (mo_l (mo_rI)))))))
def zc_X12_connector (G : Nat × Nat) : Nat → zSem := fun pc =>
 znd pc 65
 (znd pc 29
 (znd pc 14
 (znd pc 7
 (znd pc 2
 (znd pc 1
 (zlf pc 0 (s_iload 2 1))
 (zlf pc 1 (s_ic 1 2)))
 (znd pc 4
 (zlf pc 2 (s_ic 8 4))
 (zlf pc 4 (s_cI zpS 31 3 [] zx0 7))))
 (znd pc 11
 (znd pc 10
 (zlf pc 7 (s_ifeq 24 10))
 (zlf pc 10 (s_iload 3 11)))
 (znd pc 12
 (zlf pc 11 (s_ic 0 12))
 (zlf pc 12 (s_ic 9 14)))))
 (znd pc 24
 (znd pc 20
 (znd pc 17
 (zlf pc 14 (s_cI zpS 31 3 [] zx0 17))
 (zlf pc 17 (s_ifeq 24 20)))
 (znd pc 21
 (zlf pc 20 (s_ic 1 21))
 (zlf pc 21 (s_goto 25))))
 (znd pc 27
 (znd pc 25
 (zlf pc 24 (s_ic 0 25))
 (zlf pc 25 (s_istore 4 27)))
 (znd pc 28
 (zlf pc 27 (s_aload 0 28))
 (zlf pc 28 (s_iload 1 29))))))
 (znd pc 48
 (znd pc 39
 (znd pc 35
 (znd pc 32
 (zlf pc 29 (s_cI zpS 32 1 [] zx0 32))
 (zlf pc 32 (s_ifne 39 35)))
 (znd pc 36
 (zlf pc 35 (s_ic 1 36))
 (zlf pc 36 (s_goto 62))))
 (znd pc 44
 (znd pc 41
 (zlf pc 39 (s_iload 4 41))
 (zlf pc 41 (s_ifne 48 44)))
 (znd pc 45
 (zlf pc 44 (s_ic 2 45))
 (zlf pc 45 (s_goto 62)))))
 (znd pc 57
 (znd pc 52
 (znd pc 49
 (zlf pc 48 (s_aload 0 49))
 (zlf pc 49 (s_gI 13 5 52)))
 (znd pc 54
 (zlf pc 52 (s_ic 8 54))
 (zlf pc 54 (s_cmpne 61 57))))
 (znd pc 61
 (znd pc 58
 (zlf pc 57 (s_ic 3 58))
 (zlf pc 58 (s_goto 62)))
 (znd pc 62
 (zlf pc 61 (s_ic 0 62))
 (zlf pc 62 (s_cI (zpV 13) 33 2 [] zx0 65)))))))
 (znd pc 91
 (znd pc 79
 (znd pc 71
 (znd pc 69
 (znd pc 68
 (zlf pc 65 (s_ifeq 70 68))
 (zlf pc 68 (s_ic 0 69)))
 (znd pc 70
 (zlf pc 69 (s_rI))
 (zlf pc 70 (s_aload 0 71))))
 (znd pc 75
 (znd pc 74
 (zlf pc 71 (s_gR 13 6 74))
 (zlf pc 74 (s_aload 0 75)))
 (znd pc 78
 (zlf pc 75 (s_gI 13 5 78))
 (zlf pc 78 (s_iload 1 79)))))
 (znd pc 85
 (znd pc 81
 (znd pc 80
 (zlf pc 79 (s_iast 80))
 (zlf pc 80 (s_aload 0 81)))
 (znd pc 84
 (zlf pc 81 (s_gR 13 7 84))
 (zlf pc 84 (s_aload 0 85))))
 (znd pc 89
 (znd pc 88
 (zlf pc 85 (s_gI 13 5 88))
 (zlf pc 88 (s_iload 2 89)))
 (znd pc 90
 (zlf pc 89 (s_iast 90))
 (zlf pc 90 (s_aload 0 91))))))
 (znd pc 105
 (znd pc 99
 (znd pc 95
 (znd pc 94
 (zlf pc 91 (s_gR 13 8 94))
 (zlf pc 94 (s_aload 0 95)))
 (znd pc 98
 (zlf pc 95 (s_gI 13 5 98))
 (zlf pc 98 (s_iload 3 99))))
 (znd pc 101
 (znd pc 100
 (zlf pc 99 (s_iast 100))
 (zlf pc 100 (s_aload 0 101)))
 (znd pc 102
 (zlf pc 101 (s_dup 102))
 (zlf pc 102 (s_gI 13 5 105)))))
 (znd pc 111
 (znd pc 107
 (znd pc 106
 (zlf pc 105 (s_ic 1 106))
 (zlf pc 106 (s_iadd 107)))
 (znd pc 110
 (zlf pc 107 (s_pI 13 5 110))
 (zlf pc 110 (s_aload 0 111))))
 (znd pc 115
 (znd pc 114
 (zlf pc 111 (s_gI 13 5 114))
 (zlf pc 114 (s_ic 1 115)))
 (znd pc 116
 (zlf pc 115 (s_isub 116))
 (zlf pc 116 (s_rI)))))))
theorem zm_X12_connector (G : Nat × Nat) (pc : Nat) : zMon (zc_X12_connector G pc) := (mo_d (mo_d (mo_d (mo_d (mo_d (mo_d (mo_l (mo_iload _ _)) (mo_l (mo_ic _ _))) (mo_d (mo_l (mo_ic _ _)) (mo_l (mo_cI _ _ _ _ zPre_S zHm_0)))) (mo_d (mo_d (mo_l (mo_ifeq _ _)) (mo_l (mo_iload _ _))) (mo_d (mo_l (mo_ic _ _)) (mo_l (mo_ic _ _))))) (mo_d (mo_d (mo_d (mo_l (mo_cI _ _ _ _ zPre_S zHm_0)) (mo_l (mo_ifeq _ _))) (mo_d (mo_l (mo_ic _ _)) (mo_l (mo_goto _)))) (mo_d (mo_d (mo_l (mo_ic _ _)) (mo_l (mo_istore _ _))) (mo_d (mo_l (mo_aload _ _)) (mo_l (mo_iload _ _)))))) (mo_d (mo_d (mo_d (mo_d (mo_l (mo_cI _ _ _ _ zPre_S zHm_0)) (mo_l (mo_ifne _ _))) (mo_d (mo_l (mo_ic _ _)) (mo_l (mo_goto _)))) (mo_d (mo_d (mo_l (mo_iload _ _)) (mo_l (mo_ifne _ _))) (mo_d (mo_l (mo_ic _ _)) (mo_l (mo_goto _))))) (mo_d (mo_d (mo_d (mo_l (mo_aload _ _)) (mo_l (mo_gI _ _ _))) (mo_d (mo_l (mo_ic _ _)) (mo_l (mo_cmpne _ _)))) (mo_d (mo_d (mo_l (mo_ic _ _)) (mo_l (mo_goto _))) (mo_d (mo_l (mo_ic _ _)) (mo_l (mo_cI _ _ _ _ (zPre_V _) zHm_0))))))) (mo_d (mo_d (mo_d (mo_d (mo_d (mo_l (mo_ifeq _ _)) (mo_l (mo_ic _ _))) (mo_d (mo_l (mo_rI)) (mo_l (mo_aload _ _)))) (mo_d (mo_d (mo_l (mo_gR _ _ _)) (mo_l (mo_aload _ _))) (mo_d (mo_l (mo_gI _ _ _)) (mo_l (mo_iload _ _))))) (mo_d (mo_d (mo_d (mo_l (mo_iast _)) (mo_l (mo_aload _ _))) (mo_d (mo_l (mo_gR _ _ _)) (mo_l (mo_aload _ _)))) (mo_d (mo_d (mo_l (mo_gI _ _ _)) (mo_l (mo_iload _ _))) (mo_d (mo_l (mo_iast _)) (mo_l (mo_aload _ _)))))) (mo_d (mo_d (mo_d (mo_d (mo_l (mo_gR _ _ _)) (mo_l (mo_aload _ _))) (mo_d (mo_l (mo_gI _ _ _)) (mo_l (mo_iload _ _)))) (mo_d (mo_d (mo_l (mo_iast _)) (mo_l (mo_aload _ _))) (mo_d (mo_l (mo_dup _)) (mo_l (mo_gI _ _ _))))) (mo_d (mo_d (mo_d (mo_l (mo_ic _ _)) (mo_l (mo_iadd _))) (mo_d (mo_l (mo_pI _ _ _)) (mo_l (mo_aload _ _)))) (mo_d (mo_d (mo_l (mo_gI _ _ _)) (mo_l (mo_ic _ _))) (mo_d (mo_l (mo_isub _)) (mo_l (mo_rI))))))))
def zc_J3_checkIndex_8e157 (G : Nat × Nat) : Nat → zSem := fun pc =>
 znd pc 9
 (znd pc 4
 (znd pc 1
 (zlf pc 0 (s_iload 0 1))
 (zlf pc 1 (s_iflt 9 4)))
 (znd pc 5
 (zlf pc 4 (s_iload 0 5))
 (znd pc 6
 (zlf pc 5 (s_iload 1 6))
 (zlf pc 6 (s_cmplt 16 9)))))
 (znd pc 12
 (znd pc 10
 (zlf pc 9 (s_aload 2 10))
 (znd pc 11
 (zlf pc 10 (s_iload 0 11))
 (zlf pc 11 (s_iload 1 12))))
 (znd pc 16
 (zlf pc 12 (s_no))
 (znd pc 17
 (zlf pc 16 (s_iload 0 17))
 (zlf pc 17 (s_rI)))))
theorem zm_J3_checkIndex_8e157 (G : Nat × Nat) (pc : Nat) : zMon (zc_J3_checkIndex_8e157 G pc) := (mo_d (mo_d (mo_d (mo_l (mo_iload _ _)) (mo_l (mo_iflt _ _))) (mo_d (mo_l (mo_iload _ _)) (mo_d (mo_l (mo_iload _ _)) (mo_l (mo_cmplt _ _))))) (mo_d (mo_d (mo_l (mo_aload _ _)) (mo_d (mo_l (mo_iload _ _)) (mo_l (mo_iload _ _)))) (mo_d (mo_l (mo_no)) (mo_d (mo_l (mo_iload _ _)) (mo_l (mo_rI))))))
def zc_J15_checkIndex_7cf53 (G : Nat × Nat) : Nat → zSem := fun pc =>
 znd pc 2
 (znd pc 1
 (zlf pc 0 (s_iload 0 1))
 (zlf pc 1 (s_iload 1 2)))
 (znd pc 3
 (zlf pc 2 (s_null 3))
 (znd pc 6
 (zlf pc 3 (s_cI zpS 41 3 [] zx0 6))
 (zlf pc 6 (s_rI))))
theorem zm_J15_checkIndex_7cf53 (G : Nat × Nat) (pc : Nat) : zMon (zc_J15_checkIndex_7cf53 G pc) := (mo_d (mo_d (mo_l (mo_iload _ _)) (mo_l (mo_iload _ _))) (mo_d (mo_l (mo_null _)) (mo_d (mo_l (mo_cI _ _ _ _ zPre_S zHm_0)) (mo_l (mo_rI)))))
def zc_Jx4a65c_elementData_915e3 (G : Nat × Nat) : Nat → zSem := fun pc =>
 znd pc 4
 (znd pc 1
 (zlf pc 0 (s_aload 0 1))
 (zlf pc 1 (s_gR 0 1 4)))
 (znd pc 5
 (zlf pc 4 (s_iload 1 5))
 (znd pc 6
 (zlf pc 5 (s_qald 6))
 (zlf pc 6 (s_rR))))
theorem zm_Jx4a65c_elementData_915e3 (G : Nat × Nat) (pc : Nat) : zMon (zc_Jx4a65c_elementData_915e3 G pc) := (mo_d (mo_d (mo_l (mo_aload _ _)) (mo_l (mo_gR _ _ _))) (mo_d (mo_l (mo_iload _ _)) (mo_d (mo_l (mo_qald _)) (mo_l (mo_rR)))))
def zc_Jx4a65c_get_915e3 (G : Nat × Nat) : Nat → zSem := fun pc =>
 znd pc 8
 (znd pc 2
 (znd pc 1
 (zlf pc 0 (s_iload 1 1))
 (zlf pc 1 (s_aload 0 2)))
 (znd pc 5
 (zlf pc 2 (s_gI 0 2 5))
 (zlf pc 5 (s_cI zpS 42 2 [] zx0 8))))
 (znd pc 10
 (znd pc 9
 (zlf pc 8 (s_pop 9))
 (zlf pc 9 (s_aload 0 10)))
 (znd pc 11
 (zlf pc 10 (s_iload 1 11))
 (znd pc 14
 (zlf pc 11 (s_cR (zpV 0) 43 2 [] zx0 14))
 (zlf pc 14 (s_rR)))))
theorem zm_Jx4a65c_get_915e3 (G : Nat × Nat) (pc : Nat) : zMon (zc_Jx4a65c_get_915e3 G pc) := (mo_d (mo_d (mo_d (mo_l (mo_iload _ _)) (mo_l (mo_aload _ _))) (mo_d (mo_l (mo_gI _ _ _)) (mo_l (mo_cI _ _ _ _ zPre_S zHm_0)))) (mo_d (mo_d (mo_l (mo_pop _)) (mo_l (mo_aload _ _))) (mo_d (mo_l (mo_iload _ _)) (mo_d (mo_l (mo_cR _ _ _ _ (zPre_V _) zHm_0)) (mo_l (mo_rR))))))
def zc_X11_connectorAt (G : Nat × Nat) : Nat → zSem := fun pc =>
 znd pc 17
 (znd pc 5
 (znd pc 1
 (zlf pc 0 (s_iload 1 1))
 (znd pc 2
 (zlf pc 1 (s_aload 0 2))
 (zlf pc 2 (s_gR 12 0 5))))
 (znd pc 11
 (znd pc 8
 (zlf pc 5 (s_gR 5 1 8))
 (zlf pc 8 (s_cI (zpV 0) 16 1 [] zx0 11)))
 (znd pc 14
 (zlf pc 11 (s_cI zpS 12 2 [] zx0 14))
 (zlf pc 14 (s_ifne 25 17)))))
 (znd pc 32
 (znd pc 26
 (znd pc 25
 (zlf pc 17 (s_thr 0))
 (zlf pc 25 (s_aload 0 26)))
 (znd pc 29
 (zlf pc 26 (s_gR 12 0 29))
 (zlf pc 29 (s_gR 5 1 32))))
 (znd pc 36
 (znd pc 33
 (zlf pc 32 (s_iload 1 33))
 (zlf pc 33 (s_cR (zpV 0) 44 2 [] zx0 36)))
 (znd pc 39
 (zlf pc 36 (s_cast 3 39))
 (zlf pc 39 (s_rR)))))
theorem zm_X11_connectorAt (G : Nat × Nat) (pc : Nat) : zMon (zc_X11_connectorAt G pc) := (mo_d (mo_d (mo_d (mo_l (mo_iload _ _)) (mo_d (mo_l (mo_aload _ _)) (mo_l (mo_gR _ _ _)))) (mo_d (mo_d (mo_l (mo_gR _ _ _)) (mo_l (mo_cI _ _ _ _ (zPre_V _) zHm_0))) (mo_d (mo_l (mo_cI _ _ _ _ zPre_S zHm_0)) (mo_l (mo_ifne _ _))))) (mo_d (mo_d (mo_d (mo_l (mo_thr _)) (mo_l (mo_aload _ _))) (mo_d (mo_l (mo_gR _ _ _)) (mo_l (mo_gR _ _ _)))) (mo_d (mo_d (mo_l (mo_iload _ _)) (mo_l (mo_cR _ _ _ _ (zPre_V _) zHm_0))) (mo_d (mo_l (mo_cast _ _)) (mo_l (mo_rR))))))
def zc_X2_fits (G : Nat × Nat) : Nat → zSem := fun pc =>
 znd pc 15
 (znd pc 5
 (znd pc 1
 (zlf pc 0 (s_aload 0 1))
 (znd pc 4
 (zlf pc 1 (s_gI 3 1 4))
 (zlf pc 4 (s_aload 1 5))))
 (znd pc 11
 (znd pc 8
 (zlf pc 5 (s_gI 3 1 8))
 (zlf pc 8 (s_cmpne 26 11)))
 (znd pc 12
 (zlf pc 11 (s_aload 0 12))
 (zlf pc 12 (s_gI 3 2 15)))))
 (znd pc 22
 (znd pc 16
 (zlf pc 15 (s_aload 1 16))
 (znd pc 19
 (zlf pc 16 (s_gI 3 2 19))
 (zlf pc 19 (s_cmpne 26 22))))
 (znd pc 26
 (znd pc 23
 (zlf pc 22 (s_ic 1 23))
 (zlf pc 23 (s_goto 27)))
 (znd pc 27
 (zlf pc 26 (s_ic 0 27))
 (zlf pc 27 (s_rZ)))))
theorem zm_X2_fits (G : Nat × Nat) (pc : Nat) : zMon (zc_X2_fits G pc) := (mo_d (mo_d (mo_d (mo_l (mo_aload _ _)) (mo_d (mo_l (mo_gI _ _ _)) (mo_l (mo_aload _ _)))) (mo_d (mo_d (mo_l (mo_gI _ _ _)) (mo_l (mo_cmpne _ _))) (mo_d (mo_l (mo_aload _ _)) (mo_l (mo_gI _ _ _))))) (mo_d (mo_d (mo_l (mo_aload _ _)) (mo_d (mo_l (mo_gI _ _ _)) (mo_l (mo_cmpne _ _)))) (mo_d (mo_d (mo_l (mo_ic _ _)) (mo_l (mo_goto _))) (mo_d (mo_l (mo_ic _ _)) (mo_l (mo_rZ))))))
def zc_X4_pairsThatFitWrong (G : Nat × Nat) : Nat → zSem := fun pc =>
 znd pc 35
 (znd pc 16
 (znd pc 5
 (znd pc 2
 (znd pc 1
 (zlf pc 0 (s_ic 0 1))
 (zlf pc 1 (s_istore 1 2)))
 (znd pc 3
 (zlf pc 2 (s_ic 0 3))
 (znd pc 4
 (zlf pc 3 (s_istore 2 4))
 (zlf pc 4 (s_iload 2 5)))))
 (znd pc 9
 (znd pc 6
 (zlf pc 5 (s_aload 0 6))
 (zlf pc 6 (s_gR 5 1 9)))
 (znd pc 12
 (zlf pc 9 (s_cI (zpV 0) 16 1 [] zx0 12))
 (znd pc 15
 (zlf pc 12 (s_cmpge 87 15))
 (zlf pc 15 (s_aload 0 16))))))
 (znd pc 27
 (znd pc 20
 (znd pc 19
 (zlf pc 16 (s_gR 5 1 19))
 (zlf pc 19 (s_iload 2 20)))
 (znd pc 23
 (zlf pc 20 (s_cR (zpV 0) 44 2 [] zx0 23))
 (znd pc 26
 (zlf pc 23 (s_cast 3 26))
 (zlf pc 26 (s_astore 3 27)))))
 (znd pc 30
 (znd pc 28
 (zlf pc 27 (s_iload 2 28))
 (znd pc 29
 (zlf pc 28 (s_ic 1 29))
 (zlf pc 29 (s_iadd 30))))
 (znd pc 32
 (zlf pc 30 (s_istore 4 32))
 (znd pc 34
 (zlf pc 32 (s_iload 4 34))
 (zlf pc 34 (s_aload 0 35)))))))
 (znd pc 63
 (znd pc 46
 (znd pc 41
 (znd pc 38
 (zlf pc 35 (s_gR 5 1 38))
 (zlf pc 38 (s_cI (zpV 0) 16 1 [] zx0 41)))
 (znd pc 44
 (zlf pc 41 (s_cmpge 81 44))
 (znd pc 45
 (zlf pc 44 (s_aload 3 45))
 (zlf pc 45 (s_aload 0 46)))))
 (znd pc 54
 (znd pc 49
 (zlf pc 46 (s_gR 5 1 49))
 (znd pc 51
 (zlf pc 49 (s_iload 4 51))
 (zlf pc 51 (s_cR (zpV 0) 44 2 [] zx0 54))))
 (znd pc 57
 (zlf pc 54 (s_cast 3 57))
 (znd pc 60
 (zlf pc 57 (s_cI (zpV 3) 46 2 [] zx0 60))
 (zlf pc 60 (s_ifeq 75 63))))))
 (znd pc 75
 (znd pc 67
 (znd pc 64
 (zlf pc 63 (s_aload 3 64))
 (zlf pc 64 (s_gI 3 3 67)))
 (znd pc 69
 (zlf pc 67 (s_iload 4 69))
 (znd pc 72
 (zlf pc 69 (s_cmpeq 75 72))
 (zlf pc 72 (s_iinc 1 1 75)))))
 (znd pc 84
 (znd pc 78
 (zlf pc 75 (s_iinc 4 1 78))
 (znd pc 81
 (zlf pc 78 (s_goto 32))
 (zlf pc 81 (s_iinc 2 1 84))))
 (znd pc 87
 (zlf pc 84 (s_goto 4))
 (znd pc 88
 (zlf pc 87 (s_iload 1 88))
 (zlf pc 88 (s_rI)))))))
theorem zm_X4_pairsThatFitWrong (G : Nat × Nat) (pc : Nat) : zMon (zc_X4_pairsThatFitWrong G pc) := (mo_d (mo_d (mo_d (mo_d (mo_d (mo_l (mo_ic _ _)) (mo_l (mo_istore _ _))) (mo_d (mo_l (mo_ic _ _)) (mo_d (mo_l (mo_istore _ _)) (mo_l (mo_iload _ _))))) (mo_d (mo_d (mo_l (mo_aload _ _)) (mo_l (mo_gR _ _ _))) (mo_d (mo_l (mo_cI _ _ _ _ (zPre_V _) zHm_0)) (mo_d (mo_l (mo_cmpge _ _)) (mo_l (mo_aload _ _)))))) (mo_d (mo_d (mo_d (mo_l (mo_gR _ _ _)) (mo_l (mo_iload _ _))) (mo_d (mo_l (mo_cR _ _ _ _ (zPre_V _) zHm_0)) (mo_d (mo_l (mo_cast _ _)) (mo_l (mo_astore _ _))))) (mo_d (mo_d (mo_l (mo_iload _ _)) (mo_d (mo_l (mo_ic _ _)) (mo_l (mo_iadd _)))) (mo_d (mo_l (mo_istore _ _)) (mo_d (mo_l (mo_iload _ _)) (mo_l (mo_aload _ _))))))) (mo_d (mo_d (mo_d (mo_d (mo_l (mo_gR _ _ _)) (mo_l (mo_cI _ _ _ _ (zPre_V _) zHm_0))) (mo_d (mo_l (mo_cmpge _ _)) (mo_d (mo_l (mo_aload _ _)) (mo_l (mo_aload _ _))))) (mo_d (mo_d (mo_l (mo_gR _ _ _)) (mo_d (mo_l (mo_iload _ _)) (mo_l (mo_cR _ _ _ _ (zPre_V _) zHm_0)))) (mo_d (mo_l (mo_cast _ _)) (mo_d (mo_l (mo_cI _ _ _ _ (zPre_V _) zHm_0)) (mo_l (mo_ifeq _ _)))))) (mo_d (mo_d (mo_d (mo_l (mo_aload _ _)) (mo_l (mo_gI _ _ _))) (mo_d (mo_l (mo_iload _ _)) (mo_d (mo_l (mo_cmpeq _ _)) (mo_l (mo_iinc _ _ _))))) (mo_d (mo_d (mo_l (mo_iinc _ _ _)) (mo_d (mo_l (mo_goto _)) (mo_l (mo_iinc _ _ _)))) (mo_d (mo_l (mo_goto _)) (mo_d (mo_l (mo_iload _ _)) (mo_l (mo_rI))))))))
def zc_X11_mates (G : Nat × Nat) : Nat → zSem := fun pc =>
 znd pc 36
 (znd pc 15
 (znd pc 7
 (znd pc 2
 (znd pc 1
 (zlf pc 0 (s_aload 0 1))
 (zlf pc 1 (s_iload 1 2)))
 (znd pc 5
 (zlf pc 2 (s_cR (zpV 12) 45 2 [] zx0 5))
 (znd pc 6
 (zlf pc 5 (s_astore 3 6))
 (zlf pc 6 (s_aload 0 7)))))
 (znd pc 11
 (znd pc 8
 (zlf pc 7 (s_iload 2 8))
 (zlf pc 8 (s_cR (zpV 12) 45 2 [] zx0 11)))
 (znd pc 13
 (zlf pc 11 (s_astore 4 13))
 (znd pc 14
 (zlf pc 13 (s_iload 1 14))
 (zlf pc 14 (s_iload 2 15))))))
 (znd pc 26
 (znd pc 19
 (znd pc 18
 (zlf pc 15 (s_cmpeq 22 18))
 (zlf pc 18 (s_ic 1 19)))
 (znd pc 22
 (zlf pc 19 (s_goto 23))
 (znd pc 23
 (zlf pc 22 (s_ic 0 23))
 (zlf pc 23 (s_cV zpS 15 1 [] zx0 26)))))
 (znd pc 29
 (znd pc 27
 (zlf pc 26 (s_aload 3 27))
 (zlf pc 27 (s_aload 4 29)))
 (znd pc 32
 (zlf pc 29 (s_cI (zpV 3) 46 2 [] zx0 32))
 (znd pc 35
 (zlf pc 32 (s_ifeq 56 35))
 (zlf pc 35 (s_aload 3 36)))))))
 (znd pc 57
 (znd pc 48
 (znd pc 40
 (znd pc 39
 (zlf pc 36 (s_gI 3 3 39))
 (zlf pc 39 (s_ic (-1) 40)))
 (znd pc 43
 (zlf pc 40 (s_cmpne 56 43))
 (znd pc 45
 (zlf pc 43 (s_aload 4 45))
 (zlf pc 45 (s_gI 3 3 48)))))
 (znd pc 52
 (znd pc 49
 (zlf pc 48 (s_ic (-1) 49))
 (zlf pc 49 (s_cmpne 56 52)))
 (znd pc 53
 (zlf pc 52 (s_ic 1 53))
 (znd pc 56
 (zlf pc 53 (s_goto 57))
 (zlf pc 56 (s_ic 0 57))))))
 (znd pc 67
 (znd pc 61
 (znd pc 60
 (zlf pc 57 (s_cV zpS 17 1 [] zx0 60))
 (zlf pc 60 (s_aload 3 61)))
 (znd pc 62
 (zlf pc 61 (s_iload 2 62))
 (znd pc 65
 (zlf pc 62 (s_pI 3 3 65))
 (zlf pc 65 (s_aload 4 67)))))
 (znd pc 72
 (znd pc 68
 (zlf pc 67 (s_iload 1 68))
 (znd pc 71
 (zlf pc 68 (s_pI 3 3 71))
 (zlf pc 71 (s_aload 0 72))))
 (znd pc 75
 (zlf pc 72 (s_gR 12 0 75))
 (znd pc 78
 (zlf pc 75 (s_cI (zpV 5) 47 1 [zU, zU, zU, zU] zx0 78))
 (zlf pc 78 (s_rI)))))))
theorem zm_X11_mates (G : Nat × Nat) (pc : Nat) : zMon (zc_X11_mates G pc) := (mo_d (mo_d (mo_d (mo_d (mo_d (mo_l (mo_aload _ _)) (mo_l (mo_iload _ _))) (mo_d (mo_l (mo_cR _ _ _ _ (zPre_V _) zHm_0)) (mo_d (mo_l (mo_astore _ _)) (mo_l (mo_aload _ _))))) (mo_d (mo_d (mo_l (mo_iload _ _)) (mo_l (mo_cR _ _ _ _ (zPre_V _) zHm_0))) (mo_d (mo_l (mo_astore _ _)) (mo_d (mo_l (mo_iload _ _)) (mo_l (mo_iload _ _)))))) (mo_d (mo_d (mo_d (mo_l (mo_cmpeq _ _)) (mo_l (mo_ic _ _))) (mo_d (mo_l (mo_goto _)) (mo_d (mo_l (mo_ic _ _)) (mo_l (mo_cV _ _ _ _ zPre_S zHm_0))))) (mo_d (mo_d (mo_l (mo_aload _ _)) (mo_l (mo_aload _ _))) (mo_d (mo_l (mo_cI _ _ _ _ (zPre_V _) zHm_0)) (mo_d (mo_l (mo_ifeq _ _)) (mo_l (mo_aload _ _))))))) (mo_d (mo_d (mo_d (mo_d (mo_l (mo_gI _ _ _)) (mo_l (mo_ic _ _))) (mo_d (mo_l (mo_cmpne _ _)) (mo_d (mo_l (mo_aload _ _)) (mo_l (mo_gI _ _ _))))) (mo_d (mo_d (mo_l (mo_ic _ _)) (mo_l (mo_cmpne _ _))) (mo_d (mo_l (mo_ic _ _)) (mo_d (mo_l (mo_goto _)) (mo_l (mo_ic _ _)))))) (mo_d (mo_d (mo_d (mo_l (mo_cV _ _ _ _ zPre_S zHm_0)) (mo_l (mo_aload _ _))) (mo_d (mo_l (mo_iload _ _)) (mo_d (mo_l (mo_pI _ _ _)) (mo_l (mo_aload _ _))))) (mo_d (mo_d (mo_l (mo_iload _ _)) (mo_d (mo_l (mo_pI _ _ _)) (mo_l (mo_aload _ _)))) (mo_d (mo_l (mo_gR _ _ _)) (mo_d (mo_l (mo_cI _ _ _ _ (zPre_V _) zHm_0)) (mo_l (mo_rI))))))))
def zc_L_mates (G : Nat × Nat) : Nat → zSem := fun pc =>
 znd pc 10
 (znd pc 4
 (znd pc 2
 (znd pc 1
 (zlf pc 0 (s_aload 3 1))
 (zlf pc 1 (s_ic 0 2)))
 (znd pc 3
 (zlf pc 2 (s_aload 0 3))
 (zlf pc 3 (s_iload 1 4))))
 (znd pc 8
 (znd pc 5
 (zlf pc 4 (s_iload 2 5))
 (zlf pc 5 (s_cI (zpV 12) 48 3 [zU, zU] (zxc 4 [(0, 15), (1, 19), (2, 23)]) 8)))
 (znd pc 9
 (zlf pc 8 (s_i2l 9))
 (zlf pc 9 (s_last 10)))))
 (znd pc 20
 (znd pc 16
 (znd pc 15
 (zlf pc 10 (s_goto 25))
 (zlf pc 15 (s_ic 1 16)))
 (znd pc 19
 (zlf pc 16 (s_rI))
 (zlf pc 19 (s_ic 2 20))))
 (znd pc 24
 (znd pc 23
 (zlf pc 20 (s_rI))
 (zlf pc 23 (s_ic 3 24)))
 (znd pc 25
 (zlf pc 24 (s_rI))
 (znd pc 26
 (zlf pc 25 (s_ic 0 26))
 (zlf pc 26 (s_rI))))))
theorem zm_L_mates (G : Nat × Nat) (pc : Nat) : zMon (zc_L_mates G pc) := (mo_d (mo_d (mo_d (mo_d (mo_l (mo_aload _ _)) (mo_l (mo_ic _ _))) (mo_d (mo_l (mo_aload _ _)) (mo_l (mo_iload _ _)))) (mo_d (mo_d (mo_l (mo_iload _ _)) (mo_l (mo_cI _ _ _ _ (zPre_V _) (zHm_c _ _)))) (mo_d (mo_l (mo_i2l _)) (mo_l (mo_last _))))) (mo_d (mo_d (mo_d (mo_l (mo_goto _)) (mo_l (mo_ic _ _))) (mo_d (mo_l (mo_rI)) (mo_l (mo_ic _ _)))) (mo_d (mo_d (mo_l (mo_rI)) (mo_l (mo_ic _ _))) (mo_d (mo_l (mo_rI)) (mo_d (mo_l (mo_ic _ _)) (mo_l (mo_rI)))))))
def zc_X12_isConnector (G : Nat × Nat) : Nat → zSem := fun pc =>
 znd pc 6
 (znd pc 2
 (znd pc 1
 (zlf pc 0 (s_iload 1 1))
 (zlf pc 1 (s_ic 0 2)))
 (znd pc 3
 (zlf pc 2 (s_aload 0 3))
 (zlf pc 3 (s_gI 13 5 6))))
 (znd pc 8
 (znd pc 7
 (zlf pc 6 (s_ic 1 7))
 (zlf pc 7 (s_isub 8)))
 (znd pc 11
 (zlf pc 8 (s_cI zpS 31 3 [] zx0 11))
 (zlf pc 11 (s_rZ))))
theorem zm_X12_isConnector (G : Nat × Nat) (pc : Nat) : zMon (zc_X12_isConnector G pc) := (mo_d (mo_d (mo_d (mo_l (mo_iload _ _)) (mo_l (mo_ic _ _))) (mo_d (mo_l (mo_aload _ _)) (mo_l (mo_gI _ _ _)))) (mo_d (mo_d (mo_l (mo_ic _ _)) (mo_l (mo_isub _))) (mo_d (mo_l (mo_cI _ _ _ _ zPre_S zHm_0)) (mo_l (mo_rZ)))))
def zc_X12_fit (G : Nat × Nat) : Nat → zSem := fun pc =>
 znd pc 19
 (znd pc 7
 (znd pc 4
 (znd pc 1
 (zlf pc 0 (s_aload 0 1))
 (zlf pc 1 (s_gR 13 7 4)))
 (znd pc 5
 (zlf pc 4 (s_iload 1 5))
 (znd pc 6
 (zlf pc 5 (s_iald 6))
 (zlf pc 6 (s_aload 0 7)))))
 (znd pc 12
 (znd pc 10
 (zlf pc 7 (s_gR 13 7 10))
 (znd pc 11
 (zlf pc 10 (s_iload 2 11))
 (zlf pc 11 (s_iald 12))))
 (znd pc 15
 (zlf pc 12 (s_cmpne 34 15))
 (znd pc 16
 (zlf pc 15 (s_aload 0 16))
 (zlf pc 16 (s_gR 13 8 19))))))
 (znd pc 26
 (znd pc 21
 (znd pc 20
 (zlf pc 19 (s_iload 1 20))
 (zlf pc 20 (s_iald 21)))
 (znd pc 22
 (zlf pc 21 (s_aload 0 22))
 (znd pc 25
 (zlf pc 22 (s_gR 13 8 25))
 (zlf pc 25 (s_iload 2 26)))))
 (znd pc 31
 (znd pc 27
 (zlf pc 26 (s_iald 27))
 (znd pc 30
 (zlf pc 27 (s_cmpne 34 30))
 (zlf pc 30 (s_ic 1 31))))
 (znd pc 34
 (zlf pc 31 (s_goto 35))
 (znd pc 35
 (zlf pc 34 (s_ic 0 35))
 (zlf pc 35 (s_rZ))))))
theorem zm_X12_fit (G : Nat × Nat) (pc : Nat) : zMon (zc_X12_fit G pc) := (mo_d (mo_d (mo_d (mo_d (mo_l (mo_aload _ _)) (mo_l (mo_gR _ _ _))) (mo_d (mo_l (mo_iload _ _)) (mo_d (mo_l (mo_iald _)) (mo_l (mo_aload _ _))))) (mo_d (mo_d (mo_l (mo_gR _ _ _)) (mo_d (mo_l (mo_iload _ _)) (mo_l (mo_iald _)))) (mo_d (mo_l (mo_cmpne _ _)) (mo_d (mo_l (mo_aload _ _)) (mo_l (mo_gR _ _ _)))))) (mo_d (mo_d (mo_d (mo_l (mo_iload _ _)) (mo_l (mo_iald _))) (mo_d (mo_l (mo_aload _ _)) (mo_d (mo_l (mo_gR _ _ _)) (mo_l (mo_iload _ _))))) (mo_d (mo_d (mo_l (mo_iald _)) (mo_d (mo_l (mo_cmpne _ _)) (mo_l (mo_ic _ _)))) (mo_d (mo_l (mo_goto _)) (mo_d (mo_l (mo_ic _ _)) (mo_l (mo_rZ)))))))
def zc_X12_mates (G : Nat × Nat) : Nat → zSem := fun pc =>
 znd pc 82
 (znd pc 41
 (znd pc 21
 (znd pc 9
 (znd pc 2
 (znd pc 1
 (zlf pc 0 (s_aload 0 1))
 (zlf pc 1 (s_iload 1 2)))
 (znd pc 5
 (zlf pc 2 (s_cI (zpV 13) 50 2 [] zx0 5))
 (znd pc 8
 (zlf pc 5 (s_ifeq 20 8))
 (zlf pc 8 (s_aload 0 9)))))
 (znd pc 16
 (znd pc 10
 (zlf pc 9 (s_iload 2 10))
 (znd pc 13
 (zlf pc 10 (s_cI (zpV 13) 50 2 [] zx0 13))
 (zlf pc 13 (s_ifeq 20 16))))
 (znd pc 17
 (zlf pc 16 (s_ic 1 17))
 (znd pc 20
 (zlf pc 17 (s_goto 21))
 (zlf pc 20 (s_ic 0 21))))))
 (znd pc 31
 (znd pc 24
 (znd pc 22
 (zlf pc 21 (s_istore 3 22))
 (znd pc 23
 (zlf pc 22 (s_aload 0 23))
 (zlf pc 23 (s_iload 3 24))))
 (znd pc 27
 (zlf pc 24 (s_ifne 31 27))
 (znd pc 28
 (zlf pc 27 (s_ic 1 28))
 (zlf pc 28 (s_goto 74)))))
 (znd pc 36
 (znd pc 32
 (zlf pc 31 (s_iload 1 32))
 (znd pc 33
 (zlf pc 32 (s_iload 2 33))
 (zlf pc 33 (s_cmpne 40 36))))
 (znd pc 37
 (zlf pc 36 (s_ic 2 37))
 (znd pc 40
 (zlf pc 37 (s_goto 74))
 (zlf pc 40 (s_aload 0 41)))))))
 (znd pc 60
 (znd pc 50
 (znd pc 43
 (znd pc 42
 (zlf pc 41 (s_iload 1 42))
 (zlf pc 42 (s_iload 2 43)))
 (znd pc 46
 (zlf pc 43 (s_cI (zpV 13) 51 3 [] zx0 46))
 (znd pc 49
 (zlf pc 46 (s_ifeq 69 49))
 (zlf pc 49 (s_aload 0 50)))))
 (znd pc 55
 (znd pc 53
 (zlf pc 50 (s_gR 13 9 53))
 (znd pc 54
 (zlf pc 53 (s_iload 1 54))
 (zlf pc 54 (s_iald 55))))
 (znd pc 56
 (zlf pc 55 (s_ic (-1) 56))
 (znd pc 59
 (zlf pc 56 (s_cmpne 69 59))
 (zlf pc 59 (s_aload 0 60))))))
 (znd pc 70
 (znd pc 65
 (znd pc 63
 (zlf pc 60 (s_gR 13 9 63))
 (znd pc 64
 (zlf pc 63 (s_iload 2 64))
 (zlf pc 64 (s_iald 65))))
 (znd pc 66
 (zlf pc 65 (s_ic (-1) 66))
 (znd pc 69
 (zlf pc 66 (s_cmpeq 73 69))
 (zlf pc 69 (s_ic 3 70)))))
 (znd pc 77
 (znd pc 73
 (zlf pc 70 (s_goto 74))
 (znd pc 74
 (zlf pc 73 (s_ic 0 74))
 (zlf pc 74 (s_cI (zpV 13) 33 2 [] zx0 77))))
 (znd pc 80
 (zlf pc 77 (s_ifeq 82 80))
 (znd pc 81
 (zlf pc 80 (s_ic 0 81))
 (zlf pc 81 (s_rI))))))))
 (znd pc 121
 (znd pc 97
 (znd pc 89
 (znd pc 86
 (znd pc 83
 (zlf pc 82 (s_aload 0 83))
 (zlf pc 83 (s_gR 13 9 86)))
 (znd pc 87
 (zlf pc 86 (s_iload 1 87))
 (znd pc 88
 (zlf pc 87 (s_iload 2 88))
 (zlf pc 88 (s_iast 89)))))
 (znd pc 94
 (znd pc 90
 (zlf pc 89 (s_aload 0 90))
 (znd pc 93
 (zlf pc 90 (s_gR 13 9 93))
 (zlf pc 93 (s_iload 2 94))))
 (znd pc 95
 (zlf pc 94 (s_iload 1 95))
 (znd pc 96
 (zlf pc 95 (s_iast 96))
 (zlf pc 96 (s_ic 0 97))))))
 (znd pc 108
 (znd pc 102
 (znd pc 99
 (zlf pc 97 (s_istore 4 99))
 (znd pc 100
 (zlf pc 99 (s_ic 0 100))
 (zlf pc 100 (s_istore 5 102))))
 (znd pc 104
 (zlf pc 102 (s_iload 5 104))
 (znd pc 105
 (zlf pc 104 (s_aload 0 105))
 (zlf pc 105 (s_gI 13 5 108)))))
 (znd pc 114
 (znd pc 111
 (zlf pc 108 (s_cmpge 166 111))
 (znd pc 112
 (zlf pc 111 (s_ic 0 112))
 (zlf pc 112 (s_istore 6 114))))
 (znd pc 116
 (zlf pc 114 (s_iload 6 116))
 (znd pc 118
 (zlf pc 116 (s_iload 5 118))
 (zlf pc 118 (s_cmpge 160 121)))))))
 (znd pc 143
 (znd pc 131
 (znd pc 124
 (znd pc 123
 (zlf pc 121 (s_iload 4 123))
 (zlf pc 123 (s_aload 0 124)))
 (znd pc 126
 (zlf pc 124 (s_iload 5 126))
 (znd pc 128
 (zlf pc 126 (s_iload 6 128))
 (zlf pc 128 (s_cI (zpV 13) 51 3 [] zx0 131)))))
 (znd pc 138
 (znd pc 134
 (zlf pc 131 (s_ifeq 150 134))
 (znd pc 135
 (zlf pc 134 (s_aload 0 135))
 (zlf pc 135 (s_gR 13 9 138))))
 (znd pc 140
 (zlf pc 138 (s_iload 5 140))
 (znd pc 141
 (zlf pc 140 (s_iald 141))
 (zlf pc 141 (s_iload 6 143))))))
 (znd pc 154
 (znd pc 150
 (znd pc 146
 (zlf pc 143 (s_cmpeq 150 146))
 (znd pc 147
 (zlf pc 146 (s_ic 1 147))
 (zlf pc 147 (s_goto 151))))
 (znd pc 151
 (zlf pc 150 (s_ic 0 151))
 (znd pc 152
 (zlf pc 151 (s_iadd 152))
 (zlf pc 152 (s_istore 4 154)))))
 (znd pc 163
 (znd pc 157
 (zlf pc 154 (s_iinc 6 1 157))
 (znd pc 160
 (zlf pc 157 (s_goto 114))
 (zlf pc 160 (s_iinc 5 1 163))))
 (znd pc 166
 (zlf pc 163 (s_goto 102))
 (znd pc 168
 (zlf pc 166 (s_iload 4 168))
 (zlf pc 168 (s_rI))))))))
theorem zm_X12_mates (G : Nat × Nat) (pc : Nat) : zMon (zc_X12_mates G pc) := (mo_d (mo_d (mo_d (mo_d (mo_d (mo_d (mo_l (mo_aload _ _)) (mo_l (mo_iload _ _))) (mo_d (mo_l (mo_cI _ _ _ _ (zPre_V _) zHm_0)) (mo_d (mo_l (mo_ifeq _ _)) (mo_l (mo_aload _ _))))) (mo_d (mo_d (mo_l (mo_iload _ _)) (mo_d (mo_l (mo_cI _ _ _ _ (zPre_V _) zHm_0)) (mo_l (mo_ifeq _ _)))) (mo_d (mo_l (mo_ic _ _)) (mo_d (mo_l (mo_goto _)) (mo_l (mo_ic _ _)))))) (mo_d (mo_d (mo_d (mo_l (mo_istore _ _)) (mo_d (mo_l (mo_aload _ _)) (mo_l (mo_iload _ _)))) (mo_d (mo_l (mo_ifne _ _)) (mo_d (mo_l (mo_ic _ _)) (mo_l (mo_goto _))))) (mo_d (mo_d (mo_l (mo_iload _ _)) (mo_d (mo_l (mo_iload _ _)) (mo_l (mo_cmpne _ _)))) (mo_d (mo_l (mo_ic _ _)) (mo_d (mo_l (mo_goto _)) (mo_l (mo_aload _ _))))))) (mo_d (mo_d (mo_d (mo_d (mo_l (mo_iload _ _)) (mo_l (mo_iload _ _))) (mo_d (mo_l (mo_cI _ _ _ _ (zPre_V _) zHm_0)) (mo_d (mo_l (mo_ifeq _ _)) (mo_l (mo_aload _ _))))) (mo_d (mo_d (mo_l (mo_gR _ _ _)) (mo_d (mo_l (mo_iload _ _)) (mo_l (mo_iald _)))) (mo_d (mo_l (mo_ic _ _)) (mo_d (mo_l (mo_cmpne _ _)) (mo_l (mo_aload _ _)))))) (mo_d (mo_d (mo_d (mo_l (mo_gR _ _ _)) (mo_d (mo_l (mo_iload _ _)) (mo_l (mo_iald _)))) (mo_d (mo_l (mo_ic _ _)) (mo_d (mo_l (mo_cmpeq _ _)) (mo_l (mo_ic _ _))))) (mo_d (mo_d (mo_l (mo_goto _)) (mo_d (mo_l (mo_ic _ _)) (mo_l (mo_cI _ _ _ _ (zPre_V _) zHm_0)))) (mo_d (mo_l (mo_ifeq _ _)) (mo_d (mo_l (mo_ic _ _)) (mo_l (mo_rI)))))))) (mo_d (mo_d (mo_d (mo_d (mo_d (mo_l (mo_aload _ _)) (mo_l (mo_gR _ _ _))) (mo_d (mo_l (mo_iload _ _)) (mo_d (mo_l (mo_iload _ _)) (mo_l (mo_iast _))))) (mo_d (mo_d (mo_l (mo_aload _ _)) (mo_d (mo_l (mo_gR _ _ _)) (mo_l (mo_iload _ _)))) (mo_d (mo_l (mo_iload _ _)) (mo_d (mo_l (mo_iast _)) (mo_l (mo_ic _ _)))))) (mo_d (mo_d (mo_d (mo_l (mo_istore _ _)) (mo_d (mo_l (mo_ic _ _)) (mo_l (mo_istore _ _)))) (mo_d (mo_l (mo_iload _ _)) (mo_d (mo_l (mo_aload _ _)) (mo_l (mo_gI _ _ _))))) (mo_d (mo_d (mo_l (mo_cmpge _ _)) (mo_d (mo_l (mo_ic _ _)) (mo_l (mo_istore _ _)))) (mo_d (mo_l (mo_iload _ _)) (mo_d (mo_l (mo_iload _ _)) (mo_l (mo_cmpge _ _))))))) (mo_d (mo_d (mo_d (mo_d (mo_l (mo_iload _ _)) (mo_l (mo_aload _ _))) (mo_d (mo_l (mo_iload _ _)) (mo_d (mo_l (mo_iload _ _)) (mo_l (mo_cI _ _ _ _ (zPre_V _) zHm_0))))) (mo_d (mo_d (mo_l (mo_ifeq _ _)) (mo_d (mo_l (mo_aload _ _)) (mo_l (mo_gR _ _ _)))) (mo_d (mo_l (mo_iload _ _)) (mo_d (mo_l (mo_iald _)) (mo_l (mo_iload _ _)))))) (mo_d (mo_d (mo_d (mo_l (mo_cmpeq _ _)) (mo_d (mo_l (mo_ic _ _)) (mo_l (mo_goto _)))) (mo_d (mo_l (mo_ic _ _)) (mo_d (mo_l (mo_iadd _)) (mo_l (mo_istore _ _))))) (mo_d (mo_d (mo_l (mo_iinc _ _ _)) (mo_d (mo_l (mo_goto _)) (mo_l (mo_iinc _ _ _)))) (mo_d (mo_l (mo_goto _)) (mo_d (mo_l (mo_iload _ _)) (mo_l (mo_rI)))))))))
def zc_X2_isFree (G : Nat × Nat) : Nat → zSem := fun pc =>
 znd pc 7
 (znd pc 4
 (znd pc 1
 (zlf pc 0 (s_aload 0 1))
 (zlf pc 1 (s_gI 3 4 4)))
 (znd pc 5
 (zlf pc 4 (s_ic 1 5))
 (znd pc 6
 (zlf pc 5 (s_iload 1 6))
 (zlf pc 6 (s_ishl 7)))))
 (znd pc 12
 (znd pc 8
 (zlf pc 7 (s_iand 8))
 (znd pc 11
 (zlf pc 8 (s_ifne 15 11))
 (zlf pc 11 (s_ic 1 12))))
 (znd pc 15
 (zlf pc 12 (s_goto 16))
 (znd pc 16
 (zlf pc 15 (s_ic 0 16))
 (zlf pc 16 (s_rZ)))))
theorem zm_X2_isFree (G : Nat × Nat) (pc : Nat) : zMon (zc_X2_isFree G pc) := (mo_d (mo_d (mo_d (mo_l (mo_aload _ _)) (mo_l (mo_gI _ _ _))) (mo_d (mo_l (mo_ic _ _)) (mo_d (mo_l (mo_iload _ _)) (mo_l (mo_ishl _))))) (mo_d (mo_d (mo_l (mo_iand _)) (mo_d (mo_l (mo_ifne _ _)) (mo_l (mo_ic _ _)))) (mo_d (mo_l (mo_goto _)) (mo_d (mo_l (mo_ic _ _)) (mo_l (mo_rZ))))))
def zc_X8_at (G : Nat × Nat) : Nat → zSem := fun pc =>
 znd pc 13
 (znd pc 5
 (znd pc 1
 (zlf pc 0 (s_iload 1 1))
 (znd pc 4
 (zlf pc 1 (s_iflt 22 4))
 (zlf pc 4 (s_iload 1 5))))
 (znd pc 9
 (znd pc 6
 (zlf pc 5 (s_aload 0 6))
 (zlf pc 6 (s_gR 9 0 9)))
 (znd pc 10
 (zlf pc 9 (s_alen 10))
 (zlf pc 10 (s_cmpge 22 13)))))
 (znd pc 18
 (znd pc 14
 (zlf pc 13 (s_aload 0 14))
 (znd pc 17
 (zlf pc 14 (s_gR 9 0 17))
 (zlf pc 17 (s_iload 1 18))))
 (znd pc 22
 (znd pc 19
 (zlf pc 18 (s_iald 19))
 (zlf pc 19 (s_goto 23)))
 (znd pc 23
 (zlf pc 22 (s_ic 0 23))
 (zlf pc 23 (s_rI)))))
theorem zm_X8_at (G : Nat × Nat) (pc : Nat) : zMon (zc_X8_at G pc) := (mo_d (mo_d (mo_d (mo_l (mo_iload _ _)) (mo_d (mo_l (mo_iflt _ _)) (mo_l (mo_iload _ _)))) (mo_d (mo_d (mo_l (mo_aload _ _)) (mo_l (mo_gR _ _ _))) (mo_d (mo_l (mo_alen _)) (mo_l (mo_cmpge _ _))))) (mo_d (mo_d (mo_l (mo_aload _ _)) (mo_d (mo_l (mo_gR _ _ _)) (mo_l (mo_iload _ _)))) (mo_d (mo_d (mo_l (mo_iald _)) (mo_l (mo_goto _))) (mo_d (mo_l (mo_ic _ _)) (mo_l (mo_rI))))))
def zc_X1_cost (G : Nat × Nat) : Nat → zSem := fun pc =>
 znd pc 6
 (znd pc 1
 (zlf pc 0 (s_aload 0 1))
 (znd pc 4
 (zlf pc 1 (s_gI 2 3 4))
 (zlf pc 4 (s_ic 16 6))))
 (znd pc 8
 (znd pc 7
 (zlf pc 6 (s_imul 7))
 (zlf pc 7 (s_ic 1 8)))
 (znd pc 9
 (zlf pc 8 (s_iadd 9))
 (zlf pc 9 (s_rI))))
theorem zm_X1_cost (G : Nat × Nat) (pc : Nat) : zMon (zc_X1_cost G pc) := (mo_d (mo_d (mo_l (mo_aload _ _)) (mo_d (mo_l (mo_gI _ _ _)) (mo_l (mo_ic _ _)))) (mo_d (mo_d (mo_l (mo_imul _)) (mo_l (mo_ic _ _))) (mo_d (mo_l (mo_iadd _)) (mo_l (mo_rI)))))
def zc_X1_across (G : Nat × Nat) : Nat → zSem := fun pc =>
 znd pc 14
 (znd pc 8
 (znd pc 2
 (znd pc 1
 (zlf pc 0 (s_iload 1 1))
 (zlf pc 1 (s_aload 0 2)))
 (znd pc 5
 (zlf pc 2 (s_gI 2 1 5))
 (zlf pc 5 (s_cmpne 13 8))))
 (znd pc 12
 (znd pc 9
 (zlf pc 8 (s_aload 0 9))
 (zlf pc 9 (s_gI 2 2 12)))
 (znd pc 13
 (zlf pc 12 (s_rI))
 (zlf pc 13 (s_iload 1 14)))))
 (znd pc 22
 (znd pc 18
 (znd pc 15
 (zlf pc 14 (s_aload 0 15))
 (zlf pc 15 (s_gI 2 2 18)))
 (znd pc 21
 (zlf pc 18 (s_cmpne 28 21))
 (zlf pc 21 (s_aload 0 22))))
 (znd pc 28
 (znd pc 25
 (zlf pc 22 (s_gI 2 1 25))
 (zlf pc 25 (s_goto 29)))
 (znd pc 29
 (zlf pc 28 (s_ic (-1) 29))
 (zlf pc 29 (s_rI)))))
theorem zm_X1_across (G : Nat × Nat) (pc : Nat) : zMon (zc_X1_across G pc) := (mo_d (mo_d (mo_d (mo_d (mo_l (mo_iload _ _)) (mo_l (mo_aload _ _))) (mo_d (mo_l (mo_gI _ _ _)) (mo_l (mo_cmpne _ _)))) (mo_d (mo_d (mo_l (mo_aload _ _)) (mo_l (mo_gI _ _ _))) (mo_d (mo_l (mo_rI)) (mo_l (mo_iload _ _))))) (mo_d (mo_d (mo_d (mo_l (mo_aload _ _)) (mo_l (mo_gI _ _ _))) (mo_d (mo_l (mo_cmpne _ _)) (mo_l (mo_aload _ _)))) (mo_d (mo_d (mo_l (mo_gI _ _ _)) (mo_l (mo_goto _))) (mo_d (mo_l (mo_ic _ _)) (mo_l (mo_rI))))))
def zc_X4_lowerCost (G : Nat × Nat) : Nat → zSem := fun pc =>
 znd pc 17
 (znd pc 6
 (znd pc 4
 (znd pc 1
 (zlf pc 0 (s_aload 0 1))
 (zlf pc 1 (s_gR 5 3 4)))
 (znd pc 5
 (zlf pc 4 (s_iload 1 5))
 (zlf pc 5 (s_aload 0 6))))
 (znd pc 10
 (znd pc 9
 (zlf pc 6 (s_gR 5 3 9))
 (zlf pc 9 (s_iload 1 10)))
 (znd pc 13
 (zlf pc 10 (s_cI (zpV 9) 54 2 [] zx0 13))
 (znd pc 14
 (zlf pc 13 (s_aload 2 14))
 (zlf pc 14 (s_cI (zpV 2) 55 1 [] zx0 17))))))
 (znd pc 26
 (znd pc 21
 (znd pc 18
 (zlf pc 17 (s_aload 0 18))
 (zlf pc 18 (s_gR 5 3 21)))
 (znd pc 22
 (zlf pc 21 (s_aload 2 22))
 (znd pc 23
 (zlf pc 22 (s_iload 1 23))
 (zlf pc 23 (s_cI (zpV 2) 56 2 [] zx0 26)))))
 (znd pc 30
 (znd pc 29
 (zlf pc 26 (s_cI (zpV 9) 54 2 [] zx0 29))
 (zlf pc 29 (s_iadd 30)))
 (znd pc 33
 (zlf pc 30 (s_cI zpS 21 2 [] zx0 33))
 (znd pc 36
 (zlf pc 33 (s_cV (zpV 9) 7 3 [] zx0 36))
 (zlf pc 36 (s_rV))))))
theorem zm_X4_lowerCost (G : Nat × Nat) (pc : Nat) : zMon (zc_X4_lowerCost G pc) := (mo_d (mo_d (mo_d (mo_d (mo_l (mo_aload _ _)) (mo_l (mo_gR _ _ _))) (mo_d (mo_l (mo_iload _ _)) (mo_l (mo_aload _ _)))) (mo_d (mo_d (mo_l (mo_gR _ _ _)) (mo_l (mo_iload _ _))) (mo_d (mo_l (mo_cI _ _ _ _ (zPre_V _) zHm_0)) (mo_d (mo_l (mo_aload _ _)) (mo_l (mo_cI _ _ _ _ (zPre_V _) zHm_0)))))) (mo_d (mo_d (mo_d (mo_l (mo_aload _ _)) (mo_l (mo_gR _ _ _))) (mo_d (mo_l (mo_aload _ _)) (mo_d (mo_l (mo_iload _ _)) (mo_l (mo_cI _ _ _ _ (zPre_V _) zHm_0))))) (mo_d (mo_d (mo_l (mo_cI _ _ _ _ (zPre_V _) zHm_0)) (mo_l (mo_iadd _))) (mo_d (mo_l (mo_cI _ _ _ _ zPre_S zHm_0)) (mo_d (mo_l (mo_cV _ _ _ _ (zPre_V _) zHm_0)) (mo_l (mo_rV)))))))
def zc_X4_findCosts (G : Nat × Nat) : Nat → zSem := fun pc =>
 znd pc 40
 (znd pc 20
 (znd pc 10
 (znd pc 4
 (znd pc 1
 (zlf pc 0 (s_aload 0 1))
 (zlf pc 1 (s_gR 5 3 4)))
 (znd pc 6
 (zlf pc 4 (s_ic 1000000 6))
 (znd pc 9
 (zlf pc 6 (s_cV (zpV 9) 8 2 [zU] zx0 9))
 (zlf pc 9 (s_aload 0 10)))))
 (znd pc 15
 (znd pc 13
 (zlf pc 10 (s_gR 5 3 13))
 (znd pc 14
 (zlf pc 13 (s_iload 1 14))
 (zlf pc 14 (s_ic 0 15))))
 (znd pc 18
 (zlf pc 15 (s_cV (zpV 9) 7 3 [] zx0 18))
 (znd pc 19
 (zlf pc 18 (s_ic 1 19))
 (zlf pc 19 (s_istore 2 20))))))
 (znd pc 28
 (znd pc 23
 (znd pc 21
 (zlf pc 20 (s_iload 2 21))
 (zlf pc 21 (s_ic 8 23)))
 (znd pc 26
 (zlf pc 23 (s_cmpge 94 26))
 (znd pc 27
 (zlf pc 26 (s_ic 0 27))
 (zlf pc 27 (s_istore 3 28)))))
 (znd pc 33
 (znd pc 29
 (zlf pc 28 (s_iload 3 29))
 (znd pc 30
 (zlf pc 29 (s_aload 0 30))
 (zlf pc 30 (s_gR 5 0 33))))
 (znd pc 36
 (zlf pc 33 (s_cI (zpV 0) 16 1 [] zx0 36))
 (znd pc 39
 (zlf pc 36 (s_cmpge 88 39))
 (zlf pc 39 (s_aload 0 40)))))))
 (znd pc 66
 (znd pc 52
 (znd pc 44
 (znd pc 43
 (zlf pc 40 (s_gR 5 0 43))
 (zlf pc 43 (s_iload 3 44)))
 (znd pc 47
 (zlf pc 44 (s_cR (zpV 0) 44 2 [] zx0 47))
 (znd pc 50
 (zlf pc 47 (s_cast 2 50))
 (zlf pc 50 (s_astore 4 52)))))
 (znd pc 60
 (znd pc 54
 (zlf pc 52 (s_aload 4 54))
 (znd pc 57
 (zlf pc 54 (s_gI 2 4 57))
 (zlf pc 57 (s_ifle 82 60))))
 (znd pc 61
 (zlf pc 60 (s_aload 0 61))
 (znd pc 63
 (zlf pc 61 (s_aload 4 63))
 (zlf pc 63 (s_gI 2 1 66))))))
 (znd pc 79
 (znd pc 72
 (znd pc 68
 (zlf pc 66 (s_aload 4 68))
 (znd pc 71
 (zlf pc 68 (s_cV (zpV 5) 57 3 [] zx0 71))
 (zlf pc 71 (s_aload 0 72))))
 (znd pc 74
 (zlf pc 72 (s_aload 4 74))
 (znd pc 77
 (zlf pc 74 (s_gI 2 2 77))
 (zlf pc 77 (s_aload 4 79)))))
 (znd pc 88
 (znd pc 82
 (zlf pc 79 (s_cV (zpV 5) 57 3 [] zx0 82))
 (znd pc 85
 (zlf pc 82 (s_iinc 3 1 85))
 (zlf pc 85 (s_goto 28))))
 (znd pc 91
 (zlf pc 88 (s_iinc 2 1 91))
 (znd pc 94
 (zlf pc 91 (s_goto 20))
 (zlf pc 94 (s_rV)))))))
theorem zm_X4_findCosts (G : Nat × Nat) (pc : Nat) : zMon (zc_X4_findCosts G pc) := (mo_d (mo_d (mo_d (mo_d (mo_d (mo_l (mo_aload _ _)) (mo_l (mo_gR _ _ _))) (mo_d (mo_l (mo_ic _ _)) (mo_d (mo_l (mo_cV _ _ _ _ (zPre_V _) zHm_0)) (mo_l (mo_aload _ _))))) (mo_d (mo_d (mo_l (mo_gR _ _ _)) (mo_d (mo_l (mo_iload _ _)) (mo_l (mo_ic _ _)))) (mo_d (mo_l (mo_cV _ _ _ _ (zPre_V _) zHm_0)) (mo_d (mo_l (mo_ic _ _)) (mo_l (mo_istore _ _)))))) (mo_d (mo_d (mo_d (mo_l (mo_iload _ _)) (mo_l (mo_ic _ _))) (mo_d (mo_l (mo_cmpge _ _)) (mo_d (mo_l (mo_ic _ _)) (mo_l (mo_istore _ _))))) (mo_d (mo_d (mo_l (mo_iload _ _)) (mo_d (mo_l (mo_aload _ _)) (mo_l (mo_gR _ _ _)))) (mo_d (mo_l (mo_cI _ _ _ _ (zPre_V _) zHm_0)) (mo_d (mo_l (mo_cmpge _ _)) (mo_l (mo_aload _ _))))))) (mo_d (mo_d (mo_d (mo_d (mo_l (mo_gR _ _ _)) (mo_l (mo_iload _ _))) (mo_d (mo_l (mo_cR _ _ _ _ (zPre_V _) zHm_0)) (mo_d (mo_l (mo_cast _ _)) (mo_l (mo_astore _ _))))) (mo_d (mo_d (mo_l (mo_aload _ _)) (mo_d (mo_l (mo_gI _ _ _)) (mo_l (mo_ifle _ _)))) (mo_d (mo_l (mo_aload _ _)) (mo_d (mo_l (mo_aload _ _)) (mo_l (mo_gI _ _ _)))))) (mo_d (mo_d (mo_d (mo_l (mo_aload _ _)) (mo_d (mo_l (mo_cV _ _ _ _ (zPre_V _) zHm_0)) (mo_l (mo_aload _ _)))) (mo_d (mo_l (mo_aload _ _)) (mo_d (mo_l (mo_gI _ _ _)) (mo_l (mo_aload _ _))))) (mo_d (mo_d (mo_l (mo_cV _ _ _ _ (zPre_V _) zHm_0)) (mo_d (mo_l (mo_iinc _ _ _)) (mo_l (mo_goto _)))) (mo_d (mo_l (mo_iinc _ _ _)) (mo_d (mo_l (mo_goto _)) (mo_l (mo_rV))))))))
def zc_X4_hasWay (G : Nat × Nat) : Nat → zSem := fun pc =>
 znd pc 10
 (znd pc 5
 (znd pc 1
 (zlf pc 0 (s_aload 0 1))
 (znd pc 2
 (zlf pc 1 (s_iload 2 2))
 (zlf pc 2 (s_cV (zpV 5) 58 2 [zU, zU, zU] zx0 5))))
 (znd pc 6
 (zlf pc 5 (s_aload 0 6))
 (znd pc 9
 (zlf pc 6 (s_gR 5 3 9))
 (zlf pc 9 (s_iload 1 10)))))
 (znd pc 18
 (znd pc 13
 (zlf pc 10 (s_cI (zpV 9) 54 2 [] zx0 13))
 (znd pc 15
 (zlf pc 13 (s_ic 1000000 15))
 (zlf pc 15 (s_cmpge 22 18))))
 (znd pc 22
 (znd pc 19
 (zlf pc 18 (s_ic 1 19))
 (zlf pc 19 (s_goto 23)))
 (znd pc 23
 (zlf pc 22 (s_ic 0 23))
 (zlf pc 23 (s_rZ)))))
theorem zm_X4_hasWay (G : Nat × Nat) (pc : Nat) : zMon (zc_X4_hasWay G pc) := (mo_d (mo_d (mo_d (mo_l (mo_aload _ _)) (mo_d (mo_l (mo_iload _ _)) (mo_l (mo_cV _ _ _ _ (zPre_V _) zHm_0)))) (mo_d (mo_l (mo_aload _ _)) (mo_d (mo_l (mo_gR _ _ _)) (mo_l (mo_iload _ _))))) (mo_d (mo_d (mo_l (mo_cI _ _ _ _ (zPre_V _) zHm_0)) (mo_d (mo_l (mo_ic _ _)) (mo_l (mo_cmpge _ _)))) (mo_d (mo_d (mo_l (mo_ic _ _)) (mo_l (mo_goto _))) (mo_d (mo_l (mo_ic _ _)) (mo_l (mo_rZ))))))
def zc_X10_init (G : Nat × Nat) : Nat → zSem := fun pc =>
 znd pc 19
 (znd pc 9
 (znd pc 4
 (znd pc 1
 (zlf pc 0 (s_aload 0 1))
 (zlf pc 1 (s_obj 4)))
 (znd pc 5
 (zlf pc 4 (s_aload 0 5))
 (znd pc 6
 (zlf pc 5 (s_aload 1 6))
 (zlf pc 6 (s_pR 11 0 9)))))
 (znd pc 14
 (znd pc 10
 (zlf pc 9 (s_aload 0 10))
 (znd pc 11
 (zlf pc 10 (s_iload 2 11))
 (zlf pc 11 (s_pI 11 1 14))))
 (znd pc 15
 (zlf pc 14 (s_aload 0 15))
 (znd pc 16
 (zlf pc 15 (s_aload 3 16))
 (zlf pc 16 (s_pR 11 2 19))))))
 (znd pc 31
 (znd pc 25
 (znd pc 20
 (zlf pc 19 (s_aload 0 20))
 (znd pc 22
 (zlf pc 20 (s_iload 4 22))
 (zlf pc 22 (s_pI 11 3 25))))
 (znd pc 26
 (zlf pc 25 (s_aload 0 26))
 (znd pc 28
 (zlf pc 26 (s_iload 5 28))
 (zlf pc 28 (s_pI 11 4 31)))))
 (znd pc 36
 (znd pc 32
 (zlf pc 31 (s_aload 0 32))
 (znd pc 35
 (zlf pc 32 (s_new 0 3 [.int 0, .null, .int 0] 35))
 (zlf pc 35 (s_dup 36))))
 (znd pc 39
 (zlf pc 36 (s_cV zpI 2 1 [] zx0 39))
 (znd pc 42
 (zlf pc 39 (s_pR 11 7 42))
 (zlf pc 42 (s_rV))))))
theorem zm_X10_init (G : Nat × Nat) (pc : Nat) : zMon (zc_X10_init G pc) := (mo_d (mo_d (mo_d (mo_d (mo_l (mo_aload _ _)) (mo_l (mo_obj _))) (mo_d (mo_l (mo_aload _ _)) (mo_d (mo_l (mo_aload _ _)) (mo_l (mo_pR _ _ _))))) (mo_d (mo_d (mo_l (mo_aload _ _)) (mo_d (mo_l (mo_iload _ _)) (mo_l (mo_pI _ _ _)))) (mo_d (mo_l (mo_aload _ _)) (mo_d (mo_l (mo_aload _ _)) (mo_l (mo_pR _ _ _)))))) (mo_d (mo_d (mo_d (mo_l (mo_aload _ _)) (mo_d (mo_l (mo_iload _ _)) (mo_l (mo_pI _ _ _)))) (mo_d (mo_l (mo_aload _ _)) (mo_d (mo_l (mo_iload _ _)) (mo_l (mo_pI _ _ _))))) (mo_d (mo_d (mo_l (mo_aload _ _)) (mo_d (mo_l (mo_new _ _ _ _)) (mo_l (mo_dup _)))) (mo_d (mo_l (mo_cV _ _ _ _ zPre_I zHm_0)) (mo_d (mo_l (mo_pR _ _ _)) (mo_l (mo_rV)))))))
def zc_X2_take (G : Nat × Nat) : Nat → zSem := fun pc =>
 znd pc 6
 (znd pc 2
 (znd pc 1
 (zlf pc 0 (s_aload 0 1))
 (zlf pc 1 (s_dup 2)))
 (znd pc 5
 (zlf pc 2 (s_gI 3 4 5))
 (zlf pc 5 (s_ic 1 6))))
 (znd pc 8
 (znd pc 7
 (zlf pc 6 (s_iload 1 7))
 (zlf pc 7 (s_ishl 8)))
 (znd pc 9
 (zlf pc 8 (s_ior 9))
 (znd pc 12
 (zlf pc 9 (s_pI 3 4 12))
 (zlf pc 12 (s_rV)))))
theorem zm_X2_take (G : Nat × Nat) (pc : Nat) : zMon (zc_X2_take G pc) := (mo_d (mo_d (mo_d (mo_l (mo_aload _ _)) (mo_l (mo_dup _))) (mo_d (mo_l (mo_gI _ _ _)) (mo_l (mo_ic _ _)))) (mo_d (mo_d (mo_l (mo_iload _ _)) (mo_l (mo_ishl _))) (mo_d (mo_l (mo_ior _)) (mo_d (mo_l (mo_pI _ _ _)) (mo_l (mo_rV))))))
def zc_X10_putIn (G : Nat × Nat) : Nat → zSem := fun pc =>
 znd pc 11
 (znd pc 4
 (znd pc 1
 (zlf pc 0 (s_aload 0 1))
 (zlf pc 1 (s_gR 11 0 4)))
 (znd pc 5
 (zlf pc 4 (s_aload 0 5))
 (znd pc 8
 (zlf pc 5 (s_gI 11 1 8))
 (zlf pc 8 (s_cV (zpV 3) 61 2 [] zx0 11)))))
 (znd pc 16
 (znd pc 12
 (zlf pc 11 (s_aload 0 12))
 (znd pc 15
 (zlf pc 12 (s_gR 11 2 15))
 (zlf pc 15 (s_aload 0 16))))
 (znd pc 19
 (zlf pc 16 (s_gI 11 3 19))
 (znd pc 22
 (zlf pc 19 (s_cV (zpV 3) 61 2 [] zx0 22))
 (zlf pc 22 (s_rV)))))
theorem zm_X10_putIn (G : Nat × Nat) (pc : Nat) : zMon (zc_X10_putIn G pc) := (mo_d (mo_d (mo_d (mo_l (mo_aload _ _)) (mo_l (mo_gR _ _ _))) (mo_d (mo_l (mo_aload _ _)) (mo_d (mo_l (mo_gI _ _ _)) (mo_l (mo_cV _ _ _ _ (zPre_V _) zHm_0))))) (mo_d (mo_d (mo_l (mo_aload _ _)) (mo_d (mo_l (mo_gR _ _ _)) (mo_l (mo_aload _ _)))) (mo_d (mo_l (mo_gI _ _ _)) (mo_d (mo_l (mo_cV _ _ _ _ (zPre_V _) zHm_0)) (mo_l (mo_rV))))))
def zc_X4_lowestOnward (G : Nat × Nat) : Nat → zSem := fun pc =>
 znd pc 39
 (znd pc 18
 (znd pc 7
 (znd pc 2
 (znd pc 1
 (zlf pc 0 (s_ic 0 1))
 (zlf pc 1 (s_istore 2 2)))
 (znd pc 3
 (zlf pc 2 (s_iload 2 3))
 (znd pc 4
 (zlf pc 3 (s_aload 0 4))
 (zlf pc 4 (s_gR 5 0 7)))))
 (znd pc 13
 (znd pc 10
 (zlf pc 7 (s_cI (zpV 0) 16 1 [] zx0 10))
 (zlf pc 10 (s_cmpge 78 13)))
 (znd pc 14
 (zlf pc 13 (s_aload 0 14))
 (znd pc 17
 (zlf pc 14 (s_gR 5 0 17))
 (zlf pc 17 (s_iload 2 18))))))
 (znd pc 27
 (znd pc 24
 (znd pc 21
 (zlf pc 18 (s_cR (zpV 0) 44 2 [] zx0 21))
 (zlf pc 21 (s_cast 2 24)))
 (znd pc 25
 (zlf pc 24 (s_astore 3 25))
 (znd pc 26
 (zlf pc 25 (s_aload 3 26))
 (zlf pc 26 (s_iload 1 27)))))
 (znd pc 32
 (znd pc 30
 (zlf pc 27 (s_cI (zpV 2) 56 2 [] zx0 30))
 (zlf pc 30 (s_istore 4 32)))
 (znd pc 33
 (zlf pc 32 (s_aload 3 33))
 (znd pc 36
 (zlf pc 33 (s_gI 2 4 36))
 (zlf pc 36 (s_ifle 72 39)))))))
 (znd pc 59
 (znd pc 49
 (znd pc 42
 (znd pc 41
 (zlf pc 39 (s_iload 4 41))
 (zlf pc 41 (s_ic (-1) 42)))
 (znd pc 45
 (zlf pc 42 (s_cmpeq 72 45))
 (znd pc 46
 (zlf pc 45 (s_aload 3 46))
 (zlf pc 46 (s_cI (zpV 2) 55 1 [] zx0 49)))))
 (znd pc 53
 (znd pc 50
 (zlf pc 49 (s_aload 0 50))
 (zlf pc 50 (s_gR 5 3 53)))
 (znd pc 55
 (zlf pc 53 (s_iload 4 55))
 (znd pc 58
 (zlf pc 55 (s_cI (zpV 9) 54 2 [] zx0 58))
 (zlf pc 58 (s_iadd 59))))))
 (znd pc 70
 (znd pc 63
 (znd pc 60
 (zlf pc 59 (s_aload 0 60))
 (zlf pc 60 (s_gR 5 3 63)))
 (znd pc 64
 (zlf pc 63 (s_iload 1 64))
 (znd pc 67
 (zlf pc 64 (s_cI (zpV 9) 54 2 [] zx0 67))
 (zlf pc 67 (s_cmpne 72 70)))))
 (znd pc 75
 (znd pc 71
 (zlf pc 70 (s_aload 3 71))
 (znd pc 72
 (zlf pc 71 (s_rR))
 (zlf pc 72 (s_iinc 2 1 75))))
 (znd pc 78
 (zlf pc 75 (s_goto 2))
 (znd pc 79
 (zlf pc 78 (s_null 79))
 (zlf pc 79 (s_rR)))))))
theorem zm_X4_lowestOnward (G : Nat × Nat) (pc : Nat) : zMon (zc_X4_lowestOnward G pc) := (mo_d (mo_d (mo_d (mo_d (mo_d (mo_l (mo_ic _ _)) (mo_l (mo_istore _ _))) (mo_d (mo_l (mo_iload _ _)) (mo_d (mo_l (mo_aload _ _)) (mo_l (mo_gR _ _ _))))) (mo_d (mo_d (mo_l (mo_cI _ _ _ _ (zPre_V _) zHm_0)) (mo_l (mo_cmpge _ _))) (mo_d (mo_l (mo_aload _ _)) (mo_d (mo_l (mo_gR _ _ _)) (mo_l (mo_iload _ _)))))) (mo_d (mo_d (mo_d (mo_l (mo_cR _ _ _ _ (zPre_V _) zHm_0)) (mo_l (mo_cast _ _))) (mo_d (mo_l (mo_astore _ _)) (mo_d (mo_l (mo_aload _ _)) (mo_l (mo_iload _ _))))) (mo_d (mo_d (mo_l (mo_cI _ _ _ _ (zPre_V _) zHm_0)) (mo_l (mo_istore _ _))) (mo_d (mo_l (mo_aload _ _)) (mo_d (mo_l (mo_gI _ _ _)) (mo_l (mo_ifle _ _))))))) (mo_d (mo_d (mo_d (mo_d (mo_l (mo_iload _ _)) (mo_l (mo_ic _ _))) (mo_d (mo_l (mo_cmpeq _ _)) (mo_d (mo_l (mo_aload _ _)) (mo_l (mo_cI _ _ _ _ (zPre_V _) zHm_0))))) (mo_d (mo_d (mo_l (mo_aload _ _)) (mo_l (mo_gR _ _ _))) (mo_d (mo_l (mo_iload _ _)) (mo_d (mo_l (mo_cI _ _ _ _ (zPre_V _) zHm_0)) (mo_l (mo_iadd _)))))) (mo_d (mo_d (mo_d (mo_l (mo_aload _ _)) (mo_l (mo_gR _ _ _))) (mo_d (mo_l (mo_iload _ _)) (mo_d (mo_l (mo_cI _ _ _ _ (zPre_V _) zHm_0)) (mo_l (mo_cmpne _ _))))) (mo_d (mo_d (mo_l (mo_aload _ _)) (mo_d (mo_l (mo_rR)) (mo_l (mo_iinc _ _ _)))) (mo_d (mo_l (mo_goto _)) (mo_d (mo_l (mo_null _)) (mo_l (mo_rR))))))))
def zc_X10_goBy (G : Nat × Nat) : Nat → zSem := fun pc =>
 znd pc 15
 (znd pc 8
 (znd pc 4
 (znd pc 1
 (zlf pc 0 (s_aload 0 1))
 (zlf pc 1 (s_gR 11 7 4)))
 (znd pc 5
 (zlf pc 4 (s_aload 1 5))
 (zlf pc 5 (s_cI (zpV 0) 27 2 [] zx0 8))))
 (znd pc 10
 (znd pc 9
 (zlf pc 8 (s_pop 9))
 (zlf pc 9 (s_aload 1 10)))
 (znd pc 11
 (zlf pc 10 (s_dup 11))
 (znd pc 14
 (zlf pc 11 (s_gI 2 4 14))
 (zlf pc 14 (s_ic 1 15))))))
 (znd pc 24
 (znd pc 19
 (znd pc 16
 (zlf pc 15 (s_isub 16))
 (zlf pc 16 (s_pI 2 4 19)))
 (znd pc 20
 (zlf pc 19 (s_aload 0 20))
 (znd pc 21
 (zlf pc 20 (s_dup 21))
 (zlf pc 21 (s_gI 11 5 24)))))
 (znd pc 28
 (znd pc 25
 (zlf pc 24 (s_aload 1 25))
 (zlf pc 25 (s_gI 2 3 28)))
 (znd pc 29
 (zlf pc 28 (s_iadd 29))
 (znd pc 32
 (zlf pc 29 (s_pI 11 5 32))
 (zlf pc 32 (s_rV))))))
theorem zm_X10_goBy (G : Nat × Nat) (pc : Nat) : zMon (zc_X10_goBy G pc) := (mo_d (mo_d (mo_d (mo_d (mo_l (mo_aload _ _)) (mo_l (mo_gR _ _ _))) (mo_d (mo_l (mo_aload _ _)) (mo_l (mo_cI _ _ _ _ (zPre_V _) zHm_0)))) (mo_d (mo_d (mo_l (mo_pop _)) (mo_l (mo_aload _ _))) (mo_d (mo_l (mo_dup _)) (mo_d (mo_l (mo_gI _ _ _)) (mo_l (mo_ic _ _)))))) (mo_d (mo_d (mo_d (mo_l (mo_isub _)) (mo_l (mo_pI _ _ _))) (mo_d (mo_l (mo_aload _ _)) (mo_d (mo_l (mo_dup _)) (mo_l (mo_gI _ _ _))))) (mo_d (mo_d (mo_l (mo_aload _ _)) (mo_l (mo_gI _ _ _))) (mo_d (mo_l (mo_iadd _)) (mo_d (mo_l (mo_pI _ _ _)) (mo_l (mo_rV)))))))
def zc_X4_layAlong (G : Nat × Nat) : Nat → zSem := fun pc =>
 znd pc 35
 (znd pc 19
 (znd pc 8
 (znd pc 2
 (znd pc 1
 (zlf pc 0 (s_aload 0 1))
 (zlf pc 1 (s_aload 1 2)))
 (znd pc 5
 (zlf pc 2 (s_gR 11 2 5))
 (zlf pc 5 (s_gI 3 0 8))))
 (znd pc 12
 (znd pc 11
 (zlf pc 8 (s_cV (zpV 5) 58 2 [zU, zU, zU] zx0 11))
 (zlf pc 11 (s_aload 1 12)))
 (znd pc 15
 (zlf pc 12 (s_gR 11 0 15))
 (znd pc 18
 (zlf pc 15 (s_gI 3 0 18))
 (zlf pc 18 (s_istore 2 19))))))
 (znd pc 24
 (znd pc 21
 (znd pc 20
 (zlf pc 19 (s_ic 1 20))
 (zlf pc 20 (s_istore 3 21)))
 (znd pc 22
 (zlf pc 21 (s_iload 3 22))
 (zlf pc 22 (s_ic 8 24))))
 (znd pc 28
 (znd pc 27
 (zlf pc 24 (s_cmpge 70 27))
 (zlf pc 27 (s_iload 2 28)))
 (znd pc 29
 (zlf pc 28 (s_aload 1 29))
 (znd pc 32
 (zlf pc 29 (s_gR 11 2 32))
 (zlf pc 32 (s_gI 3 0 35)))))))
 (znd pc 52
 (znd pc 43
 (znd pc 39
 (znd pc 38
 (zlf pc 35 (s_cmpeq 70 38))
 (zlf pc 38 (s_aload 0 39)))
 (znd pc 40
 (zlf pc 39 (s_iload 2 40))
 (zlf pc 40 (s_cN (zpV 5) 63 2 [zU, zU, zU] zx0 43))))
 (znd pc 47
 (znd pc 45
 (zlf pc 43 (s_astore 4 45))
 (zlf pc 45 (s_aload 4 47)))
 (znd pc 50
 (zlf pc 47 (s_nonnull 51 50))
 (znd pc 51
 (zlf pc 50 (s_rV))
 (zlf pc 51 (s_aload 1 52))))))
 (znd pc 60
 (znd pc 57
 (znd pc 54
 (zlf pc 52 (s_aload 4 54))
 (zlf pc 54 (s_cV (zpV 11) 64 2 [] zx0 57)))
 (znd pc 59
 (zlf pc 57 (s_aload 4 59))
 (zlf pc 59 (s_iload 2 60))))
 (znd pc 64
 (znd pc 63
 (zlf pc 60 (s_cI (zpV 2) 56 2 [] zx0 63))
 (zlf pc 63 (s_istore 2 64)))
 (znd pc 67
 (zlf pc 64 (s_iinc 3 1 67))
 (znd pc 70
 (zlf pc 67 (s_goto 21))
 (zlf pc 70 (s_rV)))))))
theorem zm_X4_layAlong (G : Nat × Nat) (pc : Nat) : zMon (zc_X4_layAlong G pc) := (mo_d (mo_d (mo_d (mo_d (mo_d (mo_l (mo_aload _ _)) (mo_l (mo_aload _ _))) (mo_d (mo_l (mo_gR _ _ _)) (mo_l (mo_gI _ _ _)))) (mo_d (mo_d (mo_l (mo_cV _ _ _ _ (zPre_V _) zHm_0)) (mo_l (mo_aload _ _))) (mo_d (mo_l (mo_gR _ _ _)) (mo_d (mo_l (mo_gI _ _ _)) (mo_l (mo_istore _ _)))))) (mo_d (mo_d (mo_d (mo_l (mo_ic _ _)) (mo_l (mo_istore _ _))) (mo_d (mo_l (mo_iload _ _)) (mo_l (mo_ic _ _)))) (mo_d (mo_d (mo_l (mo_cmpge _ _)) (mo_l (mo_iload _ _))) (mo_d (mo_l (mo_aload _ _)) (mo_d (mo_l (mo_gR _ _ _)) (mo_l (mo_gI _ _ _))))))) (mo_d (mo_d (mo_d (mo_d (mo_l (mo_cmpeq _ _)) (mo_l (mo_aload _ _))) (mo_d (mo_l (mo_iload _ _)) (mo_l (mo_cN _ _ _ _ (zPre_V _) zHm_0)))) (mo_d (mo_d (mo_l (mo_astore _ _)) (mo_l (mo_aload _ _))) (mo_d (mo_l (mo_nonnull _ _)) (mo_d (mo_l (mo_rV)) (mo_l (mo_aload _ _)))))) (mo_d (mo_d (mo_d (mo_l (mo_aload _ _)) (mo_l (mo_cV _ _ _ _ (zPre_V _) zHm_0))) (mo_d (mo_l (mo_aload _ _)) (mo_l (mo_iload _ _)))) (mo_d (mo_d (mo_l (mo_cI _ _ _ _ (zPre_V _) zHm_0)) (mo_l (mo_istore _ _))) (mo_d (mo_l (mo_iinc _ _ _)) (mo_d (mo_l (mo_goto _)) (mo_l (mo_rV))))))))
def zc_X4_addWire (G : Nat × Nat) : Nat → zSem := fun pc =>
 znd pc 14
 (znd pc 6
 (znd pc 4
 (znd pc 1
 (zlf pc 0 (s_aload 1 1))
 (zlf pc 1 (s_cV (zpV 11) 62 1 [] zx0 4)))
 (znd pc 5
 (zlf pc 4 (s_aload 0 5))
 (zlf pc 5 (s_aload 1 6))))
 (znd pc 10
 (znd pc 9
 (zlf pc 6 (s_cV (zpV 5) 65 2 [zU, zU, zU] zx0 9))
 (zlf pc 9 (s_aload 0 10)))
 (znd pc 13
 (zlf pc 10 (s_gR 5 2 13))
 (zlf pc 13 (s_aload 1 14)))))
 (znd pc 22
 (znd pc 18
 (znd pc 17
 (zlf pc 14 (s_cI (zpV 0) 27 2 [] zx0 17))
 (zlf pc 17 (s_pop 18)))
 (znd pc 19
 (zlf pc 18 (s_aload 0 19))
 (zlf pc 19 (s_gR 5 2 22))))
 (znd pc 26
 (znd pc 25
 (zlf pc 22 (s_cI (zpV 0) 16 1 [] zx0 25))
 (zlf pc 25 (s_ic 1 26)))
 (znd pc 27
 (zlf pc 26 (s_isub 27))
 (zlf pc 27 (s_rI)))))
theorem zm_X4_addWire (G : Nat × Nat) (pc : Nat) : zMon (zc_X4_addWire G pc) := (mo_d (mo_d (mo_d (mo_d (mo_l (mo_aload _ _)) (mo_l (mo_cV _ _ _ _ (zPre_V _) zHm_0))) (mo_d (mo_l (mo_aload _ _)) (mo_l (mo_aload _ _)))) (mo_d (mo_d (mo_l (mo_cV _ _ _ _ (zPre_V _) zHm_0)) (mo_l (mo_aload _ _))) (mo_d (mo_l (mo_gR _ _ _)) (mo_l (mo_aload _ _))))) (mo_d (mo_d (mo_d (mo_l (mo_cI _ _ _ _ (zPre_V _) zHm_0)) (mo_l (mo_pop _))) (mo_d (mo_l (mo_aload _ _)) (mo_l (mo_gR _ _ _)))) (mo_d (mo_d (mo_l (mo_cI _ _ _ _ (zPre_V _) zHm_0)) (mo_l (mo_ic _ _))) (mo_d (mo_l (mo_isub _)) (mo_l (mo_rI))))))
def zc_X11_wire (G : Nat × Nat) : Nat → zSem := fun pc =>
 znd pc 79
 (znd pc 39
 (znd pc 15
 (znd pc 7
 (znd pc 2
 (znd pc 1
 (zlf pc 0 (s_aload 0 1))
 (zlf pc 1 (s_iload 1 2)))
 (znd pc 5
 (zlf pc 2 (s_cR (zpV 12) 45 2 [] zx0 5))
 (zlf pc 5 (s_astore 6 7))))
 (znd pc 9
 (znd pc 8
 (zlf pc 7 (s_aload 0 8))
 (zlf pc 8 (s_iload 3 9)))
 (znd pc 12
 (zlf pc 9 (s_cR (zpV 12) 45 2 [] zx0 12))
 (znd pc 14
 (zlf pc 12 (s_astore 7 14))
 (zlf pc 14 (s_iload 2 15))))))
 (znd pc 26
 (znd pc 20
 (znd pc 17
 (zlf pc 15 (s_aload 6 17))
 (zlf pc 17 (s_gI 3 1 20)))
 (znd pc 23
 (zlf pc 20 (s_cI zpS 12 2 [] zx0 23))
 (zlf pc 23 (s_ifeq 43 26))))
 (znd pc 30
 (znd pc 28
 (zlf pc 26 (s_iload 4 28))
 (zlf pc 28 (s_aload 7 30)))
 (znd pc 33
 (zlf pc 30 (s_gI 3 1 33))
 (znd pc 36
 (zlf pc 33 (s_cI zpS 12 2 [] zx0 36))
 (zlf pc 36 (s_ifeq 43 39)))))))
 (znd pc 56
 (znd pc 47
 (znd pc 43
 (znd pc 40
 (zlf pc 39 (s_ic 1 40))
 (zlf pc 40 (s_goto 44)))
 (znd pc 44
 (zlf pc 43 (s_ic 0 44))
 (zlf pc 44 (s_cV zpS 13 1 [] zx0 47))))
 (znd pc 49
 (znd pc 48
 (zlf pc 47 (s_iload 1 48))
 (zlf pc 48 (s_iload 3 49)))
 (znd pc 52
 (zlf pc 49 (s_cmpeq 66 52))
 (znd pc 54
 (zlf pc 52 (s_iload 5 54))
 (zlf pc 54 (s_ic 8 56))))))
 (znd pc 67
 (znd pc 62
 (znd pc 59
 (zlf pc 56 (s_cI zpS 12 2 [] zx0 59))
 (zlf pc 59 (s_ifeq 66 62)))
 (znd pc 63
 (zlf pc 62 (s_ic 1 63))
 (znd pc 66
 (zlf pc 63 (s_goto 67))
 (zlf pc 66 (s_ic 0 67)))))
 (znd pc 72
 (znd pc 70
 (zlf pc 67 (s_cV zpS 15 1 [] zx0 70))
 (zlf pc 70 (s_aload 6 72)))
 (znd pc 73
 (zlf pc 72 (s_iload 2 73))
 (znd pc 76
 (zlf pc 73 (s_cI (zpV 3) 53 2 [] zx0 76))
 (zlf pc 76 (s_ifeq 93 79))))))))
 (znd pc 123
 (znd pc 98
 (znd pc 89
 (znd pc 83
 (znd pc 81
 (zlf pc 79 (s_aload 7 81))
 (zlf pc 81 (s_iload 4 83)))
 (znd pc 86
 (zlf pc 83 (s_cI (zpV 3) 53 2 [] zx0 86))
 (zlf pc 86 (s_ifeq 93 89))))
 (znd pc 93
 (znd pc 90
 (zlf pc 89 (s_ic 1 90))
 (zlf pc 90 (s_goto 94)))
 (znd pc 94
 (zlf pc 93 (s_ic 0 94))
 (znd pc 97
 (zlf pc 94 (s_cV zpS 17 1 [] zx0 97))
 (zlf pc 97 (s_aload 0 98))))))
 (znd pc 112
 (znd pc 104
 (znd pc 101
 (zlf pc 98 (s_gR 12 0 101))
 (zlf pc 101 (s_gR 5 2 104)))
 (znd pc 107
 (zlf pc 104 (s_cI (zpV 0) 16 1 [] zx0 107))
 (znd pc 109
 (zlf pc 107 (s_ic 24 109))
 (zlf pc 109 (s_cmpge 136 112)))))
 (znd pc 116
 (znd pc 113
 (zlf pc 112 (s_aload 0 113))
 (zlf pc 113 (s_gR 12 0 116)))
 (znd pc 118
 (zlf pc 116 (s_aload 6 118))
 (znd pc 121
 (zlf pc 118 (s_gI 3 0 121))
 (zlf pc 121 (s_aload 7 123)))))))
 (znd pc 144
 (znd pc 133
 (znd pc 129
 (znd pc 126
 (zlf pc 123 (s_gI 3 0 126))
 (zlf pc 126 (s_cI (zpV 5) 59 3 [] zx0 129)))
 (znd pc 132
 (zlf pc 129 (s_ifeq 136 132))
 (zlf pc 132 (s_ic 1 133))))
 (znd pc 137
 (znd pc 136
 (zlf pc 133 (s_goto 137))
 (zlf pc 136 (s_ic 0 137)))
 (znd pc 140
 (zlf pc 137 (s_cV zpS 17 1 [] zx0 140))
 (znd pc 141
 (zlf pc 140 (s_aload 0 141))
 (zlf pc 141 (s_gR 12 0 144))))))
 (znd pc 153
 (znd pc 148
 (znd pc 147
 (zlf pc 144 (s_new 11 8 [.null, .int 0, .null, .int 0, .int 0, .int 0, .int 0, .null] 147))
 (zlf pc 147 (s_dup 148)))
 (znd pc 150
 (zlf pc 148 (s_aload 6 150))
 (znd pc 151
 (zlf pc 150 (s_iload 2 151))
 (zlf pc 151 (s_aload 7 153)))))
 (znd pc 157
 (znd pc 155
 (zlf pc 153 (s_iload 4 155))
 (zlf pc 155 (s_iload 5 157)))
 (znd pc 160
 (zlf pc 157 (s_cV zpI 60 6 [] zx0 160))
 (znd pc 163
 (zlf pc 160 (s_cI (zpV 5) 66 2 [] zx0 163))
 (zlf pc 163 (s_rI))))))))
theorem zm_X11_wire (G : Nat × Nat) (pc : Nat) : zMon (zc_X11_wire G pc) := (mo_d (mo_d (mo_d (mo_d (mo_d (mo_d (mo_l (mo_aload _ _)) (mo_l (mo_iload _ _))) (mo_d (mo_l (mo_cR _ _ _ _ (zPre_V _) zHm_0)) (mo_l (mo_astore _ _)))) (mo_d (mo_d (mo_l (mo_aload _ _)) (mo_l (mo_iload _ _))) (mo_d (mo_l (mo_cR _ _ _ _ (zPre_V _) zHm_0)) (mo_d (mo_l (mo_astore _ _)) (mo_l (mo_iload _ _)))))) (mo_d (mo_d (mo_d (mo_l (mo_aload _ _)) (mo_l (mo_gI _ _ _))) (mo_d (mo_l (mo_cI _ _ _ _ zPre_S zHm_0)) (mo_l (mo_ifeq _ _)))) (mo_d (mo_d (mo_l (mo_iload _ _)) (mo_l (mo_aload _ _))) (mo_d (mo_l (mo_gI _ _ _)) (mo_d (mo_l (mo_cI _ _ _ _ zPre_S zHm_0)) (mo_l (mo_ifeq _ _))))))) (mo_d (mo_d (mo_d (mo_d (mo_l (mo_ic _ _)) (mo_l (mo_goto _))) (mo_d (mo_l (mo_ic _ _)) (mo_l (mo_cV _ _ _ _ zPre_S zHm_0)))) (mo_d (mo_d (mo_l (mo_iload _ _)) (mo_l (mo_iload _ _))) (mo_d (mo_l (mo_cmpeq _ _)) (mo_d (mo_l (mo_iload _ _)) (mo_l (mo_ic _ _)))))) (mo_d (mo_d (mo_d (mo_l (mo_cI _ _ _ _ zPre_S zHm_0)) (mo_l (mo_ifeq _ _))) (mo_d (mo_l (mo_ic _ _)) (mo_d (mo_l (mo_goto _)) (mo_l (mo_ic _ _))))) (mo_d (mo_d (mo_l (mo_cV _ _ _ _ zPre_S zHm_0)) (mo_l (mo_aload _ _))) (mo_d (mo_l (mo_iload _ _)) (mo_d (mo_l (mo_cI _ _ _ _ (zPre_V _) zHm_0)) (mo_l (mo_ifeq _ _)))))))) (mo_d (mo_d (mo_d (mo_d (mo_d (mo_l (mo_aload _ _)) (mo_l (mo_iload _ _))) (mo_d (mo_l (mo_cI _ _ _ _ (zPre_V _) zHm_0)) (mo_l (mo_ifeq _ _)))) (mo_d (mo_d (mo_l (mo_ic _ _)) (mo_l (mo_goto _))) (mo_d (mo_l (mo_ic _ _)) (mo_d (mo_l (mo_cV _ _ _ _ zPre_S zHm_0)) (mo_l (mo_aload _ _)))))) (mo_d (mo_d (mo_d (mo_l (mo_gR _ _ _)) (mo_l (mo_gR _ _ _))) (mo_d (mo_l (mo_cI _ _ _ _ (zPre_V _) zHm_0)) (mo_d (mo_l (mo_ic _ _)) (mo_l (mo_cmpge _ _))))) (mo_d (mo_d (mo_l (mo_aload _ _)) (mo_l (mo_gR _ _ _))) (mo_d (mo_l (mo_aload _ _)) (mo_d (mo_l (mo_gI _ _ _)) (mo_l (mo_aload _ _))))))) (mo_d (mo_d (mo_d (mo_d (mo_l (mo_gI _ _ _)) (mo_l (mo_cI _ _ _ _ (zPre_V _) zHm_0))) (mo_d (mo_l (mo_ifeq _ _)) (mo_l (mo_ic _ _)))) (mo_d (mo_d (mo_l (mo_goto _)) (mo_l (mo_ic _ _))) (mo_d (mo_l (mo_cV _ _ _ _ zPre_S zHm_0)) (mo_d (mo_l (mo_aload _ _)) (mo_l (mo_gR _ _ _)))))) (mo_d (mo_d (mo_d (mo_l (mo_new _ _ _ _)) (mo_l (mo_dup _))) (mo_d (mo_l (mo_aload _ _)) (mo_d (mo_l (mo_iload _ _)) (mo_l (mo_aload _ _))))) (mo_d (mo_d (mo_l (mo_iload _ _)) (mo_l (mo_iload _ _))) (mo_d (mo_l (mo_cV _ _ _ _ zPre_I zHm_0)) (mo_d (mo_l (mo_cI _ _ _ _ (zPre_V _) zHm_0)) (mo_l (mo_rI)))))))))
def zc_L_wire (G : Nat × Nat) : Nat → zSem := fun pc =>
 znd pc 15
 (znd pc 6
 (znd pc 3
 (znd pc 2
 (zlf pc 0 (s_aload 6 2))
 (zlf pc 2 (s_ic 0 3)))
 (znd pc 4
 (zlf pc 3 (s_aload 0 4))
 (znd pc 5
 (zlf pc 4 (s_iload 1 5))
 (zlf pc 5 (s_iload 2 6)))))
 (znd pc 9
 (znd pc 7
 (zlf pc 6 (s_iload 3 7))
 (zlf pc 7 (s_iload 4 9)))
 (znd pc 11
 (zlf pc 9 (s_iload 5 11))
 (znd pc 14
 (zlf pc 11 (s_cI (zpV 12) 67 6 [zU, zU] (zxc 7 [(0, 21), (1, 25), (2, 29)]) 14))
 (zlf pc 14 (s_i2l 15))))))
 (znd pc 26
 (znd pc 21
 (znd pc 16
 (zlf pc 15 (s_last 16))
 (zlf pc 16 (s_goto 31)))
 (znd pc 22
 (zlf pc 21 (s_ic 1 22))
 (znd pc 25
 (zlf pc 22 (s_rI))
 (zlf pc 25 (s_ic 2 26)))))
 (znd pc 30
 (znd pc 29
 (zlf pc 26 (s_rI))
 (zlf pc 29 (s_ic 3 30)))
 (znd pc 31
 (zlf pc 30 (s_rI))
 (znd pc 32
 (zlf pc 31 (s_ic 0 32))
 (zlf pc 32 (s_rI))))))
theorem zm_L_wire (G : Nat × Nat) (pc : Nat) : zMon (zc_L_wire G pc) := (mo_d (mo_d (mo_d (mo_d (mo_l (mo_aload _ _)) (mo_l (mo_ic _ _))) (mo_d (mo_l (mo_aload _ _)) (mo_d (mo_l (mo_iload _ _)) (mo_l (mo_iload _ _))))) (mo_d (mo_d (mo_l (mo_iload _ _)) (mo_l (mo_iload _ _))) (mo_d (mo_l (mo_iload _ _)) (mo_d (mo_l (mo_cI _ _ _ _ (zPre_V _) (zHm_c _ _))) (mo_l (mo_i2l _)))))) (mo_d (mo_d (mo_d (mo_l (mo_last _)) (mo_l (mo_goto _))) (mo_d (mo_l (mo_ic _ _)) (mo_d (mo_l (mo_rI)) (mo_l (mo_ic _ _))))) (mo_d (mo_d (mo_l (mo_rI)) (mo_l (mo_ic _ _))) (mo_d (mo_l (mo_rI)) (mo_d (mo_l (mo_ic _ _)) (mo_l (mo_rI)))))))
def zc_X12_isCavity (G : Nat × Nat) : Nat → zSem := fun pc =>
 znd pc 15
 (znd pc 8
 (znd pc 2
 (znd pc 1
 (zlf pc 0 (s_aload 0 1))
 (zlf pc 1 (s_iload 1 2)))
 (znd pc 5
 (zlf pc 2 (s_cI (zpV 13) 50 2 [] zx0 5))
 (zlf pc 5 (s_ifeq 28 8))))
 (znd pc 10
 (znd pc 9
 (zlf pc 8 (s_iload 2 9))
 (zlf pc 9 (s_ic 0 10)))
 (znd pc 11
 (zlf pc 10 (s_aload 0 11))
 (znd pc 14
 (zlf pc 11 (s_gR 13 7 14))
 (zlf pc 14 (s_iload 1 15))))))
 (znd pc 21
 (znd pc 17
 (znd pc 16
 (zlf pc 15 (s_iald 16))
 (zlf pc 16 (s_ic 1 17)))
 (znd pc 18
 (zlf pc 17 (s_isub 18))
 (zlf pc 18 (s_cI zpS 31 3 [] zx0 21))))
 (znd pc 25
 (znd pc 24
 (zlf pc 21 (s_ifeq 28 24))
 (zlf pc 24 (s_ic 1 25)))
 (znd pc 28
 (zlf pc 25 (s_goto 29))
 (znd pc 29
 (zlf pc 28 (s_ic 0 29))
 (zlf pc 29 (s_rZ))))))
theorem zm_X12_isCavity (G : Nat × Nat) (pc : Nat) : zMon (zc_X12_isCavity G pc) := (mo_d (mo_d (mo_d (mo_d (mo_l (mo_aload _ _)) (mo_l (mo_iload _ _))) (mo_d (mo_l (mo_cI _ _ _ _ (zPre_V _) zHm_0)) (mo_l (mo_ifeq _ _)))) (mo_d (mo_d (mo_l (mo_iload _ _)) (mo_l (mo_ic _ _))) (mo_d (mo_l (mo_aload _ _)) (mo_d (mo_l (mo_gR _ _ _)) (mo_l (mo_iload _ _)))))) (mo_d (mo_d (mo_d (mo_l (mo_iald _)) (mo_l (mo_ic _ _))) (mo_d (mo_l (mo_isub _)) (mo_l (mo_cI _ _ _ _ zPre_S zHm_0)))) (mo_d (mo_d (mo_l (mo_ifeq _ _)) (mo_l (mo_ic _ _))) (mo_d (mo_l (mo_goto _)) (mo_d (mo_l (mo_ic _ _)) (mo_l (mo_rZ)))))))
def zc_X12_costOf (G : Nat × Nat) : Nat → zSem := fun pc =>
 znd pc 7
 (znd pc 3
 (znd pc 2
 (zlf pc 0 (s_ic 100 2))
 (zlf pc 2 (s_aload 0 3)))
 (znd pc 6
 (zlf pc 3 (s_gR 13 3 6))
 (zlf pc 6 (s_iload 1 7))))
 (znd pc 9
 (znd pc 8
 (zlf pc 7 (s_iald 8))
 (zlf pc 8 (s_imul 9)))
 (znd pc 10
 (zlf pc 9 (s_ic 1 10))
 (znd pc 11
 (zlf pc 10 (s_iadd 11))
 (zlf pc 11 (s_rI)))))
theorem zm_X12_costOf (G : Nat × Nat) (pc : Nat) : zMon (zc_X12_costOf G pc) := (mo_d (mo_d (mo_d (mo_l (mo_ic _ _)) (mo_l (mo_aload _ _))) (mo_d (mo_l (mo_gR _ _ _)) (mo_l (mo_iload _ _)))) (mo_d (mo_d (mo_l (mo_iald _)) (mo_l (mo_imul _))) (mo_d (mo_l (mo_ic _ _)) (mo_d (mo_l (mo_iadd _)) (mo_l (mo_rI))))))
def zc_X12_finds (G : Nat × Nat) : Nat → zSem := fun pc =>
 znd pc 94
 (znd pc 49
 (znd pc 24
 (znd pc 12
 (znd pc 3
 (znd pc 1
 (zlf pc 0 (s_ic 0 1))
 (znd pc 2
 (zlf pc 1 (s_istore 2 2))
 (zlf pc 2 (s_iload 2 3))))
 (znd pc 8
 (znd pc 5
 (zlf pc 3 (s_ic 8 5))
 (zlf pc 5 (s_cmpge 31 8)))
 (znd pc 9
 (zlf pc 8 (s_aload 0 9))
 (zlf pc 9 (s_gR 13 16 12)))))
 (znd pc 15
 (znd pc 13
 (zlf pc 12 (s_iload 2 13))
 (znd pc 14
 (zlf pc 13 (s_iload 2 14))
 (zlf pc 14 (s_iload 1 15))))
 (znd pc 19
 (znd pc 18
 (zlf pc 15 (s_cmpne 22 18))
 (zlf pc 18 (s_ic 0 19)))
 (znd pc 22
 (zlf pc 19 (s_goto 24))
 (zlf pc 22 (s_ic 1000000000 24))))))
 (znd pc 36
 (znd pc 31
 (znd pc 25
 (zlf pc 24 (s_iast 25))
 (znd pc 28
 (zlf pc 25 (s_iinc 2 1 28))
 (zlf pc 28 (s_goto 2))))
 (znd pc 33
 (znd pc 32
 (zlf pc 31 (s_ic 0 32))
 (zlf pc 32 (s_istore 2 33)))
 (znd pc 34
 (zlf pc 33 (s_iload 2 34))
 (zlf pc 34 (s_ic 8 36)))))
 (znd pc 41
 (znd pc 39
 (zlf pc 36 (s_cmpge 194 39))
 (znd pc 40
 (zlf pc 39 (s_ic 0 40))
 (zlf pc 40 (s_istore 3 41))))
 (znd pc 43
 (znd pc 42
 (zlf pc 41 (s_iload 3 42))
 (zlf pc 42 (s_aload 0 43)))
 (znd pc 46
 (zlf pc 43 (s_gI 13 0 46))
 (zlf pc 46 (s_cmpge 188 49)))))))
 (znd pc 71
 (znd pc 62
 (znd pc 54
 (znd pc 50
 (zlf pc 49 (s_aload 0 50))
 (znd pc 53
 (zlf pc 50 (s_gR 13 4 53))
 (zlf pc 53 (s_iload 3 54))))
 (znd pc 58
 (znd pc 55
 (zlf pc 54 (s_iald 55))
 (zlf pc 55 (s_ifle 182 58)))
 (znd pc 59
 (zlf pc 58 (s_aload 0 59))
 (zlf pc 59 (s_gR 13 16 62)))))
 (znd pc 67
 (znd pc 63
 (zlf pc 62 (s_aload 0 63))
 (znd pc 66
 (zlf pc 63 (s_gR 13 1 66))
 (zlf pc 66 (s_iload 3 67))))
 (znd pc 69
 (znd pc 68
 (zlf pc 67 (s_iald 68))
 (zlf pc 68 (s_iald 69)))
 (znd pc 70
 (zlf pc 69 (s_aload 0 70))
 (zlf pc 70 (s_iload 3 71))))))
 (znd pc 85
 (znd pc 77
 (znd pc 74
 (zlf pc 71 (s_cI (zpV 13) 70 2 [] zx0 74))
 (znd pc 75
 (zlf pc 74 (s_iadd 75))
 (zlf pc 75 (s_istore 4 77))))
 (znd pc 81
 (znd pc 78
 (zlf pc 77 (s_aload 0 78))
 (zlf pc 78 (s_gR 13 16 81)))
 (znd pc 82
 (zlf pc 81 (s_aload 0 82))
 (zlf pc 82 (s_gR 13 2 85)))))
 (znd pc 88
 (znd pc 86
 (zlf pc 85 (s_iload 3 86))
 (znd pc 87
 (zlf pc 86 (s_iald 87))
 (zlf pc 87 (s_iald 88))))
 (znd pc 90
 (znd pc 89
 (zlf pc 88 (s_aload 0 89))
 (zlf pc 89 (s_iload 3 90)))
 (znd pc 93
 (zlf pc 90 (s_cI (zpV 13) 70 2 [] zx0 93))
 (zlf pc 93 (s_iadd 94))))))))
 (znd pc 143
 (znd pc 118
 (znd pc 106
 (znd pc 100
 (znd pc 96
 (zlf pc 94 (s_istore 5 96))
 (znd pc 97
 (zlf pc 96 (s_aload 0 97))
 (zlf pc 97 (s_gR 13 16 100))))
 (znd pc 104
 (znd pc 101
 (zlf pc 100 (s_aload 0 101))
 (zlf pc 101 (s_gR 13 2 104)))
 (znd pc 105
 (zlf pc 104 (s_iload 3 105))
 (zlf pc 105 (s_iald 106)))))
 (znd pc 112
 (znd pc 108
 (zlf pc 106 (s_iload 4 108))
 (znd pc 109
 (zlf pc 108 (s_aload 0 109))
 (zlf pc 109 (s_gR 13 16 112))))
 (znd pc 116
 (znd pc 113
 (zlf pc 112 (s_aload 0 113))
 (zlf pc 113 (s_gR 13 2 116)))
 (znd pc 117
 (zlf pc 116 (s_iload 3 117))
 (zlf pc 117 (s_iald 118))))))
 (znd pc 132
 (znd pc 124
 (znd pc 119
 (zlf pc 118 (s_iald 119))
 (znd pc 122
 (zlf pc 119 (s_cmpge 127 122))
 (zlf pc 122 (s_iload 4 124))))
 (znd pc 128
 (znd pc 127
 (zlf pc 124 (s_goto 138))
 (zlf pc 127 (s_aload 0 128)))
 (znd pc 131
 (zlf pc 128 (s_gR 13 16 131))
 (zlf pc 131 (s_aload 0 132)))))
 (znd pc 137
 (znd pc 135
 (zlf pc 132 (s_gR 13 2 135))
 (znd pc 136
 (zlf pc 135 (s_iload 3 136))
 (zlf pc 136 (s_iald 137))))
 (znd pc 139
 (znd pc 138
 (zlf pc 137 (s_iald 138))
 (zlf pc 138 (s_iast 139)))
 (znd pc 140
 (zlf pc 139 (s_aload 0 140))
 (zlf pc 140 (s_gR 13 16 143)))))))
 (znd pc 167
 (znd pc 155
 (znd pc 148
 (znd pc 144
 (zlf pc 143 (s_aload 0 144))
 (znd pc 147
 (zlf pc 144 (s_gR 13 1 147))
 (zlf pc 147 (s_iload 3 148))))
 (znd pc 151
 (znd pc 149
 (zlf pc 148 (s_iald 149))
 (zlf pc 149 (s_iload 5 151)))
 (znd pc 152
 (zlf pc 151 (s_aload 0 152))
 (zlf pc 152 (s_gR 13 16 155)))))
 (znd pc 160
 (znd pc 156
 (zlf pc 155 (s_aload 0 156))
 (znd pc 159
 (zlf pc 156 (s_gR 13 1 159))
 (zlf pc 159 (s_iload 3 160))))
 (znd pc 162
 (znd pc 161
 (zlf pc 160 (s_iald 161))
 (zlf pc 161 (s_iald 162)))
 (znd pc 165
 (zlf pc 162 (s_cmpge 170 165))
 (zlf pc 165 (s_iload 5 167))))))
 (znd pc 180
 (znd pc 174
 (znd pc 170
 (zlf pc 167 (s_goto 181))
 (znd pc 171
 (zlf pc 170 (s_aload 0 171))
 (zlf pc 171 (s_gR 13 16 174))))
 (znd pc 178
 (znd pc 175
 (zlf pc 174 (s_aload 0 175))
 (zlf pc 175 (s_gR 13 1 178)))
 (znd pc 179
 (zlf pc 178 (s_iload 3 179))
 (zlf pc 179 (s_iald 180)))))
 (znd pc 185
 (znd pc 181
 (zlf pc 180 (s_iald 181))
 (znd pc 182
 (zlf pc 181 (s_iast 182))
 (zlf pc 182 (s_iinc 3 1 185))))
 (znd pc 191
 (znd pc 188
 (zlf pc 185 (s_goto 41))
 (zlf pc 188 (s_iinc 2 1 191)))
 (znd pc 194
 (zlf pc 191 (s_goto 33))
 (zlf pc 194 (s_rV))))))))
theorem zm_X12_finds (G : Nat × Nat) (pc : Nat) : zMon (zc_X12_finds G pc) := (mo_d (mo_d (mo_d (mo_d (mo_d (mo_d (mo_l (mo_ic _ _)) (mo_d (mo_l (mo_istore _ _)) (mo_l (mo_iload _ _)))) (mo_d (mo_d (mo_l (mo_ic _ _)) (mo_l (mo_cmpge _ _))) (mo_d (mo_l (mo_aload _ _)) (mo_l (mo_gR _ _ _))))) (mo_d (mo_d (mo_l (mo_iload _ _)) (mo_d (mo_l (mo_iload _ _)) (mo_l (mo_iload _ _)))) (mo_d (mo_d (mo_l (mo_cmpne _ _)) (mo_l (mo_ic _ _))) (mo_d (mo_l (mo_goto _)) (mo_l (mo_ic _ _)))))) (mo_d (mo_d (mo_d (mo_l (mo_iast _)) (mo_d (mo_l (mo_iinc _ _ _)) (mo_l (mo_goto _)))) (mo_d (mo_d (mo_l (mo_ic _ _)) (mo_l (mo_istore _ _))) (mo_d (mo_l (mo_iload _ _)) (mo_l (mo_ic _ _))))) (mo_d (mo_d (mo_l (mo_cmpge _ _)) (mo_d (mo_l (mo_ic _ _)) (mo_l (mo_istore _ _)))) (mo_d (mo_d (mo_l (mo_iload _ _)) (mo_l (mo_aload _ _))) (mo_d (mo_l (mo_gI _ _ _)) (mo_l (mo_cmpge _ _))))))) (mo_d (mo_d (mo_d (mo_d (mo_l (mo_aload _ _)) (mo_d (mo_l (mo_gR _ _ _)) (mo_l (mo_iload _ _)))) (mo_d (mo_d (mo_l (mo_iald _)) (mo_l (mo_ifle _ _))) (mo_d (mo_l (mo_aload _ _)) (mo_l (mo_gR _ _ _))))) (mo_d (mo_d (mo_l (mo_aload _ _)) (mo_d (mo_l (mo_gR _ _ _)) (mo_l (mo_iload _ _)))) (mo_d (mo_d (mo_l (mo_iald _)) (mo_l (mo_iald _))) (mo_d (mo_l (mo_aload _ _)) (mo_l (mo_iload _ _)))))) (mo_d (mo_d (mo_d (mo_l (mo_cI _ _ _ _ (zPre_V _) zHm_0)) (mo_d (mo_l (mo_iadd _)) (mo_l (mo_istore _ _)))) (mo_d (mo_d (mo_l (mo_aload _ _)) (mo_l (mo_gR _ _ _))) (mo_d (mo_l (mo_aload _ _)) (mo_l (mo_gR _ _ _))))) (mo_d (mo_d (mo_l (mo_iload _ _)) (mo_d (mo_l (mo_iald _)) (mo_l (mo_iald _)))) (mo_d (mo_d (mo_l (mo_aload _ _)) (mo_l (mo_iload _ _))) (mo_d (mo_l (mo_cI _ _ _ _ (zPre_V _) zHm_0)) (mo_l (mo_iadd _)))))))) (mo_d (mo_d (mo_d (mo_d (mo_d (mo_l (mo_istore _ _)) (mo_d (mo_l (mo_aload _ _)) (mo_l (mo_gR _ _ _)))) (mo_d (mo_d (mo_l (mo_aload _ _)) (mo_l (mo_gR _ _ _))) (mo_d (mo_l (mo_iload _ _)) (mo_l (mo_iald _))))) (mo_d (mo_d (mo_l (mo_iload _ _)) (mo_d (mo_l (mo_aload _ _)) (mo_l (mo_gR _ _ _)))) (mo_d (mo_d (mo_l (mo_aload _ _)) (mo_l (mo_gR _ _ _))) (mo_d (mo_l (mo_iload _ _)) (mo_l (mo_iald _)))))) (mo_d (mo_d (mo_d (mo_l (mo_iald _)) (mo_d (mo_l (mo_cmpge _ _)) (mo_l (mo_iload _ _)))) (mo_d (mo_d (mo_l (mo_goto _)) (mo_l (mo_aload _ _))) (mo_d (mo_l (mo_gR _ _ _)) (mo_l (mo_aload _ _))))) (mo_d (mo_d (mo_l (mo_gR _ _ _)) (mo_d (mo_l (mo_iload _ _)) (mo_l (mo_iald _)))) (mo_d (mo_d (mo_l (mo_iald _)) (mo_l (mo_iast _))) (mo_d (mo_l (mo_aload _ _)) (mo_l (mo_gR _ _ _))))))) (mo_d (mo_d (mo_d (mo_d (mo_l (mo_aload _ _)) (mo_d (mo_l (mo_gR _ _ _)) (mo_l (mo_iload _ _)))) (mo_d (mo_d (mo_l (mo_iald _)) (mo_l (mo_iload _ _))) (mo_d (mo_l (mo_aload _ _)) (mo_l (mo_gR _ _ _))))) (mo_d (mo_d (mo_l (mo_aload _ _)) (mo_d (mo_l (mo_gR _ _ _)) (mo_l (mo_iload _ _)))) (mo_d (mo_d (mo_l (mo_iald _)) (mo_l (mo_iald _))) (mo_d (mo_l (mo_cmpge _ _)) (mo_l (mo_iload _ _)))))) (mo_d (mo_d (mo_d (mo_l (mo_goto _)) (mo_d (mo_l (mo_aload _ _)) (mo_l (mo_gR _ _ _)))) (mo_d (mo_d (mo_l (mo_aload _ _)) (mo_l (mo_gR _ _ _))) (mo_d (mo_l (mo_iload _ _)) (mo_l (mo_iald _))))) (mo_d (mo_d (mo_l (mo_iald _)) (mo_d (mo_l (mo_iast _)) (mo_l (mo_iinc _ _ _)))) (mo_d (mo_d (mo_l (mo_goto _)) (mo_l (mo_iinc _ _ _))) (mo_d (mo_l (mo_goto _)) (mo_l (mo_rV)))))))))
def zc_X12_isTaken (G : Nat × Nat) : Nat → zSem := fun pc =>
 znd pc 32
 (znd pc 16
 (znd pc 5
 (znd pc 2
 (znd pc 1
 (zlf pc 0 (s_ic 0 1))
 (zlf pc 1 (s_istore 2 2)))
 (znd pc 3
 (zlf pc 2 (s_ic 0 3))
 (znd pc 4
 (zlf pc 3 (s_istore 3 4))
 (zlf pc 4 (s_iload 3 5)))))
 (znd pc 9
 (znd pc 6
 (zlf pc 5 (s_aload 0 6))
 (zlf pc 6 (s_gI 13 10 9)))
 (znd pc 12
 (zlf pc 9 (s_cmpge 63 12))
 (znd pc 13
 (zlf pc 12 (s_iload 2 13))
 (zlf pc 13 (s_ifne 51 16))))))
 (znd pc 25
 (znd pc 20
 (znd pc 17
 (zlf pc 16 (s_aload 0 17))
 (zlf pc 17 (s_gR 13 11 20)))
 (znd pc 21
 (zlf pc 20 (s_iload 3 21))
 (znd pc 22
 (zlf pc 21 (s_zald 22))
 (zlf pc 22 (s_ifne 55 25)))))
 (znd pc 29
 (znd pc 26
 (zlf pc 25 (s_aload 0 26))
 (zlf pc 26 (s_gR 13 12 29)))
 (znd pc 30
 (zlf pc 29 (s_ic 2 30))
 (znd pc 31
 (zlf pc 30 (s_iload 3 31))
 (zlf pc 31 (s_imul 32)))))))
 (znd pc 46
 (znd pc 41
 (znd pc 34
 (znd pc 33
 (zlf pc 32 (s_iald 33))
 (zlf pc 33 (s_iload 1 34)))
 (znd pc 37
 (zlf pc 34 (s_cmpeq 51 37))
 (znd pc 38
 (zlf pc 37 (s_aload 0 38))
 (zlf pc 38 (s_gR 13 12 41)))))
 (znd pc 43
 (znd pc 42
 (zlf pc 41 (s_ic 2 42))
 (zlf pc 42 (s_iload 3 43)))
 (znd pc 44
 (zlf pc 43 (s_imul 44))
 (znd pc 45
 (zlf pc 44 (s_ic 1 45))
 (zlf pc 45 (s_iadd 46))))))
 (znd pc 55
 (znd pc 48
 (znd pc 47
 (zlf pc 46 (s_iald 47))
 (zlf pc 47 (s_iload 1 48)))
 (znd pc 51
 (zlf pc 48 (s_cmpne 55 51))
 (znd pc 52
 (zlf pc 51 (s_ic 1 52))
 (zlf pc 52 (s_goto 56)))))
 (znd pc 60
 (znd pc 56
 (zlf pc 55 (s_ic 0 56))
 (znd pc 57
 (zlf pc 56 (s_istore 2 57))
 (zlf pc 57 (s_iinc 3 1 60))))
 (znd pc 63
 (zlf pc 60 (s_goto 4))
 (znd pc 64
 (zlf pc 63 (s_iload 2 64))
 (zlf pc 64 (s_rZ)))))))
theorem zm_X12_isTaken (G : Nat × Nat) (pc : Nat) : zMon (zc_X12_isTaken G pc) := (mo_d (mo_d (mo_d (mo_d (mo_d (mo_l (mo_ic _ _)) (mo_l (mo_istore _ _))) (mo_d (mo_l (mo_ic _ _)) (mo_d (mo_l (mo_istore _ _)) (mo_l (mo_iload _ _))))) (mo_d (mo_d (mo_l (mo_aload _ _)) (mo_l (mo_gI _ _ _))) (mo_d (mo_l (mo_cmpge _ _)) (mo_d (mo_l (mo_iload _ _)) (mo_l (mo_ifne _ _)))))) (mo_d (mo_d (mo_d (mo_l (mo_aload _ _)) (mo_l (mo_gR _ _ _))) (mo_d (mo_l (mo_iload _ _)) (mo_d (mo_l (mo_zald _)) (mo_l (mo_ifne _ _))))) (mo_d (mo_d (mo_l (mo_aload _ _)) (mo_l (mo_gR _ _ _))) (mo_d (mo_l (mo_ic _ _)) (mo_d (mo_l (mo_iload _ _)) (mo_l (mo_imul _))))))) (mo_d (mo_d (mo_d (mo_d (mo_l (mo_iald _)) (mo_l (mo_iload _ _))) (mo_d (mo_l (mo_cmpeq _ _)) (mo_d (mo_l (mo_aload _ _)) (mo_l (mo_gR _ _ _))))) (mo_d (mo_d (mo_l (mo_ic _ _)) (mo_l (mo_iload _ _))) (mo_d (mo_l (mo_imul _)) (mo_d (mo_l (mo_ic _ _)) (mo_l (mo_iadd _)))))) (mo_d (mo_d (mo_d (mo_l (mo_iald _)) (mo_l (mo_iload _ _))) (mo_d (mo_l (mo_cmpne _ _)) (mo_d (mo_l (mo_ic _ _)) (mo_l (mo_goto _))))) (mo_d (mo_d (mo_l (mo_ic _ _)) (mo_d (mo_l (mo_istore _ _)) (mo_l (mo_iinc _ _ _)))) (mo_d (mo_l (mo_goto _)) (mo_d (mo_l (mo_iload _ _)) (mo_l (mo_rZ))))))))
def zc_X12_across (G : Nat × Nat) : Nat → zSem := fun pc =>
 znd pc 20
 (znd pc 10
 (znd pc 5
 (znd pc 1
 (zlf pc 0 (s_aload 0 1))
 (znd pc 4
 (zlf pc 1 (s_gR 13 1 4))
 (zlf pc 4 (s_iload 1 5))))
 (znd pc 6
 (zlf pc 5 (s_iald 6))
 (znd pc 7
 (zlf pc 6 (s_iload 2 7))
 (zlf pc 7 (s_cmpne 19 10)))))
 (znd pc 15
 (znd pc 11
 (zlf pc 10 (s_aload 0 11))
 (znd pc 14
 (zlf pc 11 (s_gR 13 2 14))
 (zlf pc 14 (s_iload 1 15))))
 (znd pc 16
 (zlf pc 15 (s_iald 16))
 (znd pc 19
 (zlf pc 16 (s_goto 39))
 (zlf pc 19 (s_aload 0 20))))))
 (znd pc 30
 (znd pc 25
 (znd pc 23
 (zlf pc 20 (s_gR 13 2 23))
 (znd pc 24
 (zlf pc 23 (s_iload 1 24))
 (zlf pc 24 (s_iald 25))))
 (znd pc 26
 (zlf pc 25 (s_iload 2 26))
 (znd pc 29
 (zlf pc 26 (s_cmpne 38 29))
 (zlf pc 29 (s_aload 0 30)))))
 (znd pc 35
 (znd pc 33
 (zlf pc 30 (s_gR 13 1 33))
 (znd pc 34
 (zlf pc 33 (s_iload 1 34))
 (zlf pc 34 (s_iald 35))))
 (znd pc 38
 (zlf pc 35 (s_goto 39))
 (znd pc 39
 (zlf pc 38 (s_ic (-1) 39))
 (zlf pc 39 (s_rI))))))
theorem zm_X12_across (G : Nat × Nat) (pc : Nat) : zMon (zc_X12_across G pc) := (mo_d (mo_d (mo_d (mo_d (mo_l (mo_aload _ _)) (mo_d (mo_l (mo_gR _ _ _)) (mo_l (mo_iload _ _)))) (mo_d (mo_l (mo_iald _)) (mo_d (mo_l (mo_iload _ _)) (mo_l (mo_cmpne _ _))))) (mo_d (mo_d (mo_l (mo_aload _ _)) (mo_d (mo_l (mo_gR _ _ _)) (mo_l (mo_iload _ _)))) (mo_d (mo_l (mo_iald _)) (mo_d (mo_l (mo_goto _)) (mo_l (mo_aload _ _)))))) (mo_d (mo_d (mo_d (mo_l (mo_gR _ _ _)) (mo_d (mo_l (mo_iload _ _)) (mo_l (mo_iald _)))) (mo_d (mo_l (mo_iload _ _)) (mo_d (mo_l (mo_cmpne _ _)) (mo_l (mo_aload _ _))))) (mo_d (mo_d (mo_l (mo_gR _ _ _)) (mo_d (mo_l (mo_iload _ _)) (mo_l (mo_iald _)))) (mo_d (mo_l (mo_goto _)) (mo_d (mo_l (mo_ic _ _)) (mo_l (mo_rI)))))))
def zc_X12_lays (G : Nat × Nat) : Nat → zSem := fun pc =>
 znd pc 97
 (znd pc 43
 (znd pc 19
 (znd pc 8
 (znd pc 5
 (znd pc 1
 (zlf pc 0 (s_aload 0 1))
 (znd pc 4
 (zlf pc 1 (s_gR 13 14 4))
 (zlf pc 4 (s_iload 1 5))))
 (znd pc 6
 (zlf pc 5 (s_ic 0 6))
 (znd pc 7
 (zlf pc 6 (s_iast 7))
 (zlf pc 7 (s_iload 2 8)))))
 (znd pc 13
 (znd pc 9
 (zlf pc 8 (s_istore 3 9))
 (znd pc 10
 (zlf pc 9 (s_aload 0 10))
 (zlf pc 10 (s_gR 13 16 13))))
 (znd pc 15
 (znd pc 14
 (zlf pc 13 (s_iload 3 14))
 (zlf pc 14 (s_iald 15)))
 (znd pc 18
 (zlf pc 15 (s_ifle 136 18))
 (zlf pc 18 (s_ic (-1) 19))))))
 (znd pc 29
 (znd pc 25
 (znd pc 21
 (zlf pc 19 (s_istore 4 21))
 (znd pc 22
 (zlf pc 21 (s_aload 0 22))
 (zlf pc 22 (s_gI 13 0 25))))
 (znd pc 26
 (zlf pc 25 (s_ic 1 26))
 (znd pc 27
 (zlf pc 26 (s_isub 27))
 (zlf pc 27 (s_istore 5 29)))))
 (znd pc 35
 (znd pc 31
 (zlf pc 29 (s_iload 5 31))
 (znd pc 34
 (zlf pc 31 (s_iflt 97 34))
 (zlf pc 34 (s_aload 0 35))))
 (znd pc 38
 (znd pc 37
 (zlf pc 35 (s_iload 5 37))
 (zlf pc 37 (s_iload 3 38)))
 (znd pc 41
 (zlf pc 38 (s_cI (zpV 13) 73 3 [] zx0 41))
 (zlf pc 41 (s_istore 6 43)))))))
 (znd pc 67
 (znd pc 55
 (znd pc 49
 (znd pc 45
 (zlf pc 43 (s_iload 6 45))
 (znd pc 46
 (zlf pc 45 (s_ic (-1) 46))
 (zlf pc 46 (s_cmpeq 87 49))))
 (znd pc 50
 (zlf pc 49 (s_aload 0 50))
 (znd pc 53
 (zlf pc 50 (s_gR 13 4 53))
 (zlf pc 53 (s_iload 5 55)))))
 (znd pc 60
 (znd pc 56
 (zlf pc 55 (s_iald 56))
 (znd pc 59
 (zlf pc 56 (s_ifle 87 59))
 (zlf pc 59 (s_aload 0 60))))
 (znd pc 65
 (znd pc 63
 (zlf pc 60 (s_gR 13 16 63))
 (zlf pc 63 (s_iload 6 65)))
 (znd pc 66
 (zlf pc 65 (s_iald 66))
 (zlf pc 66 (s_aload 0 67))))))
 (znd pc 79
 (znd pc 73
 (znd pc 69
 (zlf pc 67 (s_iload 5 69))
 (znd pc 72
 (zlf pc 69 (s_cI (zpV 13) 70 2 [] zx0 72))
 (zlf pc 72 (s_iadd 73))))
 (znd pc 77
 (znd pc 74
 (zlf pc 73 (s_aload 0 74))
 (zlf pc 74 (s_gR 13 16 77)))
 (znd pc 78
 (zlf pc 77 (s_iload 3 78))
 (zlf pc 78 (s_iald 79)))))
 (znd pc 87
 (znd pc 82
 (zlf pc 79 (s_cmpne 87 82))
 (znd pc 84
 (zlf pc 82 (s_iload 5 84))
 (zlf pc 84 (s_goto 89))))
 (znd pc 91
 (znd pc 89
 (zlf pc 87 (s_iload 4 89))
 (zlf pc 89 (s_istore 4 91)))
 (znd pc 94
 (zlf pc 91 (s_iinc 5 (-1) 94))
 (zlf pc 94 (s_goto 29))))))))
 (znd pc 138
 (znd pc 116
 (znd pc 106
 (znd pc 103
 (znd pc 98
 (zlf pc 97 (s_aload 0 98))
 (znd pc 101
 (zlf pc 98 (s_gR 13 15 101))
 (zlf pc 101 (s_ic 16 103))))
 (znd pc 104
 (zlf pc 103 (s_iload 1 104))
 (znd pc 105
 (zlf pc 104 (s_imul 105))
 (zlf pc 105 (s_aload 0 106)))))
 (znd pc 111
 (znd pc 109
 (zlf pc 106 (s_gR 13 14 109))
 (znd pc 110
 (zlf pc 109 (s_iload 1 110))
 (zlf pc 110 (s_iald 111))))
 (znd pc 114
 (znd pc 112
 (zlf pc 111 (s_iadd 112))
 (zlf pc 112 (s_iload 4 114)))
 (znd pc 115
 (zlf pc 114 (s_iast 115))
 (zlf pc 115 (s_aload 0 116))))))
 (znd pc 125
 (znd pc 121
 (znd pc 119
 (zlf pc 116 (s_gR 13 14 119))
 (znd pc 120
 (zlf pc 119 (s_iload 1 120))
 (zlf pc 120 (s_dup2 121))))
 (znd pc 123
 (znd pc 122
 (zlf pc 121 (s_iald 122))
 (zlf pc 122 (s_ic 1 123)))
 (znd pc 124
 (zlf pc 123 (s_iadd 124))
 (zlf pc 124 (s_iast 125)))))
 (znd pc 129
 (znd pc 126
 (zlf pc 125 (s_aload 0 126))
 (znd pc 128
 (zlf pc 126 (s_iload 4 128))
 (zlf pc 128 (s_iload 3 129))))
 (znd pc 133
 (znd pc 132
 (zlf pc 129 (s_cI (zpV 13) 73 3 [] zx0 132))
 (zlf pc 132 (s_istore 3 133)))
 (znd pc 136
 (zlf pc 133 (s_goto 9))
 (zlf pc 136 (s_ic 16 138)))))))
 (znd pc 158
 (znd pc 147
 (znd pc 142
 (znd pc 139
 (zlf pc 138 (s_iload 1 139))
 (znd pc 140
 (zlf pc 139 (s_imul 140))
 (zlf pc 140 (s_istore 4 142))))
 (znd pc 144
 (zlf pc 142 (s_iload 4 144))
 (znd pc 146
 (zlf pc 144 (s_ic 16 146))
 (zlf pc 146 (s_iload 1 147)))))
 (znd pc 152
 (znd pc 148
 (zlf pc 147 (s_imul 148))
 (znd pc 149
 (zlf pc 148 (s_aload 0 149))
 (zlf pc 149 (s_gR 13 14 152))))
 (znd pc 154
 (znd pc 153
 (zlf pc 152 (s_iload 1 153))
 (zlf pc 153 (s_iald 154)))
 (znd pc 155
 (zlf pc 154 (s_iadd 155))
 (zlf pc 155 (s_cmpge 180 158))))))
 (znd pc 170
 (znd pc 163
 (znd pc 159
 (zlf pc 158 (s_aload 0 159))
 (znd pc 162
 (zlf pc 159 (s_gR 13 4 162))
 (zlf pc 162 (s_aload 0 163))))
 (znd pc 168
 (znd pc 166
 (zlf pc 163 (s_gR 13 15 166))
 (zlf pc 166 (s_iload 4 168)))
 (znd pc 169
 (zlf pc 168 (s_iald 169))
 (zlf pc 169 (s_dup2 170)))))
 (znd pc 173
 (znd pc 171
 (zlf pc 170 (s_iald 171))
 (znd pc 172
 (zlf pc 171 (s_ic 1 172))
 (zlf pc 172 (s_isub 173))))
 (znd pc 177
 (znd pc 174
 (zlf pc 173 (s_iast 174))
 (zlf pc 174 (s_iinc 4 1 177)))
 (znd pc 180
 (zlf pc 177 (s_goto 142))
 (zlf pc 180 (s_rV))))))))
theorem zm_X12_lays (G : Nat × Nat) (pc : Nat) : zMon (zc_X12_lays G pc) := (mo_d (mo_d (mo_d (mo_d (mo_d (mo_d (mo_l (mo_aload _ _)) (mo_d (mo_l (mo_gR _ _ _)) (mo_l (mo_iload _ _)))) (mo_d (mo_l (mo_ic _ _)) (mo_d (mo_l (mo_iast _)) (mo_l (mo_iload _ _))))) (mo_d (mo_d (mo_l (mo_istore _ _)) (mo_d (mo_l (mo_aload _ _)) (mo_l (mo_gR _ _ _)))) (mo_d (mo_d (mo_l (mo_iload _ _)) (mo_l (mo_iald _))) (mo_d (mo_l (mo_ifle _ _)) (mo_l (mo_ic _ _)))))) (mo_d (mo_d (mo_d (mo_l (mo_istore _ _)) (mo_d (mo_l (mo_aload _ _)) (mo_l (mo_gI _ _ _)))) (mo_d (mo_l (mo_ic _ _)) (mo_d (mo_l (mo_isub _)) (mo_l (mo_istore _ _))))) (mo_d (mo_d (mo_l (mo_iload _ _)) (mo_d (mo_l (mo_iflt _ _)) (mo_l (mo_aload _ _)))) (mo_d (mo_d (mo_l (mo_iload _ _)) (mo_l (mo_iload _ _))) (mo_d (mo_l (mo_cI _ _ _ _ (zPre_V _) zHm_0)) (mo_l (mo_istore _ _))))))) (mo_d (mo_d (mo_d (mo_d (mo_l (mo_iload _ _)) (mo_d (mo_l (mo_ic _ _)) (mo_l (mo_cmpeq _ _)))) (mo_d (mo_l (mo_aload _ _)) (mo_d (mo_l (mo_gR _ _ _)) (mo_l (mo_iload _ _))))) (mo_d (mo_d (mo_l (mo_iald _)) (mo_d (mo_l (mo_ifle _ _)) (mo_l (mo_aload _ _)))) (mo_d (mo_d (mo_l (mo_gR _ _ _)) (mo_l (mo_iload _ _))) (mo_d (mo_l (mo_iald _)) (mo_l (mo_aload _ _)))))) (mo_d (mo_d (mo_d (mo_l (mo_iload _ _)) (mo_d (mo_l (mo_cI _ _ _ _ (zPre_V _) zHm_0)) (mo_l (mo_iadd _)))) (mo_d (mo_d (mo_l (mo_aload _ _)) (mo_l (mo_gR _ _ _))) (mo_d (mo_l (mo_iload _ _)) (mo_l (mo_iald _))))) (mo_d (mo_d (mo_l (mo_cmpne _ _)) (mo_d (mo_l (mo_iload _ _)) (mo_l (mo_goto _)))) (mo_d (mo_d (mo_l (mo_iload _ _)) (mo_l (mo_istore _ _))) (mo_d (mo_l (mo_iinc _ _ _)) (mo_l (mo_goto _)))))))) (mo_d (mo_d (mo_d (mo_d (mo_d (mo_l (mo_aload _ _)) (mo_d (mo_l (mo_gR _ _ _)) (mo_l (mo_ic _ _)))) (mo_d (mo_l (mo_iload _ _)) (mo_d (mo_l (mo_imul _)) (mo_l (mo_aload _ _))))) (mo_d (mo_d (mo_l (mo_gR _ _ _)) (mo_d (mo_l (mo_iload _ _)) (mo_l (mo_iald _)))) (mo_d (mo_d (mo_l (mo_iadd _)) (mo_l (mo_iload _ _))) (mo_d (mo_l (mo_iast _)) (mo_l (mo_aload _ _)))))) (mo_d (mo_d (mo_d (mo_l (mo_gR _ _ _)) (mo_d (mo_l (mo_iload _ _)) (mo_l (mo_dup2 _)))) (mo_d (mo_d (mo_l (mo_iald _)) (mo_l (mo_ic _ _))) (mo_d (mo_l (mo_iadd _)) (mo_l (mo_iast _))))) (mo_d (mo_d (mo_l (mo_aload _ _)) (mo_d (mo_l (mo_iload _ _)) (mo_l (mo_iload _ _)))) (mo_d (mo_d (mo_l (mo_cI _ _ _ _ (zPre_V _) zHm_0)) (mo_l (mo_istore _ _))) (mo_d (mo_l (mo_goto _)) (mo_l (mo_ic _ _))))))) (mo_d (mo_d (mo_d (mo_d (mo_l (mo_iload _ _)) (mo_d (mo_l (mo_imul _)) (mo_l (mo_istore _ _)))) (mo_d (mo_l (mo_iload _ _)) (mo_d (mo_l (mo_ic _ _)) (mo_l (mo_iload _ _))))) (mo_d (mo_d (mo_l (mo_imul _)) (mo_d (mo_l (mo_aload _ _)) (mo_l (mo_gR _ _ _)))) (mo_d (mo_d (mo_l (mo_iload _ _)) (mo_l (mo_iald _))) (mo_d (mo_l (mo_iadd _)) (mo_l (mo_cmpge _ _)))))) (mo_d (mo_d (mo_d (mo_l (mo_aload _ _)) (mo_d (mo_l (mo_gR _ _ _)) (mo_l (mo_aload _ _)))) (mo_d (mo_d (mo_l (mo_gR _ _ _)) (mo_l (mo_iload _ _))) (mo_d (mo_l (mo_iald _)) (mo_l (mo_dup2 _))))) (mo_d (mo_d (mo_l (mo_iald _)) (mo_d (mo_l (mo_ic _ _)) (mo_l (mo_isub _)))) (mo_d (mo_d (mo_l (mo_iast _)) (mo_l (mo_iinc _ _ _))) (mo_d (mo_l (mo_goto _)) (mo_l (mo_rV)))))))))
def zc_X12_wire (G : Nat × Nat) : Nat → zSem := fun pc =>
 znd pc 120
 (znd pc 61
 (znd pc 28
 (znd pc 13
 (znd pc 6
 (znd pc 2
 (znd pc 1
 (zlf pc 0 (s_aload 0 1))
 (zlf pc 1 (s_iload 1 2)))
 (znd pc 3
 (zlf pc 2 (s_iload 2 3))
 (zlf pc 3 (s_cI (zpV 13) 69 3 [] zx0 6))))
 (znd pc 10
 (znd pc 9
 (zlf pc 6 (s_ifeq 23 9))
 (zlf pc 9 (s_aload 0 10)))
 (znd pc 11
 (zlf pc 10 (s_iload 3 11))
 (zlf pc 11 (s_iload 4 13)))))
 (znd pc 23
 (znd pc 19
 (znd pc 16
 (zlf pc 13 (s_cI (zpV 13) 69 3 [] zx0 16))
 (zlf pc 16 (s_ifeq 23 19)))
 (znd pc 20
 (zlf pc 19 (s_ic 1 20))
 (zlf pc 20 (s_goto 24))))
 (znd pc 26
 (znd pc 24
 (zlf pc 23 (s_ic 0 24))
 (zlf pc 24 (s_istore 6 26)))
 (znd pc 27
 (zlf pc 26 (s_iload 1 27))
 (zlf pc 27 (s_iload 3 28))))))
 (znd pc 46
 (znd pc 36
 (znd pc 33
 (znd pc 31
 (zlf pc 28 (s_cmpeq 46 31))
 (zlf pc 31 (s_iload 5 33)))
 (znd pc 34
 (zlf pc 33 (s_ic 0 34))
 (zlf pc 34 (s_ic 7 36))))
 (znd pc 42
 (znd pc 39
 (zlf pc 36 (s_cI zpS 31 3 [] zx0 39))
 (zlf pc 39 (s_ifeq 46 42)))
 (znd pc 43
 (zlf pc 42 (s_ic 1 43))
 (zlf pc 43 (s_goto 47)))))
 (znd pc 54
 (znd pc 49
 (znd pc 47
 (zlf pc 46 (s_ic 0 47))
 (zlf pc 47 (s_istore 7 49)))
 (znd pc 51
 (zlf pc 49 (s_iload 6 51))
 (zlf pc 51 (s_ifeq 69 54))))
 (znd pc 59
 (znd pc 56
 (zlf pc 54 (s_iload 7 56))
 (zlf pc 56 (s_ifeq 69 59)))
 (znd pc 60
 (zlf pc 59 (s_aload 0 60))
 (zlf pc 60 (s_aload 0 61)))))))
 (znd pc 86
 (znd pc 74
 (znd pc 69
 (znd pc 65
 (znd pc 64
 (zlf pc 61 (s_gR 13 6 64))
 (zlf pc 64 (s_iload 3 65)))
 (znd pc 66
 (zlf pc 65 (s_iald 66))
 (zlf pc 66 (s_cV (zpV 13) 71 2 [zU, zU, zU, zU] zx0 69))))
 (znd pc 72
 (znd pc 71
 (zlf pc 69 (s_ic 8 71))
 (zlf pc 71 (s_iload 1 72)))
 (znd pc 73
 (zlf pc 72 (s_imul 73))
 (zlf pc 73 (s_iload 2 74)))))
 (znd pc 80
 (znd pc 77
 (znd pc 75
 (zlf pc 74 (s_iadd 75))
 (zlf pc 75 (s_istore 8 77)))
 (znd pc 79
 (zlf pc 77 (s_ic 8 79))
 (zlf pc 79 (s_iload 3 80))))
 (znd pc 83
 (znd pc 81
 (zlf pc 80 (s_imul 81))
 (zlf pc 81 (s_iload 4 83)))
 (znd pc 84
 (zlf pc 83 (s_iadd 84))
 (zlf pc 84 (s_istore 9 86))))))
 (znd pc 102
 (znd pc 93
 (znd pc 89
 (znd pc 87
 (zlf pc 86 (s_aload 0 87))
 (zlf pc 87 (s_iload 6 89)))
 (znd pc 92
 (zlf pc 89 (s_ifne 96 92))
 (zlf pc 92 (s_ic 1 93))))
 (znd pc 98
 (znd pc 96
 (zlf pc 93 (s_goto 153))
 (zlf pc 96 (s_iload 7 98)))
 (znd pc 101
 (zlf pc 98 (s_ifne 105 101))
 (zlf pc 101 (s_ic 2 102)))))
 (znd pc 111
 (znd pc 106
 (znd pc 105
 (zlf pc 102 (s_goto 153))
 (zlf pc 105 (s_aload 0 106)))
 (znd pc 108
 (zlf pc 106 (s_iload 8 108))
 (zlf pc 108 (s_cI (zpV 13) 72 2 [zU, zU] zx0 111))))
 (znd pc 115
 (znd pc 114
 (zlf pc 111 (s_ifne 148 114))
 (zlf pc 114 (s_aload 0 115)))
 (znd pc 117
 (zlf pc 115 (s_iload 9 117))
 (zlf pc 117 (s_cI (zpV 13) 72 2 [zU, zU] zx0 120))))))))
 (znd pc 179
 (znd pc 152
 (znd pc 134
 (znd pc 128
 (znd pc 124
 (znd pc 123
 (zlf pc 120 (s_ifne 148 123))
 (zlf pc 123 (s_aload 0 124)))
 (znd pc 127
 (zlf pc 124 (s_gR 13 16 127))
 (zlf pc 127 (s_aload 0 128))))
 (znd pc 132
 (znd pc 131
 (zlf pc 128 (s_gR 13 6 131))
 (zlf pc 131 (s_iload 1 132)))
 (znd pc 133
 (zlf pc 132 (s_iald 133))
 (zlf pc 133 (s_iald 134)))))
 (znd pc 143
 (znd pc 139
 (znd pc 136
 (zlf pc 134 (s_ic 1000000000 136))
 (zlf pc 136 (s_cmpge 148 139)))
 (znd pc 140
 (zlf pc 139 (s_aload 0 140))
 (zlf pc 140 (s_gI 13 10 143))))
 (znd pc 148
 (znd pc 145
 (zlf pc 143 (s_ic 24 145))
 (zlf pc 145 (s_cmpne 152 148)))
 (znd pc 149
 (zlf pc 148 (s_ic 3 149))
 (zlf pc 149 (s_goto 153))))))
 (znd pc 166
 (znd pc 160
 (znd pc 156
 (znd pc 153
 (zlf pc 152 (s_ic 0 153))
 (zlf pc 153 (s_cI (zpV 13) 33 2 [] zx0 156)))
 (znd pc 159
 (zlf pc 156 (s_ifeq 161 159))
 (zlf pc 159 (s_ic 0 160))))
 (znd pc 162
 (znd pc 161
 (zlf pc 160 (s_rI))
 (zlf pc 161 (s_aload 0 162)))
 (znd pc 165
 (zlf pc 162 (s_gR 13 12 165))
 (zlf pc 165 (s_ic 2 166)))))
 (znd pc 173
 (znd pc 170
 (znd pc 167
 (zlf pc 166 (s_aload 0 167))
 (zlf pc 167 (s_gI 13 10 170)))
 (znd pc 171
 (zlf pc 170 (s_imul 171))
 (zlf pc 171 (s_iload 8 173))))
 (znd pc 175
 (znd pc 174
 (zlf pc 173 (s_iast 174))
 (zlf pc 174 (s_aload 0 175)))
 (znd pc 178
 (zlf pc 175 (s_gR 13 12 178))
 (zlf pc 178 (s_ic 2 179)))))))
 (znd pc 205
 (znd pc 190
 (znd pc 185
 (znd pc 183
 (znd pc 180
 (zlf pc 179 (s_aload 0 180))
 (zlf pc 180 (s_gI 13 10 183)))
 (znd pc 184
 (zlf pc 183 (s_imul 184))
 (zlf pc 184 (s_ic 1 185))))
 (znd pc 188
 (znd pc 186
 (zlf pc 185 (s_iadd 186))
 (zlf pc 186 (s_iload 9 188)))
 (znd pc 189
 (zlf pc 188 (s_iast 189))
 (zlf pc 189 (s_aload 0 190)))))
 (znd pc 199
 (znd pc 194
 (znd pc 193
 (zlf pc 190 (s_gR 13 13 193))
 (zlf pc 193 (s_aload 0 194)))
 (znd pc 197
 (zlf pc 194 (s_gI 13 10 197))
 (zlf pc 197 (s_iload 5 199))))
 (znd pc 201
 (znd pc 200
 (zlf pc 199 (s_iast 200))
 (zlf pc 200 (s_aload 0 201)))
 (znd pc 202
 (zlf pc 201 (s_aload 0 202))
 (zlf pc 202 (s_gI 13 10 205))))))
 (znd pc 219
 (znd pc 211
 (znd pc 209
 (znd pc 206
 (zlf pc 205 (s_aload 0 206))
 (zlf pc 206 (s_gR 13 6 209)))
 (znd pc 210
 (zlf pc 209 (s_iload 1 210))
 (zlf pc 210 (s_iald 211))))
 (znd pc 215
 (znd pc 214
 (zlf pc 211 (s_cV (zpV 13) 74 3 [zU, zU, zU, zU] zx0 214))
 (zlf pc 214 (s_aload 0 215)))
 (znd pc 216
 (zlf pc 215 (s_dup 216))
 (zlf pc 216 (s_gI 13 10 219)))))
 (znd pc 225
 (znd pc 221
 (znd pc 220
 (zlf pc 219 (s_ic 1 220))
 (zlf pc 220 (s_iadd 221)))
 (znd pc 224
 (zlf pc 221 (s_pI 13 10 224))
 (zlf pc 224 (s_aload 0 225))))
 (znd pc 229
 (znd pc 228
 (zlf pc 225 (s_gI 13 10 228))
 (zlf pc 228 (s_ic 1 229)))
 (znd pc 230
 (zlf pc 229 (s_isub 230))
 (zlf pc 230 (s_rI))))))))
theorem zm_X12_wire (G : Nat × Nat) (pc : Nat) : zMon (zc_X12_wire G pc) := (mo_d (mo_d (mo_d (mo_d (mo_d (mo_d (mo_d (mo_l (mo_aload _ _)) (mo_l (mo_iload _ _))) (mo_d (mo_l (mo_iload _ _)) (mo_l (mo_cI _ _ _ _ (zPre_V _) zHm_0)))) (mo_d (mo_d (mo_l (mo_ifeq _ _)) (mo_l (mo_aload _ _))) (mo_d (mo_l (mo_iload _ _)) (mo_l (mo_iload _ _))))) (mo_d (mo_d (mo_d (mo_l (mo_cI _ _ _ _ (zPre_V _) zHm_0)) (mo_l (mo_ifeq _ _))) (mo_d (mo_l (mo_ic _ _)) (mo_l (mo_goto _)))) (mo_d (mo_d (mo_l (mo_ic _ _)) (mo_l (mo_istore _ _))) (mo_d (mo_l (mo_iload _ _)) (mo_l (mo_iload _ _)))))) (mo_d (mo_d (mo_d (mo_d (mo_l (mo_cmpeq _ _)) (mo_l (mo_iload _ _))) (mo_d (mo_l (mo_ic _ _)) (mo_l (mo_ic _ _)))) (mo_d (mo_d (mo_l (mo_cI _ _ _ _ zPre_S zHm_0)) (mo_l (mo_ifeq _ _))) (mo_d (mo_l (mo_ic _ _)) (mo_l (mo_goto _))))) (mo_d (mo_d (mo_d (mo_l (mo_ic _ _)) (mo_l (mo_istore _ _))) (mo_d (mo_l (mo_iload _ _)) (mo_l (mo_ifeq _ _)))) (mo_d (mo_d (mo_l (mo_iload _ _)) (mo_l (mo_ifeq _ _))) (mo_d (mo_l (mo_aload _ _)) (mo_l (mo_aload _ _))))))) (mo_d (mo_d (mo_d (mo_d (mo_d (mo_l (mo_gR _ _ _)) (mo_l (mo_iload _ _))) (mo_d (mo_l (mo_iald _)) (mo_l (mo_cV _ _ _ _ (zPre_V _) zHm_0)))) (mo_d (mo_d (mo_l (mo_ic _ _)) (mo_l (mo_iload _ _))) (mo_d (mo_l (mo_imul _)) (mo_l (mo_iload _ _))))) (mo_d (mo_d (mo_d (mo_l (mo_iadd _)) (mo_l (mo_istore _ _))) (mo_d (mo_l (mo_ic _ _)) (mo_l (mo_iload _ _)))) (mo_d (mo_d (mo_l (mo_imul _)) (mo_l (mo_iload _ _))) (mo_d (mo_l (mo_iadd _)) (mo_l (mo_istore _ _)))))) (mo_d (mo_d (mo_d (mo_d (mo_l (mo_aload _ _)) (mo_l (mo_iload _ _))) (mo_d (mo_l (mo_ifne _ _)) (mo_l (mo_ic _ _)))) (mo_d (mo_d (mo_l (mo_goto _)) (mo_l (mo_iload _ _))) (mo_d (mo_l (mo_ifne _ _)) (mo_l (mo_ic _ _))))) (mo_d (mo_d (mo_d (mo_l (mo_goto _)) (mo_l (mo_aload _ _))) (mo_d (mo_l (mo_iload _ _)) (mo_l (mo_cI _ _ _ _ (zPre_V _) zHm_0)))) (mo_d (mo_d (mo_l (mo_ifne _ _)) (mo_l (mo_aload _ _))) (mo_d (mo_l (mo_iload _ _)) (mo_l (mo_cI _ _ _ _ (zPre_V _) zHm_0)))))))) (mo_d (mo_d (mo_d (mo_d (mo_d (mo_d (mo_l (mo_ifne _ _)) (mo_l (mo_aload _ _))) (mo_d (mo_l (mo_gR _ _ _)) (mo_l (mo_aload _ _)))) (mo_d (mo_d (mo_l (mo_gR _ _ _)) (mo_l (mo_iload _ _))) (mo_d (mo_l (mo_iald _)) (mo_l (mo_iald _))))) (mo_d (mo_d (mo_d (mo_l (mo_ic _ _)) (mo_l (mo_cmpge _ _))) (mo_d (mo_l (mo_aload _ _)) (mo_l (mo_gI _ _ _)))) (mo_d (mo_d (mo_l (mo_ic _ _)) (mo_l (mo_cmpne _ _))) (mo_d (mo_l (mo_ic _ _)) (mo_l (mo_goto _)))))) (mo_d (mo_d (mo_d (mo_d (mo_l (mo_ic _ _)) (mo_l (mo_cI _ _ _ _ (zPre_V _) zHm_0))) (mo_d (mo_l (mo_ifeq _ _)) (mo_l (mo_ic _ _)))) (mo_d (mo_d (mo_l (mo_rI)) (mo_l (mo_aload _ _))) (mo_d (mo_l (mo_gR _ _ _)) (mo_l (mo_ic _ _))))) (mo_d (mo_d (mo_d (mo_l (mo_aload _ _)) (mo_l (mo_gI _ _ _))) (mo_d (mo_l (mo_imul _)) (mo_l (mo_iload _ _)))) (mo_d (mo_d (mo_l (mo_iast _)) (mo_l (mo_aload _ _))) (mo_d (mo_l (mo_gR _ _ _)) (mo_l (mo_ic _ _))))))) (mo_d (mo_d (mo_d (mo_d (mo_d (mo_l (mo_aload _ _)) (mo_l (mo_gI _ _ _))) (mo_d (mo_l (mo_imul _)) (mo_l (mo_ic _ _)))) (mo_d (mo_d (mo_l (mo_iadd _)) (mo_l (mo_iload _ _))) (mo_d (mo_l (mo_iast _)) (mo_l (mo_aload _ _))))) (mo_d (mo_d (mo_d (mo_l (mo_gR _ _ _)) (mo_l (mo_aload _ _))) (mo_d (mo_l (mo_gI _ _ _)) (mo_l (mo_iload _ _)))) (mo_d (mo_d (mo_l (mo_iast _)) (mo_l (mo_aload _ _))) (mo_d (mo_l (mo_aload _ _)) (mo_l (mo_gI _ _ _)))))) (mo_d (mo_d (mo_d (mo_d (mo_l (mo_aload _ _)) (mo_l (mo_gR _ _ _))) (mo_d (mo_l (mo_iload _ _)) (mo_l (mo_iald _)))) (mo_d (mo_d (mo_l (mo_cV _ _ _ _ (zPre_V _) zHm_0)) (mo_l (mo_aload _ _))) (mo_d (mo_l (mo_dup _)) (mo_l (mo_gI _ _ _))))) (mo_d (mo_d (mo_d (mo_l (mo_ic _ _)) (mo_l (mo_iadd _))) (mo_d (mo_l (mo_pI _ _ _)) (mo_l (mo_aload _ _)))) (mo_d (mo_d (mo_l (mo_gI _ _ _)) (mo_l (mo_ic _ _))) (mo_d (mo_l (mo_isub _)) (mo_l (mo_rI)))))))))
def zc_X11_wireAt (G : Nat × Nat) : Nat → zSem := fun pc =>
 znd pc 17
 (znd pc 5
 (znd pc 1
 (zlf pc 0 (s_iload 1 1))
 (znd pc 2
 (zlf pc 1 (s_aload 0 2))
 (zlf pc 2 (s_gR 12 0 5))))
 (znd pc 11
 (znd pc 8
 (zlf pc 5 (s_gR 5 2 8))
 (zlf pc 8 (s_cI (zpV 0) 16 1 [] zx0 11)))
 (znd pc 14
 (zlf pc 11 (s_cI zpS 12 2 [] zx0 14))
 (zlf pc 14 (s_ifne 25 17)))))
 (znd pc 32
 (znd pc 26
 (znd pc 25
 (zlf pc 17 (s_thr 0))
 (zlf pc 25 (s_aload 0 26)))
 (znd pc 29
 (zlf pc 26 (s_gR 12 0 29))
 (zlf pc 29 (s_gR 5 2 32))))
 (znd pc 36
 (znd pc 33
 (zlf pc 32 (s_iload 1 33))
 (zlf pc 33 (s_cR (zpV 0) 44 2 [] zx0 36)))
 (znd pc 39
 (zlf pc 36 (s_cast 11 39))
 (zlf pc 39 (s_rR)))))
theorem zm_X11_wireAt (G : Nat × Nat) (pc : Nat) : zMon (zc_X11_wireAt G pc) := (mo_d (mo_d (mo_d (mo_l (mo_iload _ _)) (mo_d (mo_l (mo_aload _ _)) (mo_l (mo_gR _ _ _)))) (mo_d (mo_d (mo_l (mo_gR _ _ _)) (mo_l (mo_cI _ _ _ _ (zPre_V _) zHm_0))) (mo_d (mo_l (mo_cI _ _ _ _ zPre_S zHm_0)) (mo_l (mo_ifne _ _))))) (mo_d (mo_d (mo_d (mo_l (mo_thr _)) (mo_l (mo_aload _ _))) (mo_d (mo_l (mo_gR _ _ _)) (mo_l (mo_gR _ _ _)))) (mo_d (mo_d (mo_l (mo_iload _ _)) (mo_l (mo_cR _ _ _ _ (zPre_V _) zHm_0))) (mo_d (mo_l (mo_cast _ _)) (mo_l (mo_rR))))))
def zc_X2_release (G : Nat × Nat) : Nat → zSem := fun pc =>
 znd pc 7
 (znd pc 2
 (znd pc 1
 (zlf pc 0 (s_aload 0 1))
 (zlf pc 1 (s_dup 2)))
 (znd pc 5
 (zlf pc 2 (s_gI 3 4 5))
 (znd pc 6
 (zlf pc 5 (s_ic 1 6))
 (zlf pc 6 (s_iload 1 7)))))
 (znd pc 10
 (znd pc 8
 (zlf pc 7 (s_ishl 8))
 (znd pc 9
 (zlf pc 8 (s_ic (-1) 9))
 (zlf pc 9 (s_ixor 10))))
 (znd pc 11
 (zlf pc 10 (s_iand 11))
 (znd pc 14
 (zlf pc 11 (s_pI 3 4 14))
 (zlf pc 14 (s_rV)))))
theorem zm_X2_release (G : Nat × Nat) (pc : Nat) : zMon (zc_X2_release G pc) := (mo_d (mo_d (mo_d (mo_l (mo_aload _ _)) (mo_l (mo_dup _))) (mo_d (mo_l (mo_gI _ _ _)) (mo_d (mo_l (mo_ic _ _)) (mo_l (mo_iload _ _))))) (mo_d (mo_d (mo_l (mo_ishl _)) (mo_d (mo_l (mo_ic _ _)) (mo_l (mo_ixor _)))) (mo_d (mo_l (mo_iand _)) (mo_d (mo_l (mo_pI _ _ _)) (mo_l (mo_rV))))))
def zc_X10_takeOut (G : Nat × Nat) : Nat → zSem := fun pc =>
 znd pc 30
 (znd pc 16
 (znd pc 6
 (znd pc 2
 (znd pc 1
 (zlf pc 0 (s_aload 0 1))
 (zlf pc 1 (s_ic 1 2)))
 (znd pc 5
 (zlf pc 2 (s_pZ 11 6 5))
 (zlf pc 5 (s_aload 0 6))))
 (znd pc 10
 (znd pc 9
 (zlf pc 6 (s_gR 11 0 9))
 (zlf pc 9 (s_aload 0 10)))
 (znd pc 13
 (zlf pc 10 (s_gI 11 1 13))
 (zlf pc 13 (s_cV (zpV 3) 77 2 [] zx0 16)))))
 (znd pc 24
 (znd pc 20
 (znd pc 17
 (zlf pc 16 (s_aload 0 17))
 (zlf pc 17 (s_gR 11 2 20)))
 (znd pc 21
 (zlf pc 20 (s_aload 0 21))
 (zlf pc 21 (s_gI 11 3 24))))
 (znd pc 28
 (znd pc 27
 (zlf pc 24 (s_cV (zpV 3) 77 2 [] zx0 27))
 (zlf pc 27 (s_ic 0 28)))
 (znd pc 29
 (zlf pc 28 (s_istore 1 29))
 (zlf pc 29 (s_iload 1 30))))))
 (znd pc 48
 (znd pc 40
 (znd pc 34
 (znd pc 31
 (zlf pc 30 (s_aload 0 31))
 (zlf pc 31 (s_gR 11 7 34)))
 (znd pc 37
 (zlf pc 34 (s_cI (zpV 0) 16 1 [] zx0 37))
 (zlf pc 37 (s_cmpge 66 40))))
 (znd pc 44
 (znd pc 41
 (zlf pc 40 (s_aload 0 41))
 (zlf pc 41 (s_gR 11 7 44)))
 (znd pc 45
 (zlf pc 44 (s_iload 1 45))
 (zlf pc 45 (s_cR (zpV 0) 44 2 [] zx0 48)))))
 (znd pc 56
 (znd pc 52
 (znd pc 51
 (zlf pc 48 (s_cast 2 51))
 (zlf pc 51 (s_dup 52)))
 (znd pc 55
 (zlf pc 52 (s_gI 2 4 55))
 (zlf pc 55 (s_ic 1 56))))
 (znd pc 60
 (znd pc 57
 (zlf pc 56 (s_iadd 57))
 (zlf pc 57 (s_pI 2 4 60)))
 (znd pc 63
 (zlf pc 60 (s_iinc 1 1 63))
 (znd pc 66
 (zlf pc 63 (s_goto 29))
 (zlf pc 66 (s_rV)))))))
theorem zm_X10_takeOut (G : Nat × Nat) (pc : Nat) : zMon (zc_X10_takeOut G pc) := (mo_d (mo_d (mo_d (mo_d (mo_d (mo_l (mo_aload _ _)) (mo_l (mo_ic _ _))) (mo_d (mo_l (mo_pZ _ _ _)) (mo_l (mo_aload _ _)))) (mo_d (mo_d (mo_l (mo_gR _ _ _)) (mo_l (mo_aload _ _))) (mo_d (mo_l (mo_gI _ _ _)) (mo_l (mo_cV _ _ _ _ (zPre_V _) zHm_0))))) (mo_d (mo_d (mo_d (mo_l (mo_aload _ _)) (mo_l (mo_gR _ _ _))) (mo_d (mo_l (mo_aload _ _)) (mo_l (mo_gI _ _ _)))) (mo_d (mo_d (mo_l (mo_cV _ _ _ _ (zPre_V _) zHm_0)) (mo_l (mo_ic _ _))) (mo_d (mo_l (mo_istore _ _)) (mo_l (mo_iload _ _)))))) (mo_d (mo_d (mo_d (mo_d (mo_l (mo_aload _ _)) (mo_l (mo_gR _ _ _))) (mo_d (mo_l (mo_cI _ _ _ _ (zPre_V _) zHm_0)) (mo_l (mo_cmpge _ _)))) (mo_d (mo_d (mo_l (mo_aload _ _)) (mo_l (mo_gR _ _ _))) (mo_d (mo_l (mo_iload _ _)) (mo_l (mo_cR _ _ _ _ (zPre_V _) zHm_0))))) (mo_d (mo_d (mo_d (mo_l (mo_cast _ _)) (mo_l (mo_dup _))) (mo_d (mo_l (mo_gI _ _ _)) (mo_l (mo_ic _ _)))) (mo_d (mo_d (mo_l (mo_iadd _)) (mo_l (mo_pI _ _ _))) (mo_d (mo_l (mo_iinc _ _ _)) (mo_d (mo_l (mo_goto _)) (mo_l (mo_rV))))))))
def zc_X11_pull (G : Nat × Nat) : Nat → zSem := fun pc =>
 znd pc 14
 (znd pc 6
 (znd pc 2
 (znd pc 1
 (zlf pc 0 (s_aload 0 1))
 (zlf pc 1 (s_iload 1 2)))
 (znd pc 5
 (zlf pc 2 (s_cR (zpV 12) 76 2 [] zx0 5))
 (zlf pc 5 (s_astore 2 6))))
 (znd pc 10
 (znd pc 7
 (zlf pc 6 (s_aload 2 7))
 (zlf pc 7 (s_gI 11 6 10)))
 (znd pc 13
 (zlf pc 10 (s_ifne 17 13))
 (zlf pc 13 (s_ic 1 14)))))
 (znd pc 22
 (znd pc 18
 (znd pc 17
 (zlf pc 14 (s_goto 18))
 (zlf pc 17 (s_ic 0 18)))
 (znd pc 21
 (zlf pc 18 (s_cV zpS 17 1 [] zx0 21))
 (zlf pc 21 (s_aload 2 22))))
 (znd pc 26
 (znd pc 25
 (zlf pc 22 (s_cV (zpV 11) 78 1 [zU] zx0 25))
 (zlf pc 25 (s_aload 2 26)))
 (znd pc 29
 (zlf pc 26 (s_gI 11 5 29))
 (zlf pc 29 (s_rI)))))
theorem zm_X11_pull (G : Nat × Nat) (pc : Nat) : zMon (zc_X11_pull G pc) := (mo_d (mo_d (mo_d (mo_d (mo_l (mo_aload _ _)) (mo_l (mo_iload _ _))) (mo_d (mo_l (mo_cR _ _ _ _ (zPre_V _) zHm_0)) (mo_l (mo_astore _ _)))) (mo_d (mo_d (mo_l (mo_aload _ _)) (mo_l (mo_gI _ _ _))) (mo_d (mo_l (mo_ifne _ _)) (mo_l (mo_ic _ _))))) (mo_d (mo_d (mo_d (mo_l (mo_goto _)) (mo_l (mo_ic _ _))) (mo_d (mo_l (mo_cV _ _ _ _ zPre_S zHm_0)) (mo_l (mo_aload _ _)))) (mo_d (mo_d (mo_l (mo_cV _ _ _ _ (zPre_V _) zHm_0)) (mo_l (mo_aload _ _))) (mo_d (mo_l (mo_gI _ _ _)) (mo_l (mo_rI))))))
def zc_L_pull (G : Nat × Nat) : Nat → zSem := fun pc =>
 znd pc 9
 (znd pc 3
 (znd pc 1
 (zlf pc 0 (s_aload 2 1))
 (znd pc 2
 (zlf pc 1 (s_ic 0 2))
 (zlf pc 2 (s_aload 0 3))))
 (znd pc 7
 (znd pc 4
 (zlf pc 3 (s_iload 1 4))
 (zlf pc 4 (s_cI (zpV 12) 79 2 [zU] (zxc 3 [(0, 13), (2, 16)]) 7)))
 (znd pc 8
 (zlf pc 7 (s_i2l 8))
 (zlf pc 8 (s_last 9)))))
 (znd pc 16
 (znd pc 13
 (zlf pc 9 (s_goto 18))
 (znd pc 14
 (zlf pc 13 (s_ic 1 14))
 (zlf pc 14 (s_rI))))
 (znd pc 18
 (znd pc 17
 (zlf pc 16 (s_ic 2 17))
 (zlf pc 17 (s_rI)))
 (znd pc 19
 (zlf pc 18 (s_ic 0 19))
 (zlf pc 19 (s_rI)))))
theorem zm_L_pull (G : Nat × Nat) (pc : Nat) : zMon (zc_L_pull G pc) := (mo_d (mo_d (mo_d (mo_l (mo_aload _ _)) (mo_d (mo_l (mo_ic _ _)) (mo_l (mo_aload _ _)))) (mo_d (mo_d (mo_l (mo_iload _ _)) (mo_l (mo_cI _ _ _ _ (zPre_V _) (zHm_c _ _)))) (mo_d (mo_l (mo_i2l _)) (mo_l (mo_last _))))) (mo_d (mo_d (mo_l (mo_goto _)) (mo_d (mo_l (mo_ic _ _)) (mo_l (mo_rI)))) (mo_d (mo_d (mo_l (mo_ic _ _)) (mo_l (mo_rI))) (mo_d (mo_l (mo_ic _ _)) (mo_l (mo_rI))))))
def zc_X12_isWire (G : Nat × Nat) : Nat → zSem := fun pc =>
 znd pc 6
 (znd pc 2
 (znd pc 1
 (zlf pc 0 (s_iload 1 1))
 (zlf pc 1 (s_ic 0 2)))
 (znd pc 3
 (zlf pc 2 (s_aload 0 3))
 (zlf pc 3 (s_gI 13 10 6))))
 (znd pc 8
 (znd pc 7
 (zlf pc 6 (s_ic 1 7))
 (zlf pc 7 (s_isub 8)))
 (znd pc 11
 (zlf pc 8 (s_cI zpS 31 3 [] zx0 11))
 (zlf pc 11 (s_rZ))))
theorem zm_X12_isWire (G : Nat × Nat) (pc : Nat) : zMon (zc_X12_isWire G pc) := (mo_d (mo_d (mo_d (mo_l (mo_iload _ _)) (mo_l (mo_ic _ _))) (mo_d (mo_l (mo_aload _ _)) (mo_l (mo_gI _ _ _)))) (mo_d (mo_d (mo_l (mo_ic _ _)) (mo_l (mo_isub _))) (mo_d (mo_l (mo_cI _ _ _ _ zPre_S zHm_0)) (mo_l (mo_rZ)))))
def zc_X12_lengthOf (G : Nat × Nat) : Nat → zSem := fun pc =>
 znd pc 23
 (znd pc 10
 (znd pc 5
 (znd pc 2
 (znd pc 1
 (zlf pc 0 (s_ic 0 1))
 (zlf pc 1 (s_istore 2 2)))
 (znd pc 4
 (zlf pc 2 (s_ic 16 4))
 (zlf pc 4 (s_iload 1 5))))
 (znd pc 7
 (znd pc 6
 (zlf pc 5 (s_imul 6))
 (zlf pc 6 (s_istore 3 7)))
 (znd pc 8
 (zlf pc 7 (s_iload 3 8))
 (zlf pc 8 (s_ic 16 10)))))
 (znd pc 16
 (znd pc 12
 (znd pc 11
 (zlf pc 10 (s_iload 1 11))
 (zlf pc 11 (s_imul 12)))
 (znd pc 13
 (zlf pc 12 (s_aload 0 13))
 (zlf pc 13 (s_gR 13 14 16))))
 (znd pc 18
 (znd pc 17
 (zlf pc 16 (s_iload 1 17))
 (zlf pc 17 (s_iald 18)))
 (znd pc 19
 (zlf pc 18 (s_iadd 19))
 (znd pc 22
 (zlf pc 19 (s_cmpge 51 22))
 (zlf pc 22 (s_aload 0 23)))))))
 (znd pc 40
 (znd pc 31
 (znd pc 27
 (znd pc 26
 (zlf pc 23 (s_gR 13 11 26))
 (zlf pc 26 (s_iload 1 27)))
 (znd pc 28
 (zlf pc 27 (s_zald 28))
 (zlf pc 28 (s_ifne 51 31))))
 (znd pc 33
 (znd pc 32
 (zlf pc 31 (s_iload 2 32))
 (zlf pc 32 (s_aload 0 33)))
 (znd pc 36
 (zlf pc 33 (s_gR 13 3 36))
 (znd pc 37
 (zlf pc 36 (s_aload 0 37))
 (zlf pc 37 (s_gR 13 15 40))))))
 (znd pc 44
 (znd pc 42
 (znd pc 41
 (zlf pc 40 (s_iload 3 41))
 (zlf pc 41 (s_iald 42)))
 (znd pc 43
 (zlf pc 42 (s_iald 43))
 (zlf pc 43 (s_iadd 44))))
 (znd pc 48
 (znd pc 45
 (zlf pc 44 (s_istore 2 45))
 (zlf pc 45 (s_iinc 3 1 48)))
 (znd pc 51
 (zlf pc 48 (s_goto 7))
 (znd pc 52
 (zlf pc 51 (s_iload 2 52))
 (zlf pc 52 (s_rI)))))))
theorem zm_X12_lengthOf (G : Nat × Nat) (pc : Nat) : zMon (zc_X12_lengthOf G pc) := (mo_d (mo_d (mo_d (mo_d (mo_d (mo_l (mo_ic _ _)) (mo_l (mo_istore _ _))) (mo_d (mo_l (mo_ic _ _)) (mo_l (mo_iload _ _)))) (mo_d (mo_d (mo_l (mo_imul _)) (mo_l (mo_istore _ _))) (mo_d (mo_l (mo_iload _ _)) (mo_l (mo_ic _ _))))) (mo_d (mo_d (mo_d (mo_l (mo_iload _ _)) (mo_l (mo_imul _))) (mo_d (mo_l (mo_aload _ _)) (mo_l (mo_gR _ _ _)))) (mo_d (mo_d (mo_l (mo_iload _ _)) (mo_l (mo_iald _))) (mo_d (mo_l (mo_iadd _)) (mo_d (mo_l (mo_cmpge _ _)) (mo_l (mo_aload _ _))))))) (mo_d (mo_d (mo_d (mo_d (mo_l (mo_gR _ _ _)) (mo_l (mo_iload _ _))) (mo_d (mo_l (mo_zald _)) (mo_l (mo_ifne _ _)))) (mo_d (mo_d (mo_l (mo_iload _ _)) (mo_l (mo_aload _ _))) (mo_d (mo_l (mo_gR _ _ _)) (mo_d (mo_l (mo_aload _ _)) (mo_l (mo_gR _ _ _)))))) (mo_d (mo_d (mo_d (mo_l (mo_iload _ _)) (mo_l (mo_iald _))) (mo_d (mo_l (mo_iald _)) (mo_l (mo_iadd _)))) (mo_d (mo_d (mo_l (mo_istore _ _)) (mo_l (mo_iinc _ _ _))) (mo_d (mo_l (mo_goto _)) (mo_d (mo_l (mo_iload _ _)) (mo_l (mo_rI))))))))
def zc_X12_pull (G : Nat × Nat) : Nat → zSem := fun pc =>
 znd pc 48
 (znd pc 26
 (znd pc 13
 (znd pc 3
 (znd pc 1
 (zlf pc 0 (s_aload 0 1))
 (znd pc 2
 (zlf pc 1 (s_aload 0 2))
 (zlf pc 2 (s_iload 1 3))))
 (znd pc 9
 (znd pc 6
 (zlf pc 3 (s_cI (zpV 13) 81 2 [] zx0 6))
 (zlf pc 6 (s_ifne 13 9)))
 (znd pc 10
 (zlf pc 9 (s_ic 1 10))
 (zlf pc 10 (s_goto 27)))))
 (znd pc 18
 (znd pc 14
 (zlf pc 13 (s_aload 0 14))
 (znd pc 17
 (zlf pc 14 (s_gR 13 11 17))
 (zlf pc 17 (s_iload 1 18))))
 (znd pc 22
 (znd pc 19
 (zlf pc 18 (s_zald 19))
 (zlf pc 19 (s_ifeq 26 22)))
 (znd pc 23
 (zlf pc 22 (s_ic 2 23))
 (zlf pc 23 (s_goto 27))))))
 (znd pc 37
 (znd pc 33
 (znd pc 27
 (zlf pc 26 (s_ic 0 27))
 (znd pc 30
 (zlf pc 27 (s_cI (zpV 13) 33 2 [] zx0 30))
 (zlf pc 30 (s_ifeq 35 33))))
 (znd pc 35
 (znd pc 34
 (zlf pc 33 (s_ic 0 34))
 (zlf pc 34 (s_rI)))
 (znd pc 36
 (zlf pc 35 (s_aload 0 36))
 (zlf pc 36 (s_iload 1 37)))))
 (znd pc 42
 (znd pc 40
 (zlf pc 37 (s_cI (zpV 13) 82 2 [zU, zU] zx0 40))
 (znd pc 41
 (zlf pc 40 (s_istore 2 41))
 (zlf pc 41 (s_aload 0 42))))
 (znd pc 46
 (znd pc 45
 (zlf pc 42 (s_gR 13 11 45))
 (zlf pc 45 (s_iload 1 46)))
 (znd pc 47
 (zlf pc 46 (s_ic 1 47))
 (zlf pc 47 (s_zast 48)))))))
 (znd pc 68
 (znd pc 57
 (znd pc 52
 (znd pc 50
 (zlf pc 48 (s_ic 16 50))
 (znd pc 51
 (zlf pc 50 (s_iload 1 51))
 (zlf pc 51 (s_imul 52))))
 (znd pc 54
 (znd pc 53
 (zlf pc 52 (s_istore 3 53))
 (zlf pc 53 (s_iload 3 54)))
 (znd pc 56
 (zlf pc 54 (s_ic 16 56))
 (zlf pc 56 (s_iload 1 57)))))
 (znd pc 62
 (znd pc 58
 (zlf pc 57 (s_imul 58))
 (znd pc 59
 (zlf pc 58 (s_aload 0 59))
 (zlf pc 59 (s_gR 13 14 62))))
 (znd pc 64
 (znd pc 63
 (zlf pc 62 (s_iload 1 63))
 (zlf pc 63 (s_iald 64)))
 (znd pc 65
 (zlf pc 64 (s_iadd 65))
 (zlf pc 65 (s_cmpge 89 68))))))
 (znd pc 79
 (znd pc 73
 (znd pc 69
 (zlf pc 68 (s_aload 0 69))
 (znd pc 72
 (zlf pc 69 (s_gR 13 4 72))
 (zlf pc 72 (s_aload 0 73))))
 (znd pc 77
 (znd pc 76
 (zlf pc 73 (s_gR 13 15 76))
 (zlf pc 76 (s_iload 3 77)))
 (znd pc 78
 (zlf pc 77 (s_iald 78))
 (zlf pc 78 (s_dup2 79)))))
 (znd pc 83
 (znd pc 81
 (znd pc 80
 (zlf pc 79 (s_iald 80))
 (zlf pc 80 (s_ic 1 81)))
 (znd pc 82
 (zlf pc 81 (s_iadd 82))
 (zlf pc 82 (s_iast 83))))
 (znd pc 89
 (znd pc 86
 (zlf pc 83 (s_iinc 3 1 86))
 (zlf pc 86 (s_goto 53)))
 (znd pc 90
 (zlf pc 89 (s_iload 2 90))
 (zlf pc 90 (s_rI)))))))
theorem zm_X12_pull (G : Nat × Nat) (pc : Nat) : zMon (zc_X12_pull G pc) := (mo_d (mo_d (mo_d (mo_d (mo_d (mo_l (mo_aload _ _)) (mo_d (mo_l (mo_aload _ _)) (mo_l (mo_iload _ _)))) (mo_d (mo_d (mo_l (mo_cI _ _ _ _ (zPre_V _) zHm_0)) (mo_l (mo_ifne _ _))) (mo_d (mo_l (mo_ic _ _)) (mo_l (mo_goto _))))) (mo_d (mo_d (mo_l (mo_aload _ _)) (mo_d (mo_l (mo_gR _ _ _)) (mo_l (mo_iload _ _)))) (mo_d (mo_d (mo_l (mo_zald _)) (mo_l (mo_ifeq _ _))) (mo_d (mo_l (mo_ic _ _)) (mo_l (mo_goto _)))))) (mo_d (mo_d (mo_d (mo_l (mo_ic _ _)) (mo_d (mo_l (mo_cI _ _ _ _ (zPre_V _) zHm_0)) (mo_l (mo_ifeq _ _)))) (mo_d (mo_d (mo_l (mo_ic _ _)) (mo_l (mo_rI))) (mo_d (mo_l (mo_aload _ _)) (mo_l (mo_iload _ _))))) (mo_d (mo_d (mo_l (mo_cI _ _ _ _ (zPre_V _) zHm_0)) (mo_d (mo_l (mo_istore _ _)) (mo_l (mo_aload _ _)))) (mo_d (mo_d (mo_l (mo_gR _ _ _)) (mo_l (mo_iload _ _))) (mo_d (mo_l (mo_ic _ _)) (mo_l (mo_zast _))))))) (mo_d (mo_d (mo_d (mo_d (mo_l (mo_ic _ _)) (mo_d (mo_l (mo_iload _ _)) (mo_l (mo_imul _)))) (mo_d (mo_d (mo_l (mo_istore _ _)) (mo_l (mo_iload _ _))) (mo_d (mo_l (mo_ic _ _)) (mo_l (mo_iload _ _))))) (mo_d (mo_d (mo_l (mo_imul _)) (mo_d (mo_l (mo_aload _ _)) (mo_l (mo_gR _ _ _)))) (mo_d (mo_d (mo_l (mo_iload _ _)) (mo_l (mo_iald _))) (mo_d (mo_l (mo_iadd _)) (mo_l (mo_cmpge _ _)))))) (mo_d (mo_d (mo_d (mo_l (mo_aload _ _)) (mo_d (mo_l (mo_gR _ _ _)) (mo_l (mo_aload _ _)))) (mo_d (mo_d (mo_l (mo_gR _ _ _)) (mo_l (mo_iload _ _))) (mo_d (mo_l (mo_iald _)) (mo_l (mo_dup2 _))))) (mo_d (mo_d (mo_d (mo_l (mo_iald _)) (mo_l (mo_ic _ _))) (mo_d (mo_l (mo_iadd _)) (mo_l (mo_iast _)))) (mo_d (mo_d (mo_l (mo_iinc _ _ _)) (mo_l (mo_goto _))) (mo_d (mo_l (mo_iload _ _)) (mo_l (mo_rI))))))))
def zc_X10_bundleAt (G : Nat × Nat) : Nat → zSem := fun pc =>
 znd pc 16
 (znd pc 6
 (znd pc 4
 (znd pc 1
 (zlf pc 0 (s_iload 1 1))
 (zlf pc 1 (s_iflt 32 4)))
 (znd pc 5
 (zlf pc 4 (s_iload 1 5))
 (zlf pc 5 (s_aload 0 6))))
 (znd pc 12
 (znd pc 9
 (zlf pc 6 (s_gR 11 7 9))
 (zlf pc 9 (s_cI (zpV 0) 16 1 [] zx0 12)))
 (znd pc 15
 (zlf pc 12 (s_cmpge 32 15))
 (zlf pc 15 (s_aload 0 16)))))
 (znd pc 26
 (znd pc 20
 (znd pc 19
 (zlf pc 16 (s_gR 11 7 19))
 (zlf pc 19 (s_iload 1 20)))
 (znd pc 23
 (zlf pc 20 (s_cR (zpV 0) 44 2 [] zx0 23))
 (zlf pc 23 (s_cast 2 26))))
 (znd pc 32
 (znd pc 29
 (zlf pc 26 (s_gI 2 0 29))
 (zlf pc 29 (s_goto 33)))
 (znd pc 33
 (zlf pc 32 (s_ic (-1) 33))
 (zlf pc 33 (s_rI)))))
theorem zm_X10_bundleAt (G : Nat × Nat) (pc : Nat) : zMon (zc_X10_bundleAt G pc) := (mo_d (mo_d (mo_d (mo_d (mo_l (mo_iload _ _)) (mo_l (mo_iflt _ _))) (mo_d (mo_l (mo_iload _ _)) (mo_l (mo_aload _ _)))) (mo_d (mo_d (mo_l (mo_gR _ _ _)) (mo_l (mo_cI _ _ _ _ (zPre_V _) zHm_0))) (mo_d (mo_l (mo_cmpge _ _)) (mo_l (mo_aload _ _))))) (mo_d (mo_d (mo_d (mo_l (mo_gR _ _ _)) (mo_l (mo_iload _ _))) (mo_d (mo_l (mo_cR _ _ _ _ (zPre_V _) zHm_0)) (mo_l (mo_cast _ _)))) (mo_d (mo_d (mo_l (mo_gI _ _ _)) (mo_l (mo_goto _))) (mo_d (mo_l (mo_ic _ _)) (mo_l (mo_rI))))))
def zc_X11_ofWire (G : Nat × Nat) : Nat → zSem := fun pc =>
 znd pc 25
 (znd pc 11
 (znd pc 5
 (znd pc 1
 (zlf pc 0 (s_aload 0 1))
 (znd pc 2
 (zlf pc 1 (s_iload 1 2))
 (zlf pc 2 (s_cR (zpV 12) 76 2 [] zx0 5))))
 (znd pc 7
 (znd pc 6
 (zlf pc 5 (s_astore 3 6))
 (zlf pc 6 (s_iload 2 7)))
 (znd pc 8
 (zlf pc 7 (s_ic (-1) 8))
 (zlf pc 8 (s_cmplt 15 11)))))
 (znd pc 19
 (znd pc 15
 (znd pc 12
 (zlf pc 11 (s_ic 1 12))
 (zlf pc 12 (s_goto 16)))
 (znd pc 16
 (zlf pc 15 (s_ic 0 16))
 (zlf pc 16 (s_cV zpS 13 1 [] zx0 19))))
 (znd pc 21
 (znd pc 20
 (zlf pc 19 (s_iload 2 20))
 (zlf pc 20 (s_ic (-1) 21)))
 (znd pc 24
 (zlf pc 21 (s_cmpne 40 24))
 (zlf pc 24 (s_aload 3 25))))))
 (znd pc 41
 (znd pc 35
 (znd pc 31
 (znd pc 28
 (zlf pc 25 (s_gI 11 6 28))
 (zlf pc 28 (s_ifeq 35 31)))
 (znd pc 32
 (zlf pc 31 (s_ic 0 32))
 (zlf pc 32 (s_goto 39))))
 (znd pc 39
 (znd pc 36
 (zlf pc 35 (s_aload 3 36))
 (zlf pc 36 (s_gI 11 5 39)))
 (znd pc 40
 (zlf pc 39 (s_rI))
 (zlf pc 40 (s_aload 3 41)))))
 (znd pc 51
 (znd pc 47
 (znd pc 44
 (zlf pc 41 (s_gI 11 6 44))
 (zlf pc 44 (s_ifeq 51 47)))
 (znd pc 48
 (zlf pc 47 (s_ic (-1) 48))
 (zlf pc 48 (s_goto 56))))
 (znd pc 53
 (znd pc 52
 (zlf pc 51 (s_aload 3 52))
 (zlf pc 52 (s_iload 2 53)))
 (znd pc 56
 (zlf pc 53 (s_cI (zpV 11) 84 2 [] zx0 56))
 (zlf pc 56 (s_rI))))))
theorem zm_X11_ofWire (G : Nat × Nat) (pc : Nat) : zMon (zc_X11_ofWire G pc) := (mo_d (mo_d (mo_d (mo_d (mo_l (mo_aload _ _)) (mo_d (mo_l (mo_iload _ _)) (mo_l (mo_cR _ _ _ _ (zPre_V _) zHm_0)))) (mo_d (mo_d (mo_l (mo_astore _ _)) (mo_l (mo_iload _ _))) (mo_d (mo_l (mo_ic _ _)) (mo_l (mo_cmplt _ _))))) (mo_d (mo_d (mo_d (mo_l (mo_ic _ _)) (mo_l (mo_goto _))) (mo_d (mo_l (mo_ic _ _)) (mo_l (mo_cV _ _ _ _ zPre_S zHm_0)))) (mo_d (mo_d (mo_l (mo_iload _ _)) (mo_l (mo_ic _ _))) (mo_d (mo_l (mo_cmpne _ _)) (mo_l (mo_aload _ _)))))) (mo_d (mo_d (mo_d (mo_d (mo_l (mo_gI _ _ _)) (mo_l (mo_ifeq _ _))) (mo_d (mo_l (mo_ic _ _)) (mo_l (mo_goto _)))) (mo_d (mo_d (mo_l (mo_aload _ _)) (mo_l (mo_gI _ _ _))) (mo_d (mo_l (mo_rI)) (mo_l (mo_aload _ _))))) (mo_d (mo_d (mo_d (mo_l (mo_gI _ _ _)) (mo_l (mo_ifeq _ _))) (mo_d (mo_l (mo_ic _ _)) (mo_l (mo_goto _)))) (mo_d (mo_d (mo_l (mo_aload _ _)) (mo_l (mo_iload _ _))) (mo_d (mo_l (mo_cI _ _ _ _ (zPre_V _) zHm_0)) (mo_l (mo_rI)))))))
def zc_L_ofWire (G : Nat × Nat) : Nat → zSem := fun pc =>
 znd pc 8
 (znd pc 3
 (znd pc 1
 (zlf pc 0 (s_aload 3 1))
 (znd pc 2
 (zlf pc 1 (s_ic 0 2))
 (zlf pc 2 (s_aload 0 3))))
 (znd pc 4
 (zlf pc 3 (s_iload 1 4))
 (znd pc 5
 (zlf pc 4 (s_iload 2 5))
 (zlf pc 5 (s_cI (zpV 12) 85 3 [zU] (zxc 4 [(0, 15)]) 8)))))
 (znd pc 15
 (znd pc 9
 (zlf pc 8 (s_i2l 9))
 (znd pc 10
 (zlf pc 9 (s_last 10))
 (zlf pc 10 (s_goto 17))))
 (znd pc 17
 (znd pc 16
 (zlf pc 15 (s_ic 1 16))
 (zlf pc 16 (s_rI)))
 (znd pc 18
 (zlf pc 17 (s_ic 0 18))
 (zlf pc 18 (s_rI)))))
theorem zm_L_ofWire (G : Nat × Nat) (pc : Nat) : zMon (zc_L_ofWire G pc) := (mo_d (mo_d (mo_d (mo_l (mo_aload _ _)) (mo_d (mo_l (mo_ic _ _)) (mo_l (mo_aload _ _)))) (mo_d (mo_l (mo_iload _ _)) (mo_d (mo_l (mo_iload _ _)) (mo_l (mo_cI _ _ _ _ (zPre_V _) (zHm_c _ _)))))) (mo_d (mo_d (mo_l (mo_i2l _)) (mo_d (mo_l (mo_last _)) (mo_l (mo_goto _)))) (mo_d (mo_d (mo_l (mo_ic _ _)) (mo_l (mo_rI))) (mo_d (mo_l (mo_ic _ _)) (mo_l (mo_rI))))))
def zc_X12_ofWire (G : Nat × Nat) : Nat → zSem := fun pc =>
 znd pc 40
 (znd pc 19
 (znd pc 9
 (znd pc 2
 (znd pc 1
 (zlf pc 0 (s_aload 0 1))
 (zlf pc 1 (s_aload 0 2)))
 (znd pc 3
 (zlf pc 2 (s_iload 1 3))
 (znd pc 6
 (zlf pc 3 (s_cI (zpV 13) 81 2 [] zx0 6))
 (zlf pc 6 (s_ifeq 18 9)))))
 (znd pc 14
 (znd pc 10
 (zlf pc 9 (s_iload 2 10))
 (znd pc 11
 (zlf pc 10 (s_ic (-1) 11))
 (zlf pc 11 (s_cmplt 18 14))))
 (znd pc 15
 (zlf pc 14 (s_ic 0 15))
 (znd pc 18
 (zlf pc 15 (s_goto 19))
 (zlf pc 18 (s_ic 1 19))))))
 (znd pc 28
 (znd pc 25
 (znd pc 22
 (zlf pc 19 (s_cI (zpV 13) 33 2 [] zx0 22))
 (zlf pc 22 (s_ifeq 27 25)))
 (znd pc 26
 (zlf pc 25 (s_ic 0 26))
 (znd pc 27
 (zlf pc 26 (s_rI))
 (zlf pc 27 (s_iload 2 28)))))
 (znd pc 33
 (znd pc 29
 (zlf pc 28 (s_ic (-1) 29))
 (znd pc 32
 (zlf pc 29 (s_cmpne 40 32))
 (zlf pc 32 (s_aload 0 33))))
 (znd pc 34
 (zlf pc 33 (s_iload 1 34))
 (znd pc 37
 (zlf pc 34 (s_cI (zpV 13) 82 2 [zU, zU] zx0 37))
 (zlf pc 37 (s_goto 74)))))))
 (znd pc 59
 (znd pc 49
 (znd pc 44
 (znd pc 41
 (zlf pc 40 (s_aload 0 41))
 (zlf pc 41 (s_gR 13 11 44)))
 (znd pc 45
 (zlf pc 44 (s_iload 1 45))
 (znd pc 46
 (zlf pc 45 (s_zald 46))
 (zlf pc 46 (s_ifne 73 49)))))
 (znd pc 54
 (znd pc 50
 (zlf pc 49 (s_iload 2 50))
 (znd pc 51
 (zlf pc 50 (s_aload 0 51))
 (zlf pc 51 (s_gR 13 14 54))))
 (znd pc 55
 (zlf pc 54 (s_iload 1 55))
 (znd pc 56
 (zlf pc 55 (s_iald 56))
 (zlf pc 56 (s_cmpge 73 59))))))
 (znd pc 67
 (znd pc 63
 (znd pc 60
 (zlf pc 59 (s_aload 0 60))
 (zlf pc 60 (s_gR 13 15 63)))
 (znd pc 65
 (zlf pc 63 (s_ic 16 65))
 (znd pc 66
 (zlf pc 65 (s_iload 1 66))
 (zlf pc 66 (s_imul 67)))))
 (znd pc 70
 (znd pc 68
 (zlf pc 67 (s_iload 2 68))
 (znd pc 69
 (zlf pc 68 (s_iadd 69))
 (zlf pc 69 (s_iald 70))))
 (znd pc 73
 (zlf pc 70 (s_goto 74))
 (znd pc 74
 (zlf pc 73 (s_ic (-1) 74))
 (zlf pc 74 (s_rI)))))))
theorem zm_X12_ofWire (G : Nat × Nat) (pc : Nat) : zMon (zc_X12_ofWire G pc) := (mo_d (mo_d (mo_d (mo_d (mo_d (mo_l (mo_aload _ _)) (mo_l (mo_aload _ _))) (mo_d (mo_l (mo_iload _ _)) (mo_d (mo_l (mo_cI _ _ _ _ (zPre_V _) zHm_0)) (mo_l (mo_ifeq _ _))))) (mo_d (mo_d (mo_l (mo_iload _ _)) (mo_d (mo_l (mo_ic _ _)) (mo_l (mo_cmplt _ _)))) (mo_d (mo_l (mo_ic _ _)) (mo_d (mo_l (mo_goto _)) (mo_l (mo_ic _ _)))))) (mo_d (mo_d (mo_d (mo_l (mo_cI _ _ _ _ (zPre_V _) zHm_0)) (mo_l (mo_ifeq _ _))) (mo_d (mo_l (mo_ic _ _)) (mo_d (mo_l (mo_rI)) (mo_l (mo_iload _ _))))) (mo_d (mo_d (mo_l (mo_ic _ _)) (mo_d (mo_l (mo_cmpne _ _)) (mo_l (mo_aload _ _)))) (mo_d (mo_l (mo_iload _ _)) (mo_d (mo_l (mo_cI _ _ _ _ (zPre_V _) zHm_0)) (mo_l (mo_goto _))))))) (mo_d (mo_d (mo_d (mo_d (mo_l (mo_aload _ _)) (mo_l (mo_gR _ _ _))) (mo_d (mo_l (mo_iload _ _)) (mo_d (mo_l (mo_zald _)) (mo_l (mo_ifne _ _))))) (mo_d (mo_d (mo_l (mo_iload _ _)) (mo_d (mo_l (mo_aload _ _)) (mo_l (mo_gR _ _ _)))) (mo_d (mo_l (mo_iload _ _)) (mo_d (mo_l (mo_iald _)) (mo_l (mo_cmpge _ _)))))) (mo_d (mo_d (mo_d (mo_l (mo_aload _ _)) (mo_l (mo_gR _ _ _))) (mo_d (mo_l (mo_ic _ _)) (mo_d (mo_l (mo_iload _ _)) (mo_l (mo_imul _))))) (mo_d (mo_d (mo_l (mo_iload _ _)) (mo_d (mo_l (mo_iadd _)) (mo_l (mo_iald _)))) (mo_d (mo_l (mo_goto _)) (mo_d (mo_l (mo_ic _ _)) (mo_l (mo_rI))))))))
def zc_X4_weightOf (G : Nat × Nat) : Nat → zSem := fun pc =>
 znd pc 33
 (znd pc 12
 (znd pc 4
 (znd pc 2
 (znd pc 1
 (zlf pc 0 (s_ic 0 1))
 (zlf pc 1 (s_istore 2 2)))
 (znd pc 3
 (zlf pc 2 (s_ic 0 3))
 (zlf pc 3 (s_istore 3 4))))
 (znd pc 6
 (znd pc 5
 (zlf pc 4 (s_iload 3 5))
 (zlf pc 5 (s_aload 0 6)))
 (znd pc 9
 (zlf pc 6 (s_gR 5 2 9))
 (zlf pc 9 (s_cI (zpV 0) 16 1 [] zx0 12)))))
 (znd pc 20
 (znd pc 16
 (znd pc 15
 (zlf pc 12 (s_cmpge 62 15))
 (zlf pc 15 (s_aload 0 16)))
 (znd pc 19
 (zlf pc 16 (s_gR 5 2 19))
 (zlf pc 19 (s_iload 3 20))))
 (znd pc 26
 (znd pc 23
 (zlf pc 20 (s_cR (zpV 0) 44 2 [] zx0 23))
 (zlf pc 23 (s_cast 11 26)))
 (znd pc 28
 (zlf pc 26 (s_astore 4 28))
 (znd pc 30
 (zlf pc 28 (s_aload 4 30))
 (zlf pc 30 (s_gI 11 6 33)))))))
 (znd pc 48
 (znd pc 40
 (znd pc 37
 (znd pc 36
 (zlf pc 33 (s_ifne 56 36))
 (zlf pc 36 (s_iload 1 37)))
 (znd pc 38
 (zlf pc 37 (s_ic 1 38))
 (zlf pc 38 (s_aload 4 40))))
 (znd pc 44
 (znd pc 43
 (zlf pc 40 (s_gI 11 4 43))
 (zlf pc 43 (s_ishl 44)))
 (znd pc 45
 (zlf pc 44 (s_iand 45))
 (zlf pc 45 (s_ifeq 56 48)))))
 (znd pc 55
 (znd pc 51
 (znd pc 49
 (zlf pc 48 (s_iload 2 49))
 (zlf pc 49 (s_aload 4 51)))
 (znd pc 54
 (zlf pc 51 (s_gI 11 5 54))
 (zlf pc 54 (s_iadd 55))))
 (znd pc 59
 (znd pc 56
 (zlf pc 55 (s_istore 2 56))
 (zlf pc 56 (s_iinc 3 1 59)))
 (znd pc 62
 (zlf pc 59 (s_goto 4))
 (znd pc 63
 (zlf pc 62 (s_iload 2 63))
 (zlf pc 63 (s_rI)))))))
theorem zm_X4_weightOf (G : Nat × Nat) (pc : Nat) : zMon (zc_X4_weightOf G pc) := (mo_d (mo_d (mo_d (mo_d (mo_d (mo_l (mo_ic _ _)) (mo_l (mo_istore _ _))) (mo_d (mo_l (mo_ic _ _)) (mo_l (mo_istore _ _)))) (mo_d (mo_d (mo_l (mo_iload _ _)) (mo_l (mo_aload _ _))) (mo_d (mo_l (mo_gR _ _ _)) (mo_l (mo_cI _ _ _ _ (zPre_V _) zHm_0))))) (mo_d (mo_d (mo_d (mo_l (mo_cmpge _ _)) (mo_l (mo_aload _ _))) (mo_d (mo_l (mo_gR _ _ _)) (mo_l (mo_iload _ _)))) (mo_d (mo_d (mo_l (mo_cR _ _ _ _ (zPre_V _) zHm_0)) (mo_l (mo_cast _ _))) (mo_d (mo_l (mo_astore _ _)) (mo_d (mo_l (mo_aload _ _)) (mo_l (mo_gI _ _ _))))))) (mo_d (mo_d (mo_d (mo_d (mo_l (mo_ifne _ _)) (mo_l (mo_iload _ _))) (mo_d (mo_l (mo_ic _ _)) (mo_l (mo_aload _ _)))) (mo_d (mo_d (mo_l (mo_gI _ _ _)) (mo_l (mo_ishl _))) (mo_d (mo_l (mo_iand _)) (mo_l (mo_ifeq _ _))))) (mo_d (mo_d (mo_d (mo_l (mo_iload _ _)) (mo_l (mo_aload _ _))) (mo_d (mo_l (mo_gI _ _ _)) (mo_l (mo_iadd _)))) (mo_d (mo_d (mo_l (mo_istore _ _)) (mo_l (mo_iinc _ _ _))) (mo_d (mo_l (mo_goto _)) (mo_d (mo_l (mo_iload _ _)) (mo_l (mo_rI))))))))
def zc_X11_weight (G : Nat × Nat) : Nat → zSem := fun pc =>
 znd pc 11
 (znd pc 2
 (znd pc 1
 (zlf pc 0 (s_iload 1 1))
 (zlf pc 1 (s_ic 0 2)))
 (znd pc 5
 (zlf pc 2 (s_ic 255 5))
 (znd pc 8
 (zlf pc 5 (s_cI zpS 14 3 [] zx0 8))
 (zlf pc 8 (s_cV zpS 15 1 [] zx0 11)))))
 (znd pc 15
 (znd pc 12
 (zlf pc 11 (s_aload 0 12))
 (zlf pc 12 (s_gR 12 0 15)))
 (znd pc 16
 (zlf pc 15 (s_iload 1 16))
 (znd pc 19
 (zlf pc 16 (s_cI (zpV 5) 88 2 [zU, zU, zU] zx0 19))
 (zlf pc 19 (s_rI)))))
theorem zm_X11_weight (G : Nat × Nat) (pc : Nat) : zMon (zc_X11_weight G pc) := (mo_d (mo_d (mo_d (mo_l (mo_iload _ _)) (mo_l (mo_ic _ _))) (mo_d (mo_l (mo_ic _ _)) (mo_d (mo_l (mo_cI _ _ _ _ zPre_S zHm_0)) (mo_l (mo_cV _ _ _ _ zPre_S zHm_0))))) (mo_d (mo_d (mo_l (mo_aload _ _)) (mo_l (mo_gR _ _ _))) (mo_d (mo_l (mo_iload _ _)) (mo_d (mo_l (mo_cI _ _ _ _ (zPre_V _) zHm_0)) (mo_l (mo_rI))))))
def zc_L_weight (G : Nat × Nat) : Nat → zSem := fun pc =>
 znd pc 8
 (znd pc 3
 (znd pc 1
 (zlf pc 0 (s_aload 2 1))
 (znd pc 2
 (zlf pc 1 (s_ic 0 2))
 (zlf pc 2 (s_aload 0 3))))
 (znd pc 4
 (zlf pc 3 (s_iload 1 4))
 (znd pc 7
 (zlf pc 4 (s_cI (zpV 12) 89 2 [] (zxc 3 [(1, 13)]) 7))
 (zlf pc 7 (s_i2l 8)))))
 (znd pc 14
 (znd pc 9
 (zlf pc 8 (s_last 9))
 (znd pc 13
 (zlf pc 9 (s_goto 15))
 (zlf pc 13 (s_ic 1 14))))
 (znd pc 15
 (zlf pc 14 (s_rI))
 (znd pc 16
 (zlf pc 15 (s_ic 0 16))
 (zlf pc 16 (s_rI)))))
theorem zm_L_weight (G : Nat × Nat) (pc : Nat) : zMon (zc_L_weight G pc) := (mo_d (mo_d (mo_d (mo_l (mo_aload _ _)) (mo_d (mo_l (mo_ic _ _)) (mo_l (mo_aload _ _)))) (mo_d (mo_l (mo_iload _ _)) (mo_d (mo_l (mo_cI _ _ _ _ (zPre_V _) (zHm_c _ _))) (mo_l (mo_i2l _))))) (mo_d (mo_d (mo_l (mo_last _)) (mo_d (mo_l (mo_goto _)) (mo_l (mo_ic _ _)))) (mo_d (mo_l (mo_rI)) (mo_d (mo_l (mo_ic _ _)) (mo_l (mo_rI))))))
def zc_X12_areOptions (G : Nat × Nat) : Nat → zSem := fun pc =>
 znd pc 2
 (znd pc 1
 (zlf pc 0 (s_iload 0 1))
 (zlf pc 1 (s_ic 0 2)))
 (znd pc 5
 (zlf pc 2 (s_ic 255 5))
 (znd pc 8
 (zlf pc 5 (s_cI zpS 31 3 [] zx0 8))
 (zlf pc 8 (s_rZ))))
theorem zm_X12_areOptions (G : Nat × Nat) (pc : Nat) : zMon (zc_X12_areOptions G pc) := (mo_d (mo_d (mo_l (mo_iload _ _)) (mo_l (mo_ic _ _))) (mo_d (mo_l (mo_ic _ _)) (mo_d (mo_l (mo_cI _ _ _ _ zPre_S zHm_0)) (mo_l (mo_rZ)))))
def zc_X12_weighs (G : Nat × Nat) : Nat → zSem := fun pc =>
 znd pc 21
 (znd pc 9
 (znd pc 3
 (znd pc 1
 (zlf pc 0 (s_ic 0 1))
 (znd pc 2
 (zlf pc 1 (s_istore 2 2))
 (zlf pc 2 (s_ic 0 3))))
 (znd pc 5
 (znd pc 4
 (zlf pc 3 (s_istore 3 4))
 (zlf pc 4 (s_iload 3 5)))
 (znd pc 6
 (zlf pc 5 (s_aload 0 6))
 (zlf pc 6 (s_gI 13 10 9)))))
 (znd pc 15
 (znd pc 13
 (znd pc 12
 (zlf pc 9 (s_cmpge 44 12))
 (zlf pc 12 (s_iload 2 13)))
 (znd pc 14
 (zlf pc 13 (s_iload 1 14))
 (zlf pc 14 (s_aload 0 15))))
 (znd pc 19
 (znd pc 18
 (zlf pc 15 (s_gR 13 13 18))
 (zlf pc 18 (s_iload 3 19)))
 (znd pc 20
 (zlf pc 19 (s_iald 20))
 (zlf pc 20 (s_ishr 21))))))
 (znd pc 32
 (znd pc 24
 (znd pc 22
 (zlf pc 21 (s_ic 1 22))
 (znd pc 23
 (zlf pc 22 (s_iand 23))
 (zlf pc 23 (s_ic 1 24))))
 (znd pc 28
 (znd pc 27
 (zlf pc 24 (s_cmpne 35 27))
 (zlf pc 27 (s_aload 0 28)))
 (znd pc 29
 (zlf pc 28 (s_iload 3 29))
 (zlf pc 29 (s_cI (zpV 13) 82 2 [zU, zU] zx0 32)))))
 (znd pc 38
 (znd pc 36
 (znd pc 35
 (zlf pc 32 (s_goto 36))
 (zlf pc 35 (s_ic 0 36)))
 (znd pc 37
 (zlf pc 36 (s_iadd 37))
 (zlf pc 37 (s_istore 2 38))))
 (znd pc 44
 (znd pc 41
 (zlf pc 38 (s_iinc 3 1 41))
 (zlf pc 41 (s_goto 4)))
 (znd pc 45
 (zlf pc 44 (s_iload 2 45))
 (zlf pc 45 (s_rI))))))
theorem zm_X12_weighs (G : Nat × Nat) (pc : Nat) : zMon (zc_X12_weighs G pc) := (mo_d (mo_d (mo_d (mo_d (mo_l (mo_ic _ _)) (mo_d (mo_l (mo_istore _ _)) (mo_l (mo_ic _ _)))) (mo_d (mo_d (mo_l (mo_istore _ _)) (mo_l (mo_iload _ _))) (mo_d (mo_l (mo_aload _ _)) (mo_l (mo_gI _ _ _))))) (mo_d (mo_d (mo_d (mo_l (mo_cmpge _ _)) (mo_l (mo_iload _ _))) (mo_d (mo_l (mo_iload _ _)) (mo_l (mo_aload _ _)))) (mo_d (mo_d (mo_l (mo_gR _ _ _)) (mo_l (mo_iload _ _))) (mo_d (mo_l (mo_iald _)) (mo_l (mo_ishr _)))))) (mo_d (mo_d (mo_d (mo_l (mo_ic _ _)) (mo_d (mo_l (mo_iand _)) (mo_l (mo_ic _ _)))) (mo_d (mo_d (mo_l (mo_cmpne _ _)) (mo_l (mo_aload _ _))) (mo_d (mo_l (mo_iload _ _)) (mo_l (mo_cI _ _ _ _ (zPre_V _) zHm_0))))) (mo_d (mo_d (mo_d (mo_l (mo_goto _)) (mo_l (mo_ic _ _))) (mo_d (mo_l (mo_iadd _)) (mo_l (mo_istore _ _)))) (mo_d (mo_d (mo_l (mo_iinc _ _ _)) (mo_l (mo_goto _))) (mo_d (mo_l (mo_iload _ _)) (mo_l (mo_rI)))))))
def zc_X12_weight (G : Nat × Nat) : Nat → zSem := fun pc =>
 znd pc 13
 (znd pc 5
 (znd pc 1
 (zlf pc 0 (s_aload 0 1))
 (znd pc 2
 (zlf pc 1 (s_iload 1 2))
 (zlf pc 2 (s_cI zpS 91 1 [] zx0 5))))
 (znd pc 9
 (znd pc 8
 (zlf pc 5 (s_ifeq 12 8))
 (zlf pc 8 (s_ic 0 9)))
 (znd pc 12
 (zlf pc 9 (s_goto 13))
 (zlf pc 12 (s_ic 1 13)))))
 (znd pc 23
 (znd pc 19
 (znd pc 16
 (zlf pc 13 (s_cI (zpV 13) 33 2 [] zx0 16))
 (zlf pc 16 (s_ifeq 23 19)))
 (znd pc 20
 (zlf pc 19 (s_ic 0 20))
 (zlf pc 20 (s_goto 28))))
 (znd pc 25
 (znd pc 24
 (zlf pc 23 (s_aload 0 24))
 (zlf pc 24 (s_iload 1 25)))
 (znd pc 28
 (zlf pc 25 (s_cI (zpV 13) 92 2 [zU, zU] zx0 28))
 (zlf pc 28 (s_rI)))))
theorem zm_X12_weight (G : Nat × Nat) (pc : Nat) : zMon (zc_X12_weight G pc) := (mo_d (mo_d (mo_d (mo_l (mo_aload _ _)) (mo_d (mo_l (mo_iload _ _)) (mo_l (mo_cI _ _ _ _ zPre_S zHm_0)))) (mo_d (mo_d (mo_l (mo_ifeq _ _)) (mo_l (mo_ic _ _))) (mo_d (mo_l (mo_goto _)) (mo_l (mo_ic _ _))))) (mo_d (mo_d (mo_d (mo_l (mo_cI _ _ _ _ (zPre_V _) zHm_0)) (mo_l (mo_ifeq _ _))) (mo_d (mo_l (mo_ic _ _)) (mo_l (mo_goto _)))) (mo_d (mo_d (mo_l (mo_aload _ _)) (mo_l (mo_iload _ _))) (mo_d (mo_l (mo_cI _ _ _ _ (zPre_V _) zHm_0)) (mo_l (mo_rI))))))
def zc_X5_add (G : Nat × Nat) : Nat → zSem := fun pc =>
 znd pc 21
 (znd pc 9
 (znd pc 4
 (znd pc 1
 (zlf pc 0 (s_aload 0 1))
 (zlf pc 1 (s_gR 6 0 4)))
 (znd pc 5
 (zlf pc 4 (s_aload 0 5))
 (znd pc 8
 (zlf pc 5 (s_gI 6 4 8))
 (zlf pc 8 (s_iload 1 9)))))
 (znd pc 16
 (znd pc 12
 (zlf pc 9 (s_cV (zpV 9) 7 3 [] zx0 12))
 (znd pc 13
 (zlf pc 12 (s_aload 0 13))
 (zlf pc 13 (s_gR 6 1 16))))
 (znd pc 17
 (zlf pc 16 (s_aload 0 17))
 (znd pc 20
 (zlf pc 17 (s_gI 6 4 20))
 (zlf pc 20 (s_iload 2 21))))))
 (znd pc 31
 (znd pc 26
 (znd pc 24
 (zlf pc 21 (s_cV (zpV 9) 7 3 [] zx0 24))
 (znd pc 25
 (zlf pc 24 (s_aload 0 25))
 (zlf pc 25 (s_dup 26))))
 (znd pc 29
 (zlf pc 26 (s_gI 6 4 29))
 (znd pc 30
 (zlf pc 29 (s_ic 1 30))
 (zlf pc 30 (s_iadd 31)))))
 (znd pc 38
 (znd pc 34
 (zlf pc 31 (s_pI 6 4 34))
 (znd pc 35
 (zlf pc 34 (s_aload 0 35))
 (zlf pc 35 (s_gI 6 4 38))))
 (znd pc 39
 (zlf pc 38 (s_ic 1 39))
 (znd pc 40
 (zlf pc 39 (s_isub 40))
 (zlf pc 40 (s_rI))))))
theorem zm_X5_add (G : Nat × Nat) (pc : Nat) : zMon (zc_X5_add G pc) := (mo_d (mo_d (mo_d (mo_d (mo_l (mo_aload _ _)) (mo_l (mo_gR _ _ _))) (mo_d (mo_l (mo_aload _ _)) (mo_d (mo_l (mo_gI _ _ _)) (mo_l (mo_iload _ _))))) (mo_d (mo_d (mo_l (mo_cV _ _ _ _ (zPre_V _) zHm_0)) (mo_d (mo_l (mo_aload _ _)) (mo_l (mo_gR _ _ _)))) (mo_d (mo_l (mo_aload _ _)) (mo_d (mo_l (mo_gI _ _ _)) (mo_l (mo_iload _ _)))))) (mo_d (mo_d (mo_d (mo_l (mo_cV _ _ _ _ (zPre_V _) zHm_0)) (mo_d (mo_l (mo_aload _ _)) (mo_l (mo_dup _)))) (mo_d (mo_l (mo_gI _ _ _)) (mo_d (mo_l (mo_ic _ _)) (mo_l (mo_iadd _))))) (mo_d (mo_d (mo_l (mo_pI _ _ _)) (mo_d (mo_l (mo_aload _ _)) (mo_l (mo_gI _ _ _)))) (mo_d (mo_l (mo_ic _ _)) (mo_d (mo_l (mo_isub _)) (mo_l (mo_rI)))))))
def zc_X11_order (G : Nat × Nat) : Nat → zSem := fun pc =>
 znd pc 29
 (znd pc 13
 (znd pc 5
 (znd pc 1
 (zlf pc 0 (s_iload 1 1))
 (znd pc 2
 (zlf pc 1 (s_ic 0 2))
 (zlf pc 2 (s_ic 255 5))))
 (znd pc 11
 (znd pc 8
 (zlf pc 5 (s_cI zpS 14 3 [] zx0 8))
 (zlf pc 8 (s_ifeq 25 11)))
 (znd pc 12
 (zlf pc 11 (s_iload 2 12))
 (zlf pc 12 (s_ic 1 13)))))
 (znd pc 21
 (znd pc 15
 (zlf pc 13 (s_ic 99 15))
 (znd pc 18
 (zlf pc 15 (s_cI zpS 14 3 [] zx0 18))
 (zlf pc 18 (s_ifeq 25 21))))
 (znd pc 25
 (znd pc 22
 (zlf pc 21 (s_ic 1 22))
 (zlf pc 22 (s_goto 26)))
 (znd pc 26
 (zlf pc 25 (s_ic 0 26))
 (zlf pc 26 (s_cV zpS 15 1 [] zx0 29))))))
 (znd pc 44
 (znd pc 36
 (znd pc 30
 (zlf pc 29 (s_aload 0 30))
 (znd pc 33
 (zlf pc 30 (s_gR 12 1 33))
 (zlf pc 33 (s_gI 6 4 36))))
 (znd pc 40
 (znd pc 37
 (zlf pc 36 (s_ic 5 37))
 (zlf pc 37 (s_cmpge 44 40)))
 (znd pc 41
 (zlf pc 40 (s_ic 1 41))
 (zlf pc 41 (s_goto 45)))))
 (znd pc 52
 (znd pc 48
 (znd pc 45
 (zlf pc 44 (s_ic 0 45))
 (zlf pc 45 (s_cV zpS 17 1 [] zx0 48)))
 (znd pc 49
 (zlf pc 48 (s_aload 0 49))
 (zlf pc 49 (s_gR 12 1 52))))
 (znd pc 54
 (znd pc 53
 (zlf pc 52 (s_iload 1 53))
 (zlf pc 53 (s_iload 2 54)))
 (znd pc 57
 (zlf pc 54 (s_cI (zpV 6) 94 3 [] zx0 57))
 (zlf pc 57 (s_rI))))))
theorem zm_X11_order (G : Nat × Nat) (pc : Nat) : zMon (zc_X11_order G pc) := (mo_d (mo_d (mo_d (mo_d (mo_l (mo_iload _ _)) (mo_d (mo_l (mo_ic _ _)) (mo_l (mo_ic _ _)))) (mo_d (mo_d (mo_l (mo_cI _ _ _ _ zPre_S zHm_0)) (mo_l (mo_ifeq _ _))) (mo_d (mo_l (mo_iload _ _)) (mo_l (mo_ic _ _))))) (mo_d (mo_d (mo_l (mo_ic _ _)) (mo_d (mo_l (mo_cI _ _ _ _ zPre_S zHm_0)) (mo_l (mo_ifeq _ _)))) (mo_d (mo_d (mo_l (mo_ic _ _)) (mo_l (mo_goto _))) (mo_d (mo_l (mo_ic _ _)) (mo_l (mo_cV _ _ _ _ zPre_S zHm_0)))))) (mo_d (mo_d (mo_d (mo_l (mo_aload _ _)) (mo_d (mo_l (mo_gR _ _ _)) (mo_l (mo_gI _ _ _)))) (mo_d (mo_d (mo_l (mo_ic _ _)) (mo_l (mo_cmpge _ _))) (mo_d (mo_l (mo_ic _ _)) (mo_l (mo_goto _))))) (mo_d (mo_d (mo_d (mo_l (mo_ic _ _)) (mo_l (mo_cV _ _ _ _ zPre_S zHm_0))) (mo_d (mo_l (mo_aload _ _)) (mo_l (mo_gR _ _ _)))) (mo_d (mo_d (mo_l (mo_iload _ _)) (mo_l (mo_iload _ _))) (mo_d (mo_l (mo_cI _ _ _ _ (zPre_V _) zHm_0)) (mo_l (mo_rI)))))))
def zc_L_order (G : Nat × Nat) : Nat → zSem := fun pc =>
 znd pc 9
 (znd pc 3
 (znd pc 1
 (zlf pc 0 (s_aload 3 1))
 (znd pc 2
 (zlf pc 1 (s_ic 0 2))
 (zlf pc 2 (s_aload 0 3))))
 (znd pc 5
 (znd pc 4
 (zlf pc 3 (s_iload 1 4))
 (zlf pc 4 (s_iload 2 5)))
 (znd pc 8
 (zlf pc 5 (s_cI (zpV 12) 95 3 [] (zxc 4 [(1, 15), (2, 19)]) 8))
 (zlf pc 8 (s_i2l 9)))))
 (znd pc 19
 (znd pc 15
 (znd pc 10
 (zlf pc 9 (s_last 10))
 (zlf pc 10 (s_goto 21)))
 (znd pc 16
 (zlf pc 15 (s_ic 1 16))
 (zlf pc 16 (s_rI))))
 (znd pc 21
 (znd pc 20
 (zlf pc 19 (s_ic 2 20))
 (zlf pc 20 (s_rI)))
 (znd pc 22
 (zlf pc 21 (s_ic 0 22))
 (zlf pc 22 (s_rI)))))
theorem zm_L_order (G : Nat × Nat) (pc : Nat) : zMon (zc_L_order G pc) := (mo_d (mo_d (mo_d (mo_l (mo_aload _ _)) (mo_d (mo_l (mo_ic _ _)) (mo_l (mo_aload _ _)))) (mo_d (mo_d (mo_l (mo_iload _ _)) (mo_l (mo_iload _ _))) (mo_d (mo_l (mo_cI _ _ _ _ (zPre_V _) (zHm_c _ _))) (mo_l (mo_i2l _))))) (mo_d (mo_d (mo_d (mo_l (mo_last _)) (mo_l (mo_goto _))) (mo_d (mo_l (mo_ic _ _)) (mo_l (mo_rI)))) (mo_d (mo_d (mo_l (mo_ic _ _)) (mo_l (mo_rI))) (mo_d (mo_l (mo_ic _ _)) (mo_l (mo_rI))))))
def zc_X12_order (G : Nat × Nat) : Nat → zSem := fun pc =>
 znd pc 48
 (znd pc 23
 (znd pc 11
 (znd pc 7
 (znd pc 1
 (zlf pc 0 (s_iload 1 1))
 (znd pc 4
 (zlf pc 1 (s_cI zpS 91 1 [] zx0 4))
 (zlf pc 4 (s_ifeq 21 7))))
 (znd pc 8
 (zlf pc 7 (s_iload 2 8))
 (znd pc 9
 (zlf pc 8 (s_ic 1 9))
 (zlf pc 9 (s_ic 99 11)))))
 (znd pc 18
 (znd pc 14
 (zlf pc 11 (s_cI zpS 31 3 [] zx0 14))
 (znd pc 17
 (zlf pc 14 (s_ifeq 21 17))
 (zlf pc 17 (s_ic 1 18))))
 (znd pc 21
 (zlf pc 18 (s_goto 22))
 (znd pc 22
 (zlf pc 21 (s_ic 0 22))
 (zlf pc 22 (s_istore 3 23))))))
 (znd pc 33
 (znd pc 28
 (znd pc 24
 (zlf pc 23 (s_aload 0 24))
 (znd pc 25
 (zlf pc 24 (s_iload 3 25))
 (zlf pc 25 (s_ifne 32 28))))
 (znd pc 29
 (zlf pc 28 (s_ic 1 29))
 (znd pc 32
 (zlf pc 29 (s_goto 45))
 (zlf pc 32 (s_aload 0 33)))))
 (znd pc 40
 (znd pc 36
 (zlf pc 33 (s_gI 13 17 36))
 (znd pc 37
 (zlf pc 36 (s_ic 5 37))
 (zlf pc 37 (s_cmpne 44 40))))
 (znd pc 44
 (znd pc 41
 (zlf pc 40 (s_ic 2 41))
 (zlf pc 41 (s_goto 45)))
 (znd pc 45
 (zlf pc 44 (s_ic 0 45))
 (zlf pc 45 (s_cI (zpV 13) 33 2 [] zx0 48)))))))
 (znd pc 71
 (znd pc 58
 (znd pc 53
 (znd pc 51
 (zlf pc 48 (s_ifeq 53 51))
 (znd pc 52
 (zlf pc 51 (s_ic 0 52))
 (zlf pc 52 (s_rI))))
 (znd pc 54
 (zlf pc 53 (s_aload 0 54))
 (znd pc 57
 (zlf pc 54 (s_gR 13 18 57))
 (zlf pc 57 (s_aload 0 58)))))
 (znd pc 63
 (znd pc 61
 (zlf pc 58 (s_gI 13 17 61))
 (znd pc 62
 (zlf pc 61 (s_iload 1 62))
 (zlf pc 62 (s_iast 63))))
 (znd pc 67
 (znd pc 64
 (zlf pc 63 (s_aload 0 64))
 (zlf pc 64 (s_gR 13 19 67)))
 (znd pc 68
 (zlf pc 67 (s_aload 0 68))
 (zlf pc 68 (s_gI 13 17 71))))))
 (znd pc 79
 (znd pc 74
 (znd pc 72
 (zlf pc 71 (s_iload 2 72))
 (znd pc 73
 (zlf pc 72 (s_iast 73))
 (zlf pc 73 (s_aload 0 74))))
 (znd pc 75
 (zlf pc 74 (s_dup 75))
 (znd pc 78
 (zlf pc 75 (s_gI 13 17 78))
 (zlf pc 78 (s_ic 1 79)))))
 (znd pc 84
 (znd pc 80
 (zlf pc 79 (s_iadd 80))
 (znd pc 83
 (zlf pc 80 (s_pI 13 17 83))
 (zlf pc 83 (s_aload 0 84))))
 (znd pc 88
 (znd pc 87
 (zlf pc 84 (s_gI 13 17 87))
 (zlf pc 87 (s_ic 1 88)))
 (znd pc 89
 (zlf pc 88 (s_isub 89))
 (zlf pc 89 (s_rI)))))))
theorem zm_X12_order (G : Nat × Nat) (pc : Nat) : zMon (zc_X12_order G pc) := (mo_d (mo_d (mo_d (mo_d (mo_d (mo_l (mo_iload _ _)) (mo_d (mo_l (mo_cI _ _ _ _ zPre_S zHm_0)) (mo_l (mo_ifeq _ _)))) (mo_d (mo_l (mo_iload _ _)) (mo_d (mo_l (mo_ic _ _)) (mo_l (mo_ic _ _))))) (mo_d (mo_d (mo_l (mo_cI _ _ _ _ zPre_S zHm_0)) (mo_d (mo_l (mo_ifeq _ _)) (mo_l (mo_ic _ _)))) (mo_d (mo_l (mo_goto _)) (mo_d (mo_l (mo_ic _ _)) (mo_l (mo_istore _ _)))))) (mo_d (mo_d (mo_d (mo_l (mo_aload _ _)) (mo_d (mo_l (mo_iload _ _)) (mo_l (mo_ifne _ _)))) (mo_d (mo_l (mo_ic _ _)) (mo_d (mo_l (mo_goto _)) (mo_l (mo_aload _ _))))) (mo_d (mo_d (mo_l (mo_gI _ _ _)) (mo_d (mo_l (mo_ic _ _)) (mo_l (mo_cmpne _ _)))) (mo_d (mo_d (mo_l (mo_ic _ _)) (mo_l (mo_goto _))) (mo_d (mo_l (mo_ic _ _)) (mo_l (mo_cI _ _ _ _ (zPre_V _) zHm_0))))))) (mo_d (mo_d (mo_d (mo_d (mo_l (mo_ifeq _ _)) (mo_d (mo_l (mo_ic _ _)) (mo_l (mo_rI)))) (mo_d (mo_l (mo_aload _ _)) (mo_d (mo_l (mo_gR _ _ _)) (mo_l (mo_aload _ _))))) (mo_d (mo_d (mo_l (mo_gI _ _ _)) (mo_d (mo_l (mo_iload _ _)) (mo_l (mo_iast _)))) (mo_d (mo_d (mo_l (mo_aload _ _)) (mo_l (mo_gR _ _ _))) (mo_d (mo_l (mo_aload _ _)) (mo_l (mo_gI _ _ _)))))) (mo_d (mo_d (mo_d (mo_l (mo_iload _ _)) (mo_d (mo_l (mo_iast _)) (mo_l (mo_aload _ _)))) (mo_d (mo_l (mo_dup _)) (mo_d (mo_l (mo_gI _ _ _)) (mo_l (mo_ic _ _))))) (mo_d (mo_d (mo_l (mo_iadd _)) (mo_d (mo_l (mo_pI _ _ _)) (mo_l (mo_aload _ _)))) (mo_d (mo_d (mo_l (mo_gI _ _ _)) (mo_l (mo_ic _ _))) (mo_d (mo_l (mo_isub _)) (mo_l (mo_rI))))))))
def zc_X5_allOrders (G : Nat × Nat) : Nat → zSem := fun pc =>
 znd pc 5
 (znd pc 1
 (zlf pc 0 (s_ic 1 1))
 (znd pc 2
 (zlf pc 1 (s_aload 0 2))
 (zlf pc 2 (s_gI 6 4 5))))
 (znd pc 7
 (znd pc 6
 (zlf pc 5 (s_ishl 6))
 (zlf pc 6 (s_ic 1 7)))
 (znd pc 8
 (zlf pc 7 (s_isub 8))
 (zlf pc 8 (s_rI))))
theorem zm_X5_allOrders (G : Nat × Nat) (pc : Nat) : zMon (zc_X5_allOrders G pc) := (mo_d (mo_d (mo_l (mo_ic _ _)) (mo_d (mo_l (mo_aload _ _)) (mo_l (mo_gI _ _ _)))) (mo_d (mo_d (mo_l (mo_ishl _)) (mo_l (mo_ic _ _))) (mo_d (mo_l (mo_isub _)) (mo_l (mo_rI)))))
def zc_X5_weightAsOne (G : Nat × Nat) : Nat → zSem := fun pc =>
 znd pc 31
 (znd pc 14
 (znd pc 5
 (znd pc 2
 (znd pc 1
 (zlf pc 0 (s_ic 0 1))
 (zlf pc 1 (s_istore 3 2)))
 (znd pc 3
 (zlf pc 2 (s_ic 0 3))
 (zlf pc 3 (s_istore 4 5))))
 (znd pc 8
 (znd pc 6
 (zlf pc 5 (s_ic 0 6))
 (zlf pc 6 (s_istore 5 8)))
 (znd pc 10
 (zlf pc 8 (s_iload 5 10))
 (znd pc 11
 (zlf pc 10 (s_aload 0 11))
 (zlf pc 11 (s_gI 6 4 14))))))
 (znd pc 22
 (znd pc 18
 (znd pc 17
 (zlf pc 14 (s_cmpge 58 17))
 (zlf pc 17 (s_iload 2 18)))
 (znd pc 19
 (zlf pc 18 (s_ic 1 19))
 (znd pc 21
 (zlf pc 19 (s_iload 5 21))
 (zlf pc 21 (s_ishl 22)))))
 (znd pc 26
 (znd pc 23
 (zlf pc 22 (s_iand 23))
 (zlf pc 23 (s_ifeq 52 26)))
 (znd pc 27
 (zlf pc 26 (s_iload 3 27))
 (znd pc 28
 (zlf pc 27 (s_aload 0 28))
 (zlf pc 28 (s_gR 6 0 31)))))))
 (znd pc 49
 (znd pc 38
 (znd pc 36
 (znd pc 33
 (zlf pc 31 (s_iload 5 33))
 (zlf pc 33 (s_cI (zpV 9) 54 2 [] zx0 36)))
 (znd pc 37
 (zlf pc 36 (s_ior 37))
 (zlf pc 37 (s_istore 3 38))))
 (znd pc 41
 (znd pc 40
 (zlf pc 38 (s_iload 4 40))
 (zlf pc 40 (s_aload 0 41)))
 (znd pc 44
 (zlf pc 41 (s_gR 6 1 44))
 (znd pc 46
 (zlf pc 44 (s_iload 5 46))
 (zlf pc 46 (s_cI (zpV 9) 54 2 [] zx0 49))))))
 (znd pc 59
 (znd pc 52
 (znd pc 50
 (zlf pc 49 (s_iadd 50))
 (zlf pc 50 (s_istore 4 52)))
 (znd pc 55
 (zlf pc 52 (s_iinc 5 1 55))
 (znd pc 58
 (zlf pc 55 (s_goto 8))
 (zlf pc 58 (s_aload 1 59)))))
 (znd pc 63
 (znd pc 60
 (zlf pc 59 (s_iload 3 60))
 (zlf pc 60 (s_cI (zpV 5) 88 2 [zU, zU, zU] zx0 63)))
 (znd pc 65
 (zlf pc 63 (s_iload 4 65))
 (znd pc 66
 (zlf pc 65 (s_imul 66))
 (zlf pc 66 (s_rI)))))))
theorem zm_X5_weightAsOne (G : Nat × Nat) (pc : Nat) : zMon (zc_X5_weightAsOne G pc) := (mo_d (mo_d (mo_d (mo_d (mo_d (mo_l (mo_ic _ _)) (mo_l (mo_istore _ _))) (mo_d (mo_l (mo_ic _ _)) (mo_l (mo_istore _ _)))) (mo_d (mo_d (mo_l (mo_ic _ _)) (mo_l (mo_istore _ _))) (mo_d (mo_l (mo_iload _ _)) (mo_d (mo_l (mo_aload _ _)) (mo_l (mo_gI _ _ _)))))) (mo_d (mo_d (mo_d (mo_l (mo_cmpge _ _)) (mo_l (mo_iload _ _))) (mo_d (mo_l (mo_ic _ _)) (mo_d (mo_l (mo_iload _ _)) (mo_l (mo_ishl _))))) (mo_d (mo_d (mo_l (mo_iand _)) (mo_l (mo_ifeq _ _))) (mo_d (mo_l (mo_iload _ _)) (mo_d (mo_l (mo_aload _ _)) (mo_l (mo_gR _ _ _))))))) (mo_d (mo_d (mo_d (mo_d (mo_l (mo_iload _ _)) (mo_l (mo_cI _ _ _ _ (zPre_V _) zHm_0))) (mo_d (mo_l (mo_ior _)) (mo_l (mo_istore _ _)))) (mo_d (mo_d (mo_l (mo_iload _ _)) (mo_l (mo_aload _ _))) (mo_d (mo_l (mo_gR _ _ _)) (mo_d (mo_l (mo_iload _ _)) (mo_l (mo_cI _ _ _ _ (zPre_V _) zHm_0)))))) (mo_d (mo_d (mo_d (mo_l (mo_iadd _)) (mo_l (mo_istore _ _))) (mo_d (mo_l (mo_iinc _ _ _)) (mo_d (mo_l (mo_goto _)) (mo_l (mo_aload _ _))))) (mo_d (mo_d (mo_l (mo_iload _ _)) (mo_l (mo_cI _ _ _ _ (zPre_V _) zHm_0))) (mo_d (mo_l (mo_iload _ _)) (mo_d (mo_l (mo_imul _)) (mo_l (mo_rI))))))))
def zc_X5_weighSets (G : Nat × Nat) : Nat → zSem := fun pc =>
 znd pc 13
 (znd pc 6
 (znd pc 4
 (znd pc 1
 (zlf pc 0 (s_aload 0 1))
 (zlf pc 1 (s_cI (zpV 6) 98 1 [] zx0 4)))
 (znd pc 5
 (zlf pc 4 (s_istore 2 5))
 (zlf pc 5 (s_ic 0 6))))
 (znd pc 8
 (znd pc 7
 (zlf pc 6 (s_istore 3 7))
 (zlf pc 7 (s_iload 3 8)))
 (znd pc 9
 (zlf pc 8 (s_iload 2 9))
 (znd pc 12
 (zlf pc 9 (s_cmpgt 32 12))
 (zlf pc 12 (s_aload 0 13))))))
 (znd pc 20
 (znd pc 17
 (znd pc 16
 (zlf pc 13 (s_gR 6 2 16))
 (zlf pc 16 (s_iload 3 17)))
 (znd pc 18
 (zlf pc 17 (s_aload 0 18))
 (znd pc 19
 (zlf pc 18 (s_aload 1 19))
 (zlf pc 19 (s_iload 3 20)))))
 (znd pc 26
 (znd pc 23
 (zlf pc 20 (s_cI (zpV 6) 99 3 [zU, zU, zU] zx0 23))
 (zlf pc 23 (s_cV (zpV 9) 7 3 [] zx0 26)))
 (znd pc 29
 (zlf pc 26 (s_iinc 3 1 29))
 (znd pc 32
 (zlf pc 29 (s_goto 7))
 (zlf pc 32 (s_rV))))))
theorem zm_X5_weighSets (G : Nat × Nat) (pc : Nat) : zMon (zc_X5_weighSets G pc) := (mo_d (mo_d (mo_d (mo_d (mo_l (mo_aload _ _)) (mo_l (mo_cI _ _ _ _ (zPre_V _) zHm_0))) (mo_d (mo_l (mo_istore _ _)) (mo_l (mo_ic _ _)))) (mo_d (mo_d (mo_l (mo_istore _ _)) (mo_l (mo_iload _ _))) (mo_d (mo_l (mo_iload _ _)) (mo_d (mo_l (mo_cmpgt _ _)) (mo_l (mo_aload _ _)))))) (mo_d (mo_d (mo_d (mo_l (mo_gR _ _ _)) (mo_l (mo_iload _ _))) (mo_d (mo_l (mo_aload _ _)) (mo_d (mo_l (mo_aload _ _)) (mo_l (mo_iload _ _))))) (mo_d (mo_d (mo_l (mo_cI _ _ _ _ (zPre_V _) zHm_0)) (mo_l (mo_cV _ _ _ _ (zPre_V _) zHm_0))) (mo_d (mo_l (mo_iinc _ _ _)) (mo_d (mo_l (mo_goto _)) (mo_l (mo_rV)))))))
def zc_X5_leastOfRest (G : Nat × Nat) (y : Nat) : Nat → zSem := fun pc =>
 znd pc 41
 (znd pc 18
 (znd pc 8
 (znd pc 5
 (znd pc 1
 (zlf pc 0 (s_iload 1 1))
 (znd pc 4
 (zlf pc 1 (s_ifne 6 4))
 (zlf pc 4 (s_ic 0 5))))
 (znd pc 6
 (zlf pc 5 (s_rI))
 (znd pc 7
 (zlf pc 6 (s_iload 2 7))
 (zlf pc 7 (s_ic 1 8)))))
 (znd pc 14
 (znd pc 11
 (zlf pc 8 (s_cmpge 14 11))
 (znd pc 13
 (zlf pc 11 (s_ic 1000000000 13))
 (zlf pc 13 (s_rI))))
 (znd pc 16
 (znd pc 15
 (zlf pc 14 (s_iload 1 15))
 (zlf pc 15 (s_iload 1 16)))
 (znd pc 17
 (zlf pc 16 (s_ineg 17))
 (zlf pc 17 (s_iand 18))))))
 (znd pc 29
 (znd pc 23
 (znd pc 19
 (zlf pc 18 (s_istore 3 19))
 (znd pc 21
 (zlf pc 19 (s_ic 1000000000 21))
 (zlf pc 21 (s_istore 4 23))))
 (znd pc 26
 (znd pc 24
 (zlf pc 23 (s_iload 3 24))
 (zlf pc 24 (s_istore 5 26)))
 (znd pc 28
 (zlf pc 26 (s_iload 5 28))
 (zlf pc 28 (s_iload 1 29)))))
 (znd pc 35
 (znd pc 32
 (zlf pc 29 (s_cmpgt 85 32))
 (znd pc 34
 (zlf pc 32 (s_iload 5 34))
 (zlf pc 34 (s_iload 1 35))))
 (znd pc 37
 (znd pc 36
 (zlf pc 35 (s_ic (-1) 36))
 (zlf pc 36 (s_ixor 37)))
 (znd pc 38
 (zlf pc 37 (s_iand 38))
 (zlf pc 38 (s_ifne 79 41)))))))
 (znd pc 58
 (znd pc 50
 (znd pc 45
 (znd pc 43
 (zlf pc 41 (s_iload 5 43))
 (znd pc 44
 (zlf pc 43 (s_iload 3 44))
 (zlf pc 44 (s_iand 45))))
 (znd pc 48
 (zlf pc 45 (s_ifeq 79 48))
 (znd pc 49
 (zlf pc 48 (s_aload 0 49))
 (zlf pc 49 (s_iload 1 50)))))
 (znd pc 54
 (znd pc 52
 (zlf pc 50 (s_iload 5 52))
 (znd pc 53
 (zlf pc 52 (s_ic (-1) 53))
 (zlf pc 53 (s_ixor 54))))
 (znd pc 56
 (znd pc 55
 (zlf pc 54 (s_iand 55))
 (zlf pc 55 (s_iload 2 56)))
 (znd pc 57
 (zlf pc 56 (s_ic 1 57))
 (zlf pc 57 (s_isub 58))))))
 (znd pc 73
 (znd pc 65
 (znd pc 61
 (zlf pc 58 (s_cI zpS (y - 1) 3 [zU, zU, zU, zU] zx0 61))
 (znd pc 63
 (zlf pc 61 (s_istore 6 63))
 (zlf pc 63 (s_iload 4 65))))
 (znd pc 68
 (znd pc 66
 (zlf pc 65 (s_aload 0 66))
 (zlf pc 66 (s_iload 5 68)))
 (znd pc 71
 (zlf pc 68 (s_cI (zpV 9) 54 2 [] zx0 71))
 (zlf pc 71 (s_iload 6 73)))))
 (znd pc 79
 (znd pc 74
 (zlf pc 73 (s_iadd 74))
 (znd pc 77
 (zlf pc 74 (s_cI zpS 21 2 [] zx0 77))
 (zlf pc 77 (s_istore 4 79))))
 (znd pc 85
 (znd pc 82
 (zlf pc 79 (s_iinc 5 1 82))
 (zlf pc 82 (s_goto 26)))
 (znd pc 87
 (zlf pc 85 (s_iload 4 87))
 (zlf pc 87 (s_rI)))))))
theorem zm_X5_leastOfRest (G : Nat × Nat) (y : Nat) (pc : Nat) : zMon (zc_X5_leastOfRest G y pc) := (mo_d (mo_d (mo_d (mo_d (mo_d (mo_l (mo_iload _ _)) (mo_d (mo_l (mo_ifne _ _)) (mo_l (mo_ic _ _)))) (mo_d (mo_l (mo_rI)) (mo_d (mo_l (mo_iload _ _)) (mo_l (mo_ic _ _))))) (mo_d (mo_d (mo_l (mo_cmpge _ _)) (mo_d (mo_l (mo_ic _ _)) (mo_l (mo_rI)))) (mo_d (mo_d (mo_l (mo_iload _ _)) (mo_l (mo_iload _ _))) (mo_d (mo_l (mo_ineg _)) (mo_l (mo_iand _)))))) (mo_d (mo_d (mo_d (mo_l (mo_istore _ _)) (mo_d (mo_l (mo_ic _ _)) (mo_l (mo_istore _ _)))) (mo_d (mo_d (mo_l (mo_iload _ _)) (mo_l (mo_istore _ _))) (mo_d (mo_l (mo_iload _ _)) (mo_l (mo_iload _ _))))) (mo_d (mo_d (mo_l (mo_cmpgt _ _)) (mo_d (mo_l (mo_iload _ _)) (mo_l (mo_iload _ _)))) (mo_d (mo_d (mo_l (mo_ic _ _)) (mo_l (mo_ixor _))) (mo_d (mo_l (mo_iand _)) (mo_l (mo_ifne _ _))))))) (mo_d (mo_d (mo_d (mo_d (mo_l (mo_iload _ _)) (mo_d (mo_l (mo_iload _ _)) (mo_l (mo_iand _)))) (mo_d (mo_l (mo_ifeq _ _)) (mo_d (mo_l (mo_aload _ _)) (mo_l (mo_iload _ _))))) (mo_d (mo_d (mo_l (mo_iload _ _)) (mo_d (mo_l (mo_ic _ _)) (mo_l (mo_ixor _)))) (mo_d (mo_d (mo_l (mo_iand _)) (mo_l (mo_iload _ _))) (mo_d (mo_l (mo_ic _ _)) (mo_l (mo_isub _)))))) (mo_d (mo_d (mo_d (mo_l (mo_cI _ _ _ _ zPre_S zHm_0)) (mo_d (mo_l (mo_istore _ _)) (mo_l (mo_iload _ _)))) (mo_d (mo_d (mo_l (mo_aload _ _)) (mo_l (mo_iload _ _))) (mo_d (mo_l (mo_cI _ _ _ _ (zPre_V _) zHm_0)) (mo_l (mo_iload _ _))))) (mo_d (mo_d (mo_l (mo_iadd _)) (mo_d (mo_l (mo_cI _ _ _ _ zPre_S zHm_0)) (mo_l (mo_istore _ _)))) (mo_d (mo_d (mo_l (mo_iinc _ _ _)) (mo_l (mo_goto _))) (mo_d (mo_l (mo_iload _ _)) (mo_l (mo_rI))))))))
def zc_X5_leastByChoice (G : Nat × Nat) : Nat → zSem := fun pc =>
 znd pc 9
 (znd pc 2
 (znd pc 1
 (zlf pc 0 (s_aload 0 1))
 (zlf pc 1 (s_aload 1 2)))
 (znd pc 5
 (zlf pc 2 (s_cV (zpV 6) 100 2 [zU, zU] zx0 5))
 (znd pc 6
 (zlf pc 5 (s_aload 0 6))
 (zlf pc 6 (s_gR 6 2 9)))))
 (znd pc 13
 (znd pc 10
 (zlf pc 9 (s_aload 0 10))
 (zlf pc 10 (s_cI (zpV 6) 98 1 [] zx0 13)))
 (znd pc 14
 (zlf pc 13 (s_iload 2 14))
 (znd pc 17
 (zlf pc 14 (s_cI zpS 1006 3 [zU, zU, zU, zU] zx0 17))
 (zlf pc 17 (s_rI)))))
theorem zm_X5_leastByChoice (G : Nat × Nat) (pc : Nat) : zMon (zc_X5_leastByChoice G pc) := (mo_d (mo_d (mo_d (mo_l (mo_aload _ _)) (mo_l (mo_aload _ _))) (mo_d (mo_l (mo_cV _ _ _ _ (zPre_V _) zHm_0)) (mo_d (mo_l (mo_aload _ _)) (mo_l (mo_gR _ _ _))))) (mo_d (mo_d (mo_l (mo_aload _ _)) (mo_l (mo_cI _ _ _ _ (zPre_V _) zHm_0))) (mo_d (mo_l (mo_iload _ _)) (mo_d (mo_l (mo_cI _ _ _ _ zPre_S zHm_0)) (mo_l (mo_rI))))))
def zc_X11_least (G : Nat × Nat) : Nat → zSem := fun pc =>
 znd pc 10
 (znd pc 3
 (znd pc 1
 (zlf pc 0 (s_iload 1 1))
 (znd pc 2
 (zlf pc 1 (s_ic 1 2))
 (zlf pc 2 (s_ic 5 3))))
 (znd pc 6
 (zlf pc 3 (s_cI zpS 14 3 [] zx0 6))
 (znd pc 9
 (zlf pc 6 (s_cV zpS 15 1 [] zx0 9))
 (zlf pc 9 (s_aload 0 10)))))
 (znd pc 17
 (znd pc 13
 (zlf pc 10 (s_gR 12 1 13))
 (znd pc 14
 (zlf pc 13 (s_aload 0 14))
 (zlf pc 14 (s_gR 12 0 17))))
 (znd pc 18
 (zlf pc 17 (s_iload 1 18))
 (znd pc 21
 (zlf pc 18 (s_cI (zpV 6) 102 3 [] zx0 21))
 (zlf pc 21 (s_rI)))))
theorem zm_X11_least (G : Nat × Nat) (pc : Nat) : zMon (zc_X11_least G pc) := (mo_d (mo_d (mo_d (mo_l (mo_iload _ _)) (mo_d (mo_l (mo_ic _ _)) (mo_l (mo_ic _ _)))) (mo_d (mo_l (mo_cI _ _ _ _ zPre_S zHm_0)) (mo_d (mo_l (mo_cV _ _ _ _ zPre_S zHm_0)) (mo_l (mo_aload _ _))))) (mo_d (mo_d (mo_l (mo_gR _ _ _)) (mo_d (mo_l (mo_aload _ _)) (mo_l (mo_gR _ _ _)))) (mo_d (mo_l (mo_iload _ _)) (mo_d (mo_l (mo_cI _ _ _ _ (zPre_V _) zHm_0)) (mo_l (mo_rI))))))
def zc_L_least (G : Nat × Nat) : Nat → zSem := fun pc =>
 znd pc 8
 (znd pc 3
 (znd pc 1
 (zlf pc 0 (s_aload 2 1))
 (znd pc 2
 (zlf pc 1 (s_ic 0 2))
 (zlf pc 2 (s_aload 0 3))))
 (znd pc 4
 (zlf pc 3 (s_iload 1 4))
 (znd pc 7
 (zlf pc 4 (s_cI (zpV 12) 103 2 [] (zxc 3 [(1, 13)]) 7))
 (zlf pc 7 (s_i2l 8)))))
 (znd pc 14
 (znd pc 9
 (zlf pc 8 (s_last 9))
 (znd pc 13
 (zlf pc 9 (s_goto 15))
 (zlf pc 13 (s_ic 1 14))))
 (znd pc 15
 (zlf pc 14 (s_rI))
 (znd pc 16
 (zlf pc 15 (s_ic 0 16))
 (zlf pc 16 (s_rI)))))
theorem zm_L_least (G : Nat × Nat) (pc : Nat) : zMon (zc_L_least G pc) := (mo_d (mo_d (mo_d (mo_l (mo_aload _ _)) (mo_d (mo_l (mo_ic _ _)) (mo_l (mo_aload _ _)))) (mo_d (mo_l (mo_iload _ _)) (mo_d (mo_l (mo_cI _ _ _ _ (zPre_V _) (zHm_c _ _))) (mo_l (mo_i2l _))))) (mo_d (mo_d (mo_l (mo_last _)) (mo_d (mo_l (mo_goto _)) (mo_l (mo_ic _ _)))) (mo_d (mo_l (mo_rI)) (mo_d (mo_l (mo_ic _ _)) (mo_l (mo_rI))))))
def zc_X12_weightOfFamilies (G : Nat × Nat) : Nat → zSem := fun pc =>
 znd pc 51
 (znd pc 21
 (znd pc 9
 (znd pc 3
 (znd pc 1
 (zlf pc 0 (s_ic 0 1))
 (znd pc 2
 (zlf pc 1 (s_istore 2 2))
 (zlf pc 2 (s_ic 0 3))))
 (znd pc 5
 (znd pc 4
 (zlf pc 3 (s_istore 3 4))
 (zlf pc 4 (s_iload 3 5)))
 (znd pc 6
 (zlf pc 5 (s_iload 1 6))
 (zlf pc 6 (s_cmpge 105 9)))))
 (znd pc 15
 (znd pc 12
 (znd pc 10
 (zlf pc 9 (s_ic 0 10))
 (zlf pc 10 (s_istore 4 12)))
 (znd pc 13
 (zlf pc 12 (s_ic 0 13))
 (zlf pc 13 (s_istore 5 15))))
 (znd pc 18
 (znd pc 16
 (zlf pc 15 (s_ic 0 16))
 (zlf pc 16 (s_istore 6 18)))
 (znd pc 20
 (zlf pc 18 (s_iload 6 20))
 (zlf pc 20 (s_aload 0 21))))))
 (znd pc 36
 (znd pc 29
 (znd pc 24
 (zlf pc 21 (s_gI 13 17 24))
 (znd pc 27
 (zlf pc 24 (s_cmpge 87 27))
 (zlf pc 27 (s_iload 4 29))))
 (znd pc 33
 (znd pc 30
 (zlf pc 29 (s_aload 0 30))
 (zlf pc 30 (s_gR 13 20 33)))
 (znd pc 35
 (zlf pc 33 (s_iload 6 35))
 (zlf pc 35 (s_iald 36)))))
 (znd pc 44
 (znd pc 40
 (znd pc 37
 (zlf pc 36 (s_iload 3 37))
 (zlf pc 37 (s_cmpne 50 40)))
 (znd pc 41
 (zlf pc 40 (s_aload 0 41))
 (zlf pc 41 (s_gR 13 18 44))))
 (znd pc 47
 (znd pc 46
 (zlf pc 44 (s_iload 6 46))
 (zlf pc 46 (s_iald 47)))
 (znd pc 50
 (zlf pc 47 (s_goto 51))
 (zlf pc 50 (s_ic 0 51)))))))
 (znd pc 78
 (znd pc 63
 (znd pc 56
 (znd pc 52
 (zlf pc 51 (s_ior 52))
 (znd pc 54
 (zlf pc 52 (s_istore 4 54))
 (zlf pc 54 (s_iload 5 56))))
 (znd pc 60
 (znd pc 57
 (zlf pc 56 (s_aload 0 57))
 (zlf pc 57 (s_gR 13 20 60)))
 (znd pc 62
 (zlf pc 60 (s_iload 6 62))
 (zlf pc 62 (s_iald 63)))))
 (znd pc 71
 (znd pc 67
 (znd pc 64
 (zlf pc 63 (s_iload 3 64))
 (zlf pc 64 (s_cmpne 77 67)))
 (znd pc 68
 (zlf pc 67 (s_aload 0 68))
 (zlf pc 68 (s_gR 13 19 71))))
 (znd pc 74
 (znd pc 73
 (zlf pc 71 (s_iload 6 73))
 (zlf pc 73 (s_iald 74)))
 (znd pc 77
 (zlf pc 74 (s_goto 78))
 (zlf pc 77 (s_ic 0 78))))))
 (znd pc 93
 (znd pc 87
 (znd pc 81
 (znd pc 79
 (zlf pc 78 (s_iadd 79))
 (zlf pc 79 (s_istore 5 81)))
 (znd pc 84
 (zlf pc 81 (s_iinc 6 1 84))
 (zlf pc 84 (s_goto 18))))
 (znd pc 90
 (znd pc 88
 (zlf pc 87 (s_iload 2 88))
 (zlf pc 88 (s_iload 5 90)))
 (znd pc 91
 (zlf pc 90 (s_aload 0 91))
 (zlf pc 91 (s_iload 4 93)))))
 (znd pc 99
 (znd pc 97
 (znd pc 96
 (zlf pc 93 (s_cI (zpV 13) 92 2 [zU, zU] zx0 96))
 (zlf pc 96 (s_imul 97)))
 (znd pc 98
 (zlf pc 97 (s_iadd 98))
 (zlf pc 98 (s_istore 2 99))))
 (znd pc 105
 (znd pc 102
 (zlf pc 99 (s_iinc 3 1 102))
 (zlf pc 102 (s_goto 4)))
 (znd pc 106
 (zlf pc 105 (s_iload 2 106))
 (zlf pc 106 (s_rI)))))))
theorem zm_X12_weightOfFamilies (G : Nat × Nat) (pc : Nat) : zMon (zc_X12_weightOfFamilies G pc) := (mo_d (mo_d (mo_d (mo_d (mo_d (mo_l (mo_ic _ _)) (mo_d (mo_l (mo_istore _ _)) (mo_l (mo_ic _ _)))) (mo_d (mo_d (mo_l (mo_istore _ _)) (mo_l (mo_iload _ _))) (mo_d (mo_l (mo_iload _ _)) (mo_l (mo_cmpge _ _))))) (mo_d (mo_d (mo_d (mo_l (mo_ic _ _)) (mo_l (mo_istore _ _))) (mo_d (mo_l (mo_ic _ _)) (mo_l (mo_istore _ _)))) (mo_d (mo_d (mo_l (mo_ic _ _)) (mo_l (mo_istore _ _))) (mo_d (mo_l (mo_iload _ _)) (mo_l (mo_aload _ _)))))) (mo_d (mo_d (mo_d (mo_l (mo_gI _ _ _)) (mo_d (mo_l (mo_cmpge _ _)) (mo_l (mo_iload _ _)))) (mo_d (mo_d (mo_l (mo_aload _ _)) (mo_l (mo_gR _ _ _))) (mo_d (mo_l (mo_iload _ _)) (mo_l (mo_iald _))))) (mo_d (mo_d (mo_d (mo_l (mo_iload _ _)) (mo_l (mo_cmpne _ _))) (mo_d (mo_l (mo_aload _ _)) (mo_l (mo_gR _ _ _)))) (mo_d (mo_d (mo_l (mo_iload _ _)) (mo_l (mo_iald _))) (mo_d (mo_l (mo_goto _)) (mo_l (mo_ic _ _))))))) (mo_d (mo_d (mo_d (mo_d (mo_l (mo_ior _)) (mo_d (mo_l (mo_istore _ _)) (mo_l (mo_iload _ _)))) (mo_d (mo_d (mo_l (mo_aload _ _)) (mo_l (mo_gR _ _ _))) (mo_d (mo_l (mo_iload _ _)) (mo_l (mo_iald _))))) (mo_d (mo_d (mo_d (mo_l (mo_iload _ _)) (mo_l (mo_cmpne _ _))) (mo_d (mo_l (mo_aload _ _)) (mo_l (mo_gR _ _ _)))) (mo_d (mo_d (mo_l (mo_iload _ _)) (mo_l (mo_iald _))) (mo_d (mo_l (mo_goto _)) (mo_l (mo_ic _ _)))))) (mo_d (mo_d (mo_d (mo_d (mo_l (mo_iadd _)) (mo_l (mo_istore _ _))) (mo_d (mo_l (mo_iinc _ _ _)) (mo_l (mo_goto _)))) (mo_d (mo_d (mo_l (mo_iload _ _)) (mo_l (mo_iload _ _))) (mo_d (mo_l (mo_aload _ _)) (mo_l (mo_iload _ _))))) (mo_d (mo_d (mo_d (mo_l (mo_cI _ _ _ _ (zPre_V _) zHm_0)) (mo_l (mo_imul _))) (mo_d (mo_l (mo_iadd _)) (mo_l (mo_istore _ _)))) (mo_d (mo_d (mo_l (mo_iinc _ _ _)) (mo_l (mo_goto _))) (mo_d (mo_l (mo_iload _ _)) (mo_l (mo_rI))))))))
def zc_X12_leastOf (G : Nat × Nat) : Nat → zSem := fun pc =>
 znd pc 47
 (znd pc 22
 (znd pc 9
 (znd pc 3
 (znd pc 1
 (zlf pc 0 (s_ic 1 1))
 (znd pc 2
 (zlf pc 1 (s_istore 2 2))
 (zlf pc 2 (s_ic 0 3))))
 (znd pc 5
 (znd pc 4
 (zlf pc 3 (s_istore 3 4))
 (zlf pc 4 (s_iload 3 5)))
 (znd pc 6
 (zlf pc 5 (s_aload 0 6))
 (zlf pc 6 (s_gI 13 17 9)))))
 (znd pc 14
 (znd pc 12
 (zlf pc 9 (s_cmpge 22 12))
 (znd pc 13
 (zlf pc 12 (s_iload 2 13))
 (zlf pc 13 (s_iload 1 14))))
 (znd pc 16
 (znd pc 15
 (zlf pc 14 (s_imul 15))
 (zlf pc 15 (s_istore 2 16)))
 (znd pc 19
 (zlf pc 16 (s_iinc 3 1 19))
 (zlf pc 19 (s_goto 4))))))
 (znd pc 34
 (znd pc 26
 (znd pc 24
 (zlf pc 22 (s_ic 1000000000 24))
 (znd pc 25
 (zlf pc 24 (s_istore 3 25))
 (zlf pc 25 (s_ic 0 26))))
 (znd pc 30
 (znd pc 28
 (zlf pc 26 (s_istore 4 28))
 (zlf pc 28 (s_iload 4 30)))
 (znd pc 31
 (zlf pc 30 (s_iload 2 31))
 (zlf pc 31 (s_cmpge 99 34)))))
 (znd pc 39
 (znd pc 36
 (zlf pc 34 (s_iload 4 36))
 (znd pc 38
 (zlf pc 36 (s_istore 5 38))
 (zlf pc 38 (s_ic 0 39))))
 (znd pc 43
 (znd pc 41
 (zlf pc 39 (s_istore 6 41))
 (zlf pc 41 (s_iload 6 43)))
 (znd pc 44
 (zlf pc 43 (s_aload 0 44))
 (zlf pc 44 (s_gI 13 17 47)))))))
 (znd pc 73
 (znd pc 60
 (znd pc 54
 (znd pc 50
 (zlf pc 47 (s_cmpge 73 50))
 (znd pc 51
 (zlf pc 50 (s_aload 0 51))
 (zlf pc 51 (s_gR 13 20 54))))
 (znd pc 58
 (znd pc 56
 (zlf pc 54 (s_iload 6 56))
 (zlf pc 56 (s_iload 5 58)))
 (znd pc 59
 (zlf pc 58 (s_iload 1 59))
 (zlf pc 59 (s_irem 60)))))
 (znd pc 64
 (znd pc 61
 (zlf pc 60 (s_iast 61))
 (znd pc 63
 (zlf pc 61 (s_iload 5 63))
 (zlf pc 63 (s_iload 1 64))))
 (znd pc 67
 (znd pc 65
 (zlf pc 64 (s_idiv 65))
 (zlf pc 65 (s_istore 5 67)))
 (znd pc 70
 (zlf pc 67 (s_iinc 6 1 70))
 (zlf pc 70 (s_goto 41))))))
 (znd pc 86
 (znd pc 78
 (znd pc 74
 (zlf pc 73 (s_aload 0 74))
 (znd pc 75
 (zlf pc 74 (s_iload 1 75))
 (zlf pc 75 (s_cI (zpV 13) 105 2 [zU, zU, zU, zU, zU] zx0 78))))
 (znd pc 82
 (znd pc 80
 (zlf pc 78 (s_istore 6 80))
 (zlf pc 80 (s_iload 6 82)))
 (znd pc 83
 (zlf pc 82 (s_iload 3 83))
 (zlf pc 83 (s_cmpge 91 86)))))
 (znd pc 93
 (znd pc 91
 (znd pc 88
 (zlf pc 86 (s_iload 6 88))
 (zlf pc 88 (s_goto 92)))
 (znd pc 92
 (zlf pc 91 (s_iload 3 92))
 (zlf pc 92 (s_istore 3 93))))
 (znd pc 99
 (znd pc 96
 (zlf pc 93 (s_iinc 4 1 96))
 (zlf pc 96 (s_goto 28)))
 (znd pc 100
 (zlf pc 99 (s_iload 3 100))
 (zlf pc 100 (s_rI)))))))
theorem zm_X12_leastOf (G : Nat × Nat) (pc : Nat) : zMon (zc_X12_leastOf G pc) := (mo_d (mo_d (mo_d (mo_d (mo_d (mo_l (mo_ic _ _)) (mo_d (mo_l (mo_istore _ _)) (mo_l (mo_ic _ _)))) (mo_d (mo_d (mo_l (mo_istore _ _)) (mo_l (mo_iload _ _))) (mo_d (mo_l (mo_aload _ _)) (mo_l (mo_gI _ _ _))))) (mo_d (mo_d (mo_l (mo_cmpge _ _)) (mo_d (mo_l (mo_iload _ _)) (mo_l (mo_iload _ _)))) (mo_d (mo_d (mo_l (mo_imul _)) (mo_l (mo_istore _ _))) (mo_d (mo_l (mo_iinc _ _ _)) (mo_l (mo_goto _)))))) (mo_d (mo_d (mo_d (mo_l (mo_ic _ _)) (mo_d (mo_l (mo_istore _ _)) (mo_l (mo_ic _ _)))) (mo_d (mo_d (mo_l (mo_istore _ _)) (mo_l (mo_iload _ _))) (mo_d (mo_l (mo_iload _ _)) (mo_l (mo_cmpge _ _))))) (mo_d (mo_d (mo_l (mo_iload _ _)) (mo_d (mo_l (mo_istore _ _)) (mo_l (mo_ic _ _)))) (mo_d (mo_d (mo_l (mo_istore _ _)) (mo_l (mo_iload _ _))) (mo_d (mo_l (mo_aload _ _)) (mo_l (mo_gI _ _ _))))))) (mo_d (mo_d (mo_d (mo_d (mo_l (mo_cmpge _ _)) (mo_d (mo_l (mo_aload _ _)) (mo_l (mo_gR _ _ _)))) (mo_d (mo_d (mo_l (mo_iload _ _)) (mo_l (mo_iload _ _))) (mo_d (mo_l (mo_iload _ _)) (mo_l (mo_irem _))))) (mo_d (mo_d (mo_l (mo_iast _)) (mo_d (mo_l (mo_iload _ _)) (mo_l (mo_iload _ _)))) (mo_d (mo_d (mo_l (mo_idiv _)) (mo_l (mo_istore _ _))) (mo_d (mo_l (mo_iinc _ _ _)) (mo_l (mo_goto _)))))) (mo_d (mo_d (mo_d (mo_l (mo_aload _ _)) (mo_d (mo_l (mo_iload _ _)) (mo_l (mo_cI _ _ _ _ (zPre_V _) zHm_0)))) (mo_d (mo_d (mo_l (mo_istore _ _)) (mo_l (mo_iload _ _))) (mo_d (mo_l (mo_iload _ _)) (mo_l (mo_cmpge _ _))))) (mo_d (mo_d (mo_d (mo_l (mo_iload _ _)) (mo_l (mo_goto _))) (mo_d (mo_l (mo_iload _ _)) (mo_l (mo_istore _ _)))) (mo_d (mo_d (mo_l (mo_iinc _ _ _)) (mo_l (mo_goto _))) (mo_d (mo_l (mo_iload _ _)) (mo_l (mo_rI))))))))
def zc_X12_least (G : Nat × Nat) : Nat → zSem := fun pc =>
 znd pc 14
 (znd pc 4
 (znd pc 2
 (znd pc 1
 (zlf pc 0 (s_aload 0 1))
 (zlf pc 1 (s_iload 1 2)))
 (znd pc 3
 (zlf pc 2 (s_ic 1 3))
 (zlf pc 3 (s_ic 5 4))))
 (znd pc 10
 (znd pc 7
 (zlf pc 4 (s_cI zpS 31 3 [] zx0 7))
 (zlf pc 7 (s_ifeq 14 10)))
 (znd pc 11
 (zlf pc 10 (s_ic 0 11))
 (zlf pc 11 (s_goto 15)))))
 (znd pc 22
 (znd pc 18
 (znd pc 15
 (zlf pc 14 (s_ic 1 15))
 (zlf pc 15 (s_cI (zpV 13) 33 2 [] zx0 18)))
 (znd pc 21
 (zlf pc 18 (s_ifeq 25 21))
 (zlf pc 21 (s_ic 0 22))))
 (znd pc 26
 (znd pc 25
 (zlf pc 22 (s_goto 30))
 (zlf pc 25 (s_aload 0 26)))
 (znd pc 27
 (zlf pc 26 (s_iload 1 27))
 (znd pc 30
 (zlf pc 27 (s_cI (zpV 13) 106 2 [zU, zU, zU, zU, zU] zx0 30))
 (zlf pc 30 (s_rI))))))
theorem zm_X12_least (G : Nat × Nat) (pc : Nat) : zMon (zc_X12_least G pc) := (mo_d (mo_d (mo_d (mo_d (mo_l (mo_aload _ _)) (mo_l (mo_iload _ _))) (mo_d (mo_l (mo_ic _ _)) (mo_l (mo_ic _ _)))) (mo_d (mo_d (mo_l (mo_cI _ _ _ _ zPre_S zHm_0)) (mo_l (mo_ifeq _ _))) (mo_d (mo_l (mo_ic _ _)) (mo_l (mo_goto _))))) (mo_d (mo_d (mo_d (mo_l (mo_ic _ _)) (mo_l (mo_cI _ _ _ _ (zPre_V _) zHm_0))) (mo_d (mo_l (mo_ifeq _ _)) (mo_l (mo_ic _ _)))) (mo_d (mo_d (mo_l (mo_goto _)) (mo_l (mo_aload _ _))) (mo_d (mo_l (mo_iload _ _)) (mo_d (mo_l (mo_cI _ _ _ _ (zPre_V _) zHm_0)) (mo_l (mo_rI)))))))
def zc_X5_leastWithOneMore (G : Nat × Nat) : Nat → zSem := fun pc =>
 znd pc 26
 (znd pc 13
 (znd pc 8
 (znd pc 4
 (znd pc 1
 (zlf pc 0 (s_aload 0 1))
 (zlf pc 1 (s_gR 6 3 4)))
 (znd pc 5
 (zlf pc 4 (s_iload 1 5))
 (zlf pc 5 (s_cI (zpV 9) 54 2 [] zx0 8))))
 (znd pc 10
 (znd pc 9
 (zlf pc 8 (s_istore 2 9))
 (zlf pc 9 (s_ic 1 10)))
 (znd pc 11
 (zlf pc 10 (s_istore 3 11))
 (znd pc 12
 (zlf pc 11 (s_iload 3 12))
 (zlf pc 12 (s_iload 1 13))))))
 (znd pc 19
 (znd pc 17
 (znd pc 16
 (zlf pc 13 (s_cmpgt 56 16))
 (zlf pc 16 (s_iload 3 17)))
 (znd pc 18
 (zlf pc 17 (s_iload 1 18))
 (zlf pc 18 (s_ic (-1) 19))))
 (znd pc 21
 (znd pc 20
 (zlf pc 19 (s_ixor 20))
 (zlf pc 20 (s_iand 21)))
 (znd pc 24
 (zlf pc 21 (s_ifne 50 24))
 (znd pc 25
 (zlf pc 24 (s_iload 2 25))
 (zlf pc 25 (s_aload 0 26)))))))
 (znd pc 41
 (znd pc 34
 (znd pc 30
 (znd pc 29
 (zlf pc 26 (s_gR 6 2 29))
 (zlf pc 29 (s_iload 3 30)))
 (znd pc 33
 (zlf pc 30 (s_cI (zpV 9) 54 2 [] zx0 33))
 (zlf pc 33 (s_aload 0 34))))
 (znd pc 38
 (znd pc 37
 (zlf pc 34 (s_gR 6 3 37))
 (zlf pc 37 (s_iload 1 38)))
 (znd pc 39
 (zlf pc 38 (s_iload 3 39))
 (znd pc 40
 (zlf pc 39 (s_ic (-1) 40))
 (zlf pc 40 (s_ixor 41))))))
 (znd pc 49
 (znd pc 45
 (znd pc 42
 (zlf pc 41 (s_iand 42))
 (zlf pc 42 (s_cI (zpV 9) 54 2 [] zx0 45)))
 (znd pc 46
 (zlf pc 45 (s_iadd 46))
 (zlf pc 46 (s_cI zpS 21 2 [] zx0 49))))
 (znd pc 53
 (znd pc 50
 (zlf pc 49 (s_istore 2 50))
 (zlf pc 50 (s_iinc 3 1 53)))
 (znd pc 56
 (zlf pc 53 (s_goto 11))
 (znd pc 57
 (zlf pc 56 (s_iload 2 57))
 (zlf pc 57 (s_rI)))))))
theorem zm_X5_leastWithOneMore (G : Nat × Nat) (pc : Nat) : zMon (zc_X5_leastWithOneMore G pc) := (mo_d (mo_d (mo_d (mo_d (mo_d (mo_l (mo_aload _ _)) (mo_l (mo_gR _ _ _))) (mo_d (mo_l (mo_iload _ _)) (mo_l (mo_cI _ _ _ _ (zPre_V _) zHm_0)))) (mo_d (mo_d (mo_l (mo_istore _ _)) (mo_l (mo_ic _ _))) (mo_d (mo_l (mo_istore _ _)) (mo_d (mo_l (mo_iload _ _)) (mo_l (mo_iload _ _)))))) (mo_d (mo_d (mo_d (mo_l (mo_cmpgt _ _)) (mo_l (mo_iload _ _))) (mo_d (mo_l (mo_iload _ _)) (mo_l (mo_ic _ _)))) (mo_d (mo_d (mo_l (mo_ixor _)) (mo_l (mo_iand _))) (mo_d (mo_l (mo_ifne _ _)) (mo_d (mo_l (mo_iload _ _)) (mo_l (mo_aload _ _))))))) (mo_d (mo_d (mo_d (mo_d (mo_l (mo_gR _ _ _)) (mo_l (mo_iload _ _))) (mo_d (mo_l (mo_cI _ _ _ _ (zPre_V _) zHm_0)) (mo_l (mo_aload _ _)))) (mo_d (mo_d (mo_l (mo_gR _ _ _)) (mo_l (mo_iload _ _))) (mo_d (mo_l (mo_iload _ _)) (mo_d (mo_l (mo_ic _ _)) (mo_l (mo_ixor _)))))) (mo_d (mo_d (mo_d (mo_l (mo_iand _)) (mo_l (mo_cI _ _ _ _ (zPre_V _) zHm_0))) (mo_d (mo_l (mo_iadd _)) (mo_l (mo_cI _ _ _ _ zPre_S zHm_0)))) (mo_d (mo_d (mo_l (mo_istore _ _)) (mo_l (mo_iinc _ _ _))) (mo_d (mo_l (mo_goto _)) (mo_d (mo_l (mo_iload _ _)) (mo_l (mo_rI))))))))
def zc_X5_addFamily (G : Nat × Nat) : Nat → zSem := fun pc =>
 znd pc 13
 (znd pc 5
 (znd pc 1
 (zlf pc 0 (s_aload 0 1))
 (znd pc 4
 (zlf pc 1 (s_cI (zpV 6) 98 1 [] zx0 4))
 (zlf pc 4 (s_istore 1 5))))
 (znd pc 9
 (znd pc 6
 (zlf pc 5 (s_iload 1 6))
 (zlf pc 6 (s_iflt 28 9)))
 (znd pc 10
 (zlf pc 9 (s_aload 0 10))
 (zlf pc 10 (s_gR 6 3 13)))))
 (znd pc 19
 (znd pc 15
 (znd pc 14
 (zlf pc 13 (s_iload 1 14))
 (zlf pc 14 (s_aload 0 15)))
 (znd pc 16
 (zlf pc 15 (s_iload 1 16))
 (zlf pc 16 (s_cI (zpV 6) 108 2 [zU, zU] zx0 19))))
 (znd pc 25
 (znd pc 22
 (zlf pc 19 (s_cV (zpV 9) 7 3 [] zx0 22))
 (zlf pc 22 (s_iinc 1 (-1) 25)))
 (znd pc 28
 (zlf pc 25 (s_goto 5))
 (zlf pc 28 (s_rV)))))
theorem zm_X5_addFamily (G : Nat × Nat) (pc : Nat) : zMon (zc_X5_addFamily G pc) := (mo_d (mo_d (mo_d (mo_l (mo_aload _ _)) (mo_d (mo_l (mo_cI _ _ _ _ (zPre_V _) zHm_0)) (mo_l (mo_istore _ _)))) (mo_d (mo_d (mo_l (mo_iload _ _)) (mo_l (mo_iflt _ _))) (mo_d (mo_l (mo_aload _ _)) (mo_l (mo_gR _ _ _))))) (mo_d (mo_d (mo_d (mo_l (mo_iload _ _)) (mo_l (mo_aload _ _))) (mo_d (mo_l (mo_iload _ _)) (mo_l (mo_cI _ _ _ _ (zPre_V _) zHm_0)))) (mo_d (mo_d (mo_l (mo_cV _ _ _ _ (zPre_V _) zHm_0)) (mo_l (mo_iinc _ _ _))) (mo_d (mo_l (mo_goto _)) (mo_l (mo_rV))))))
def zc_X5_leastByTable (G : Nat × Nat) : Nat → zSem := fun pc =>
 znd pc 24
 (znd pc 11
 (znd pc 5
 (znd pc 1
 (zlf pc 0 (s_aload 0 1))
 (znd pc 2
 (zlf pc 1 (s_aload 1 2))
 (zlf pc 2 (s_cV (zpV 6) 100 2 [zU, zU] zx0 5))))
 (znd pc 6
 (zlf pc 5 (s_aload 0 6))
 (znd pc 9
 (zlf pc 6 (s_gR 6 3 9))
 (zlf pc 9 (s_ic 1000000000 11)))))
 (znd pc 18
 (znd pc 14
 (zlf pc 11 (s_cV (zpV 9) 8 2 [zU] zx0 14))
 (znd pc 15
 (zlf pc 14 (s_aload 0 15))
 (zlf pc 15 (s_gR 6 3 18))))
 (znd pc 20
 (znd pc 19
 (zlf pc 18 (s_ic 0 19))
 (zlf pc 19 (s_ic 0 20)))
 (znd pc 23
 (zlf pc 20 (s_cV (zpV 9) 7 3 [] zx0 23))
 (zlf pc 23 (s_ic 1 24))))))
 (znd pc 37
 (znd pc 27
 (znd pc 25
 (zlf pc 24 (s_istore 3 25))
 (znd pc 26
 (zlf pc 25 (s_iload 3 26))
 (zlf pc 26 (s_iload 2 27))))
 (znd pc 31
 (znd pc 30
 (zlf pc 27 (s_cmpgt 40 30))
 (zlf pc 30 (s_aload 0 31)))
 (znd pc 34
 (zlf pc 31 (s_cV (zpV 6) 109 1 [zU] zx0 34))
 (zlf pc 34 (s_iinc 3 1 37)))))
 (znd pc 44
 (znd pc 40
 (zlf pc 37 (s_goto 25))
 (znd pc 41
 (zlf pc 40 (s_aload 0 41))
 (zlf pc 41 (s_gR 6 3 44))))
 (znd pc 48
 (znd pc 45
 (zlf pc 44 (s_aload 0 45))
 (zlf pc 45 (s_cI (zpV 6) 98 1 [] zx0 48)))
 (znd pc 51
 (zlf pc 48 (s_cI (zpV 9) 54 2 [] zx0 51))
 (zlf pc 51 (s_rI))))))
theorem zm_X5_leastByTable (G : Nat × Nat) (pc : Nat) : zMon (zc_X5_leastByTable G pc) := (mo_d (mo_d (mo_d (mo_d (mo_l (mo_aload _ _)) (mo_d (mo_l (mo_aload _ _)) (mo_l (mo_cV _ _ _ _ (zPre_V _) zHm_0)))) (mo_d (mo_l (mo_aload _ _)) (mo_d (mo_l (mo_gR _ _ _)) (mo_l (mo_ic _ _))))) (mo_d (mo_d (mo_l (mo_cV _ _ _ _ (zPre_V _) zHm_0)) (mo_d (mo_l (mo_aload _ _)) (mo_l (mo_gR _ _ _)))) (mo_d (mo_d (mo_l (mo_ic _ _)) (mo_l (mo_ic _ _))) (mo_d (mo_l (mo_cV _ _ _ _ (zPre_V _) zHm_0)) (mo_l (mo_ic _ _)))))) (mo_d (mo_d (mo_d (mo_l (mo_istore _ _)) (mo_d (mo_l (mo_iload _ _)) (mo_l (mo_iload _ _)))) (mo_d (mo_d (mo_l (mo_cmpgt _ _)) (mo_l (mo_aload _ _))) (mo_d (mo_l (mo_cV _ _ _ _ (zPre_V _) zHm_0)) (mo_l (mo_iinc _ _ _))))) (mo_d (mo_d (mo_l (mo_goto _)) (mo_d (mo_l (mo_aload _ _)) (mo_l (mo_gR _ _ _)))) (mo_d (mo_d (mo_l (mo_aload _ _)) (mo_l (mo_cI _ _ _ _ (zPre_V _) zHm_0))) (mo_d (mo_l (mo_cI _ _ _ _ (zPre_V _) zHm_0)) (mo_l (mo_rI)))))))
def zc_X11_leastAnew (G : Nat × Nat) : Nat → zSem := fun pc =>
 znd pc 10
 (znd pc 3
 (znd pc 1
 (zlf pc 0 (s_iload 1 1))
 (znd pc 2
 (zlf pc 1 (s_ic 1 2))
 (zlf pc 2 (s_ic 5 3))))
 (znd pc 6
 (zlf pc 3 (s_cI zpS 14 3 [] zx0 6))
 (znd pc 9
 (zlf pc 6 (s_cV zpS 15 1 [] zx0 9))
 (zlf pc 9 (s_aload 0 10)))))
 (znd pc 17
 (znd pc 13
 (zlf pc 10 (s_gR 12 1 13))
 (znd pc 14
 (zlf pc 13 (s_aload 0 14))
 (zlf pc 14 (s_gR 12 0 17))))
 (znd pc 18
 (zlf pc 17 (s_iload 1 18))
 (znd pc 21
 (zlf pc 18 (s_cI (zpV 6) 110 3 [zU] zx0 21))
 (zlf pc 21 (s_rI)))))
theorem zm_X11_leastAnew (G : Nat × Nat) (pc : Nat) : zMon (zc_X11_leastAnew G pc) := (mo_d (mo_d (mo_d (mo_l (mo_iload _ _)) (mo_d (mo_l (mo_ic _ _)) (mo_l (mo_ic _ _)))) (mo_d (mo_l (mo_cI _ _ _ _ zPre_S zHm_0)) (mo_d (mo_l (mo_cV _ _ _ _ zPre_S zHm_0)) (mo_l (mo_aload _ _))))) (mo_d (mo_d (mo_l (mo_gR _ _ _)) (mo_d (mo_l (mo_aload _ _)) (mo_l (mo_gR _ _ _)))) (mo_d (mo_l (mo_iload _ _)) (mo_d (mo_l (mo_cI _ _ _ _ (zPre_V _) zHm_0)) (mo_l (mo_rI))))))
def zc_L_leastAnew (G : Nat × Nat) : Nat → zSem := fun pc =>
 znd pc 8
 (znd pc 3
 (znd pc 1
 (zlf pc 0 (s_aload 2 1))
 (znd pc 2
 (zlf pc 1 (s_ic 0 2))
 (zlf pc 2 (s_aload 0 3))))
 (znd pc 4
 (zlf pc 3 (s_iload 1 4))
 (znd pc 7
 (zlf pc 4 (s_cI (zpV 12) 111 2 [] (zxc 3 [(1, 13)]) 7))
 (zlf pc 7 (s_i2l 8)))))
 (znd pc 14
 (znd pc 9
 (zlf pc 8 (s_last 9))
 (znd pc 13
 (zlf pc 9 (s_goto 15))
 (zlf pc 13 (s_ic 1 14))))
 (znd pc 15
 (zlf pc 14 (s_rI))
 (znd pc 16
 (zlf pc 15 (s_ic 0 16))
 (zlf pc 16 (s_rI)))))
theorem zm_L_leastAnew (G : Nat × Nat) (pc : Nat) : zMon (zc_L_leastAnew G pc) := (mo_d (mo_d (mo_d (mo_l (mo_aload _ _)) (mo_d (mo_l (mo_ic _ _)) (mo_l (mo_aload _ _)))) (mo_d (mo_l (mo_iload _ _)) (mo_d (mo_l (mo_cI _ _ _ _ (zPre_V _) (zHm_c _ _))) (mo_l (mo_i2l _))))) (mo_d (mo_d (mo_l (mo_last _)) (mo_d (mo_l (mo_goto _)) (mo_l (mo_ic _ _)))) (mo_d (mo_l (mo_rI)) (mo_d (mo_l (mo_ic _ _)) (mo_l (mo_rI))))))
def zc_X12_leastAnew (G : Nat × Nat) : Nat → zSem := fun pc =>
 znd pc 2
 (znd pc 1
 (zlf pc 0 (s_aload 0 1))
 (zlf pc 1 (s_iload 1 2)))
 (znd pc 5
 (zlf pc 2 (s_cI (zpV 13) 107 2 [] zx0 5))
 (zlf pc 5 (s_rI)))
theorem zm_X12_leastAnew (G : Nat × Nat) (pc : Nat) : zMon (zc_X12_leastAnew G pc) := (mo_d (mo_d (mo_l (mo_aload _ _)) (mo_l (mo_iload _ _))) (mo_d (mo_l (mo_cI _ _ _ _ (zPre_V _) zHm_0)) (mo_l (mo_rI))))
def zc_J9_floorDiv_7cf53 (G : Nat × Nat) : Nat → zSem := fun pc =>
 znd pc 11
 (znd pc 4
 (znd pc 2
 (znd pc 1
 (zlf pc 0 (s_iload 0 1))
 (zlf pc 1 (s_iload 1 2)))
 (znd pc 3
 (zlf pc 2 (s_idiv 3))
 (zlf pc 3 (s_istore 2 4))))
 (znd pc 6
 (znd pc 5
 (zlf pc 4 (s_iload 0 5))
 (zlf pc 5 (s_iload 1 6)))
 (znd pc 7
 (zlf pc 6 (s_ixor 7))
 (znd pc 10
 (zlf pc 7 (s_ifge 21 10))
 (zlf pc 10 (s_iload 2 11))))))
 (znd pc 18
 (znd pc 13
 (znd pc 12
 (zlf pc 11 (s_iload 1 12))
 (zlf pc 12 (s_imul 13)))
 (znd pc 14
 (zlf pc 13 (s_iload 0 14))
 (znd pc 17
 (zlf pc 14 (s_cmpeq 21 17))
 (zlf pc 17 (s_iload 2 18)))))
 (znd pc 20
 (znd pc 19
 (zlf pc 18 (s_ic 1 19))
 (zlf pc 19 (s_isub 20)))
 (znd pc 21
 (zlf pc 20 (s_rI))
 (znd pc 22
 (zlf pc 21 (s_iload 2 22))
 (zlf pc 22 (s_rI))))))
theorem zm_J9_floorDiv_7cf53 (G : Nat × Nat) (pc : Nat) : zMon (zc_J9_floorDiv_7cf53 G pc) := (mo_d (mo_d (mo_d (mo_d (mo_l (mo_iload _ _)) (mo_l (mo_iload _ _))) (mo_d (mo_l (mo_idiv _)) (mo_l (mo_istore _ _)))) (mo_d (mo_d (mo_l (mo_iload _ _)) (mo_l (mo_iload _ _))) (mo_d (mo_l (mo_ixor _)) (mo_d (mo_l (mo_ifge _ _)) (mo_l (mo_iload _ _)))))) (mo_d (mo_d (mo_d (mo_l (mo_iload _ _)) (mo_l (mo_imul _))) (mo_d (mo_l (mo_iload _ _)) (mo_d (mo_l (mo_cmpeq _ _)) (mo_l (mo_iload _ _))))) (mo_d (mo_d (mo_l (mo_ic _ _)) (mo_l (mo_isub _))) (mo_d (mo_l (mo_rI)) (mo_d (mo_l (mo_iload _ _)) (mo_l (mo_rI)))))))
def zc_X11_divideDown (G : Nat × Nat) : Nat → zSem := fun pc =>
 znd pc 6
 (znd pc 2
 (znd pc 1
 (zlf pc 0 (s_iload 1 1))
 (zlf pc 1 (s_ic 1 2)))
 (znd pc 5
 (zlf pc 2 (s_cmpge 9 5))
 (zlf pc 5 (s_ic 0 6))))
 (znd pc 10
 (znd pc 9
 (zlf pc 6 (s_goto 14))
 (zlf pc 9 (s_iload 0 10)))
 (znd pc 11
 (zlf pc 10 (s_iload 1 11))
 (znd pc 14
 (zlf pc 11 (s_cI zpS 114 2 [zU] zx0 14))
 (zlf pc 14 (s_rI)))))
theorem zm_X11_divideDown (G : Nat × Nat) (pc : Nat) : zMon (zc_X11_divideDown G pc) := (mo_d (mo_d (mo_d (mo_l (mo_iload _ _)) (mo_l (mo_ic _ _))) (mo_d (mo_l (mo_cmpge _ _)) (mo_l (mo_ic _ _)))) (mo_d (mo_d (mo_l (mo_goto _)) (mo_l (mo_iload _ _))) (mo_d (mo_l (mo_iload _ _)) (mo_d (mo_l (mo_cI _ _ _ _ zPre_S zHm_0)) (mo_l (mo_rI))))))
def zc_X3_window (G : Nat × Nat) : Nat → zSem := fun pc =>
 znd pc 21
 (znd pc 11
 (znd pc 5
 (znd pc 1
 (zlf pc 0 (s_aload 0 1))
 (znd pc 4
 (zlf pc 1 (s_gI 4 1 4))
 (zlf pc 4 (s_ic 3 5))))
 (znd pc 9
 (znd pc 8
 (zlf pc 5 (s_cmpge 10 8))
 (zlf pc 8 (s_ic 0 9)))
 (znd pc 10
 (zlf pc 9 (s_rI))
 (zlf pc 10 (s_ic 0 11)))))
 (znd pc 14
 (znd pc 12
 (zlf pc 11 (s_istore 1 12))
 (znd pc 13
 (zlf pc 12 (s_ic 0 13))
 (zlf pc 13 (s_istore 2 14))))
 (znd pc 17
 (znd pc 15
 (zlf pc 14 (s_iload 2 15))
 (zlf pc 15 (s_ic 8 17)))
 (znd pc 20
 (zlf pc 17 (s_cmpge 37 20))
 (zlf pc 20 (s_iload 1 21))))))
 (znd pc 34
 (znd pc 26
 (znd pc 22
 (zlf pc 21 (s_aload 0 22))
 (znd pc 25
 (zlf pc 22 (s_gR 4 2 25))
 (zlf pc 25 (s_iload 2 26))))
 (znd pc 30
 (znd pc 29
 (zlf pc 26 (s_cI (zpV 9) 54 2 [] zx0 29))
 (zlf pc 29 (s_iadd 30)))
 (znd pc 31
 (zlf pc 30 (s_istore 1 31))
 (zlf pc 31 (s_iinc 2 1 34)))))
 (znd pc 42
 (znd pc 38
 (znd pc 37
 (zlf pc 34 (s_goto 14))
 (zlf pc 37 (s_iload 1 38)))
 (znd pc 39
 (zlf pc 38 (s_aload 0 39))
 (zlf pc 39 (s_gI 4 1 42))))
 (znd pc 47
 (znd pc 44
 (zlf pc 42 (s_ic 8 44))
 (zlf pc 44 (s_cI zpS 21 2 [] zx0 47)))
 (znd pc 50
 (zlf pc 47 (s_cI zpS 115 2 [] zx0 50))
 (zlf pc 50 (s_rI))))))
theorem zm_X3_window (G : Nat × Nat) (pc : Nat) : zMon (zc_X3_window G pc) := (mo_d (mo_d (mo_d (mo_d (mo_l (mo_aload _ _)) (mo_d (mo_l (mo_gI _ _ _)) (mo_l (mo_ic _ _)))) (mo_d (mo_d (mo_l (mo_cmpge _ _)) (mo_l (mo_ic _ _))) (mo_d (mo_l (mo_rI)) (mo_l (mo_ic _ _))))) (mo_d (mo_d (mo_l (mo_istore _ _)) (mo_d (mo_l (mo_ic _ _)) (mo_l (mo_istore _ _)))) (mo_d (mo_d (mo_l (mo_iload _ _)) (mo_l (mo_ic _ _))) (mo_d (mo_l (mo_cmpge _ _)) (mo_l (mo_iload _ _)))))) (mo_d (mo_d (mo_d (mo_l (mo_aload _ _)) (mo_d (mo_l (mo_gR _ _ _)) (mo_l (mo_iload _ _)))) (mo_d (mo_d (mo_l (mo_cI _ _ _ _ (zPre_V _) zHm_0)) (mo_l (mo_iadd _))) (mo_d (mo_l (mo_istore _ _)) (mo_l (mo_iinc _ _ _))))) (mo_d (mo_d (mo_d (mo_l (mo_goto _)) (mo_l (mo_iload _ _))) (mo_d (mo_l (mo_aload _ _)) (mo_l (mo_gI _ _ _)))) (mo_d (mo_d (mo_l (mo_ic _ _)) (mo_l (mo_cI _ _ _ _ zPre_S zHm_0))) (mo_d (mo_l (mo_cI _ _ _ _ zPre_S zHm_0)) (mo_l (mo_rI)))))))
def zc_J9_abs_0f7a4 (G : Nat × Nat) : Nat → zSem := fun pc =>
 znd pc 5
 (znd pc 1
 (zlf pc 0 (s_iload 0 1))
 (znd pc 4
 (zlf pc 1 (s_ifge 9 4))
 (zlf pc 4 (s_iload 0 5))))
 (znd pc 9
 (znd pc 6
 (zlf pc 5 (s_ineg 6))
 (zlf pc 6 (s_goto 10)))
 (znd pc 10
 (zlf pc 9 (s_iload 0 10))
 (zlf pc 10 (s_rI))))
theorem zm_J9_abs_0f7a4 (G : Nat × Nat) (pc : Nat) : zMon (zc_J9_abs_0f7a4 G pc) := (mo_d (mo_d (mo_l (mo_iload _ _)) (mo_d (mo_l (mo_ifge _ _)) (mo_l (mo_iload _ _)))) (mo_d (mo_d (mo_l (mo_ineg _)) (mo_l (mo_goto _))) (mo_d (mo_l (mo_iload _ _)) (mo_l (mo_rI)))))
def zc_X3_judge (G : Nat × Nat) : Nat → zSem := fun pc =>
 znd pc 48
 (znd pc 24
 (znd pc 10
 (znd pc 5
 (znd pc 1
 (zlf pc 0 (s_aload 0 1))
 (znd pc 4
 (zlf pc 1 (s_gI 4 1 4))
 (zlf pc 4 (s_ic 3 5))))
 (znd pc 8
 (zlf pc 5 (s_cmplt 27 8))
 (znd pc 9
 (zlf pc 8 (s_iload 1 9))
 (zlf pc 9 (s_aload 0 10)))))
 (znd pc 17
 (znd pc 13
 (zlf pc 10 (s_cI (zpV 4) 116 1 [zU, zU] zx0 13))
 (znd pc 14
 (zlf pc 13 (s_isub 14))
 (zlf pc 14 (s_cI zpS 117 1 [] zx0 17))))
 (znd pc 20
 (znd pc 19
 (zlf pc 17 (s_ic 10 19))
 (zlf pc 19 (s_imul 20)))
 (znd pc 21
 (zlf pc 20 (s_aload 0 21))
 (zlf pc 21 (s_cI (zpV 4) 116 1 [zU, zU] zx0 24))))))
 (znd pc 35
 (znd pc 31
 (znd pc 27
 (zlf pc 24 (s_cmpgt 31 27))
 (znd pc 28
 (zlf pc 27 (s_ic 1 28))
 (zlf pc 28 (s_goto 32))))
 (znd pc 33
 (znd pc 32
 (zlf pc 31 (s_ic 0 32))
 (zlf pc 32 (s_istore 2 33)))
 (znd pc 34
 (zlf pc 33 (s_aload 0 34))
 (zlf pc 34 (s_dup 35)))))
 (znd pc 40
 (znd pc 38
 (zlf pc 35 (s_gI 4 0 38))
 (znd pc 39
 (zlf pc 38 (s_ic 1 39))
 (zlf pc 39 (s_iadd 40))))
 (znd pc 44
 (znd pc 43
 (zlf pc 40 (s_pI 4 0 43))
 (zlf pc 43 (s_iload 2 44)))
 (znd pc 47
 (zlf pc 44 (s_ifeq 94 47))
 (zlf pc 47 (s_aload 0 48)))))))
 (znd pc 71
 (znd pc 58
 (znd pc 53
 (znd pc 49
 (zlf pc 48 (s_dup 49))
 (znd pc 52
 (zlf pc 49 (s_gI 4 1 52))
 (zlf pc 52 (s_ic 1 53))))
 (znd pc 54
 (zlf pc 53 (s_iadd 54))
 (znd pc 57
 (zlf pc 54 (s_pI 4 1 57))
 (zlf pc 57 (s_aload 0 58)))))
 (znd pc 65
 (znd pc 61
 (zlf pc 58 (s_gR 4 2 61))
 (znd pc 62
 (zlf pc 61 (s_aload 0 62))
 (zlf pc 62 (s_gI 4 3 65))))
 (znd pc 69
 (znd pc 66
 (zlf pc 65 (s_iload 1 66))
 (zlf pc 66 (s_cV (zpV 9) 7 3 [] zx0 69)))
 (znd pc 70
 (zlf pc 69 (s_aload 0 70))
 (zlf pc 70 (s_aload 0 71))))))
 (znd pc 85
 (znd pc 76
 (znd pc 74
 (zlf pc 71 (s_gI 4 3 74))
 (znd pc 75
 (zlf pc 74 (s_ic 1 75))
 (zlf pc 75 (s_iadd 76))))
 (znd pc 81
 (znd pc 78
 (zlf pc 76 (s_ic 8 78))
 (zlf pc 78 (s_cmpge 90 81)))
 (znd pc 82
 (zlf pc 81 (s_aload 0 82))
 (zlf pc 82 (s_gI 4 3 85)))))
 (znd pc 90
 (znd pc 86
 (zlf pc 85 (s_ic 1 86))
 (znd pc 87
 (zlf pc 86 (s_iadd 87))
 (zlf pc 87 (s_goto 91))))
 (znd pc 94
 (znd pc 91
 (zlf pc 90 (s_ic 0 91))
 (zlf pc 91 (s_pI 4 3 94)))
 (znd pc 95
 (zlf pc 94 (s_iload 2 95))
 (zlf pc 95 (s_rZ)))))))
theorem zm_X3_judge (G : Nat × Nat) (pc : Nat) : zMon (zc_X3_judge G pc) := (mo_d (mo_d (mo_d (mo_d (mo_d (mo_l (mo_aload _ _)) (mo_d (mo_l (mo_gI _ _ _)) (mo_l (mo_ic _ _)))) (mo_d (mo_l (mo_cmplt _ _)) (mo_d (mo_l (mo_iload _ _)) (mo_l (mo_aload _ _))))) (mo_d (mo_d (mo_l (mo_cI _ _ _ _ (zPre_V _) zHm_0)) (mo_d (mo_l (mo_isub _)) (mo_l (mo_cI _ _ _ _ zPre_S zHm_0)))) (mo_d (mo_d (mo_l (mo_ic _ _)) (mo_l (mo_imul _))) (mo_d (mo_l (mo_aload _ _)) (mo_l (mo_cI _ _ _ _ (zPre_V _) zHm_0)))))) (mo_d (mo_d (mo_d (mo_l (mo_cmpgt _ _)) (mo_d (mo_l (mo_ic _ _)) (mo_l (mo_goto _)))) (mo_d (mo_d (mo_l (mo_ic _ _)) (mo_l (mo_istore _ _))) (mo_d (mo_l (mo_aload _ _)) (mo_l (mo_dup _))))) (mo_d (mo_d (mo_l (mo_gI _ _ _)) (mo_d (mo_l (mo_ic _ _)) (mo_l (mo_iadd _)))) (mo_d (mo_d (mo_l (mo_pI _ _ _)) (mo_l (mo_iload _ _))) (mo_d (mo_l (mo_ifeq _ _)) (mo_l (mo_aload _ _))))))) (mo_d (mo_d (mo_d (mo_d (mo_l (mo_dup _)) (mo_d (mo_l (mo_gI _ _ _)) (mo_l (mo_ic _ _)))) (mo_d (mo_l (mo_iadd _)) (mo_d (mo_l (mo_pI _ _ _)) (mo_l (mo_aload _ _))))) (mo_d (mo_d (mo_l (mo_gR _ _ _)) (mo_d (mo_l (mo_aload _ _)) (mo_l (mo_gI _ _ _)))) (mo_d (mo_d (mo_l (mo_iload _ _)) (mo_l (mo_cV _ _ _ _ (zPre_V _) zHm_0))) (mo_d (mo_l (mo_aload _ _)) (mo_l (mo_aload _ _)))))) (mo_d (mo_d (mo_d (mo_l (mo_gI _ _ _)) (mo_d (mo_l (mo_ic _ _)) (mo_l (mo_iadd _)))) (mo_d (mo_d (mo_l (mo_ic _ _)) (mo_l (mo_cmpge _ _))) (mo_d (mo_l (mo_aload _ _)) (mo_l (mo_gI _ _ _))))) (mo_d (mo_d (mo_l (mo_ic _ _)) (mo_d (mo_l (mo_iadd _)) (mo_l (mo_goto _)))) (mo_d (mo_d (mo_l (mo_ic _ _)) (mo_l (mo_pI _ _ _))) (mo_d (mo_l (mo_iload _ _)) (mo_l (mo_rZ))))))))
def zc_X11_crimp (G : Nat × Nat) : Nat → zSem := fun pc =>
 znd pc 11
 (znd pc 2
 (znd pc 1
 (zlf pc 0 (s_iload 1 1))
 (zlf pc 1 (s_ic 1 2)))
 (znd pc 5
 (zlf pc 2 (s_ic 9999 5))
 (znd pc 8
 (zlf pc 5 (s_cI zpS 14 3 [] zx0 8))
 (zlf pc 8 (s_cV zpS 15 1 [] zx0 11)))))
 (znd pc 15
 (znd pc 12
 (zlf pc 11 (s_aload 0 12))
 (zlf pc 12 (s_gR 12 2 15)))
 (znd pc 16
 (zlf pc 15 (s_iload 1 16))
 (znd pc 19
 (zlf pc 16 (s_cI (zpV 4) 118 2 [zU] zx0 19))
 (zlf pc 19 (s_rZ)))))
theorem zm_X11_crimp (G : Nat × Nat) (pc : Nat) : zMon (zc_X11_crimp G pc) := (mo_d (mo_d (mo_d (mo_l (mo_iload _ _)) (mo_l (mo_ic _ _))) (mo_d (mo_l (mo_ic _ _)) (mo_d (mo_l (mo_cI _ _ _ _ zPre_S zHm_0)) (mo_l (mo_cV _ _ _ _ zPre_S zHm_0))))) (mo_d (mo_d (mo_l (mo_aload _ _)) (mo_l (mo_gR _ _ _))) (mo_d (mo_l (mo_iload _ _)) (mo_d (mo_l (mo_cI _ _ _ _ (zPre_V _) zHm_0)) (mo_l (mo_rZ))))))
def zc_L_crimp (G : Nat × Nat) : Nat → zSem := fun pc =>
 znd pc 11
 (znd pc 3
 (znd pc 1
 (zlf pc 0 (s_aload 2 1))
 (znd pc 2
 (zlf pc 1 (s_ic 0 2))
 (zlf pc 2 (s_aload 0 3))))
 (znd pc 7
 (znd pc 4
 (zlf pc 3 (s_iload 1 4))
 (zlf pc 4 (s_cI (zpV 12) 119 2 [] (zxc 3 [(1, 20)]) 7)))
 (znd pc 10
 (zlf pc 7 (s_ifeq 14 10))
 (zlf pc 10 (s_lc 1 11)))))
 (znd pc 20
 (znd pc 15
 (znd pc 14
 (zlf pc 11 (s_goto 15))
 (zlf pc 14 (s_lc 0 15)))
 (znd pc 16
 (zlf pc 15 (s_last 16))
 (zlf pc 16 (s_goto 22))))
 (znd pc 22
 (znd pc 21
 (zlf pc 20 (s_ic 1 21))
 (zlf pc 21 (s_rI)))
 (znd pc 23
 (zlf pc 22 (s_ic 0 23))
 (zlf pc 23 (s_rI)))))
theorem zm_L_crimp (G : Nat × Nat) (pc : Nat) : zMon (zc_L_crimp G pc) := (mo_d (mo_d (mo_d (mo_l (mo_aload _ _)) (mo_d (mo_l (mo_ic _ _)) (mo_l (mo_aload _ _)))) (mo_d (mo_d (mo_l (mo_iload _ _)) (mo_l (mo_cI _ _ _ _ (zPre_V _) (zHm_c _ _)))) (mo_d (mo_l (mo_ifeq _ _)) (mo_l (mo_lc _ _))))) (mo_d (mo_d (mo_d (mo_l (mo_goto _)) (mo_l (mo_lc _ _))) (mo_d (mo_l (mo_last _)) (mo_l (mo_goto _)))) (mo_d (mo_d (mo_l (mo_ic _ _)) (mo_l (mo_rI))) (mo_d (mo_l (mo_ic _ _)) (mo_l (mo_rI))))))
def zc_X12_window (G : Nat × Nat) : Nat → zSem := fun pc =>
 znd pc 31
 (znd pc 14
 (znd pc 8
 (znd pc 4
 (znd pc 1
 (zlf pc 0 (s_aload 0 1))
 (zlf pc 1 (s_gI 13 22 4)))
 (znd pc 5
 (zlf pc 4 (s_ic 3 5))
 (zlf pc 5 (s_cmpge 10 8))))
 (znd pc 10
 (znd pc 9
 (zlf pc 8 (s_ic 0 9))
 (zlf pc 9 (s_rI)))
 (znd pc 11
 (zlf pc 10 (s_aload 0 11))
 (zlf pc 11 (s_gI 13 22 14)))))
 (znd pc 23
 (znd pc 19
 (znd pc 16
 (zlf pc 14 (s_ic 8 16))
 (zlf pc 16 (s_cmpge 26 19)))
 (znd pc 20
 (zlf pc 19 (s_aload 0 20))
 (zlf pc 20 (s_gI 13 22 23))))
 (znd pc 28
 (znd pc 26
 (zlf pc 23 (s_goto 28))
 (zlf pc 26 (s_ic 8 28)))
 (znd pc 29
 (zlf pc 28 (s_istore 1 29))
 (znd pc 30
 (zlf pc 29 (s_ic 0 30))
 (zlf pc 30 (s_istore 2 31)))))))
 (znd pc 44
 (znd pc 35
 (znd pc 33
 (znd pc 32
 (zlf pc 31 (s_ic 0 32))
 (zlf pc 32 (s_istore 3 33)))
 (znd pc 34
 (zlf pc 33 (s_iload 3 34))
 (zlf pc 34 (s_iload 1 35))))
 (znd pc 39
 (znd pc 38
 (zlf pc 35 (s_cmpge 53 38))
 (zlf pc 38 (s_iload 2 39)))
 (znd pc 40
 (zlf pc 39 (s_aload 0 40))
 (znd pc 43
 (zlf pc 40 (s_gR 13 23 43))
 (zlf pc 43 (s_iload 3 44))))))
 (znd pc 50
 (znd pc 46
 (znd pc 45
 (zlf pc 44 (s_iald 45))
 (zlf pc 45 (s_iadd 46)))
 (znd pc 47
 (zlf pc 46 (s_istore 2 47))
 (zlf pc 47 (s_iinc 3 1 50))))
 (znd pc 54
 (znd pc 53
 (zlf pc 50 (s_goto 33))
 (zlf pc 53 (s_iload 2 54)))
 (znd pc 55
 (zlf pc 54 (s_iload 1 55))
 (znd pc 56
 (zlf pc 55 (s_idiv 56))
 (zlf pc 56 (s_rI)))))))
theorem zm_X12_window (G : Nat × Nat) (pc : Nat) : zMon (zc_X12_window G pc) := (mo_d (mo_d (mo_d (mo_d (mo_d (mo_l (mo_aload _ _)) (mo_l (mo_gI _ _ _))) (mo_d (mo_l (mo_ic _ _)) (mo_l (mo_cmpge _ _)))) (mo_d (mo_d (mo_l (mo_ic _ _)) (mo_l (mo_rI))) (mo_d (mo_l (mo_aload _ _)) (mo_l (mo_gI _ _ _))))) (mo_d (mo_d (mo_d (mo_l (mo_ic _ _)) (mo_l (mo_cmpge _ _))) (mo_d (mo_l (mo_aload _ _)) (mo_l (mo_gI _ _ _)))) (mo_d (mo_d (mo_l (mo_goto _)) (mo_l (mo_ic _ _))) (mo_d (mo_l (mo_istore _ _)) (mo_d (mo_l (mo_ic _ _)) (mo_l (mo_istore _ _))))))) (mo_d (mo_d (mo_d (mo_d (mo_l (mo_ic _ _)) (mo_l (mo_istore _ _))) (mo_d (mo_l (mo_iload _ _)) (mo_l (mo_iload _ _)))) (mo_d (mo_d (mo_l (mo_cmpge _ _)) (mo_l (mo_iload _ _))) (mo_d (mo_l (mo_aload _ _)) (mo_d (mo_l (mo_gR _ _ _)) (mo_l (mo_iload _ _)))))) (mo_d (mo_d (mo_d (mo_l (mo_iald _)) (mo_l (mo_iadd _))) (mo_d (mo_l (mo_istore _ _)) (mo_l (mo_iinc _ _ _)))) (mo_d (mo_d (mo_l (mo_goto _)) (mo_l (mo_iload _ _))) (mo_d (mo_l (mo_iload _ _)) (mo_d (mo_l (mo_idiv _)) (mo_l (mo_rI))))))))
def zc_X12_crimp (G : Nat × Nat) : Nat → zSem := fun pc =>
 znd pc 59
 (znd pc 30
 (znd pc 16
 (znd pc 6
 (znd pc 2
 (znd pc 1
 (zlf pc 0 (s_aload 0 1))
 (zlf pc 1 (s_iload 1 2)))
 (znd pc 3
 (zlf pc 2 (s_ic 1 3))
 (zlf pc 3 (s_ic 9999 6))))
 (znd pc 12
 (znd pc 9
 (zlf pc 6 (s_cI zpS 31 3 [] zx0 9))
 (zlf pc 9 (s_ifeq 16 12)))
 (znd pc 13
 (zlf pc 12 (s_ic 0 13))
 (zlf pc 13 (s_goto 17)))))
 (znd pc 24
 (znd pc 20
 (znd pc 17
 (zlf pc 16 (s_ic 1 17))
 (zlf pc 17 (s_cI (zpV 13) 33 2 [] zx0 20)))
 (znd pc 23
 (zlf pc 20 (s_ifeq 25 23))
 (zlf pc 23 (s_ic 0 24))))
 (znd pc 26
 (znd pc 25
 (zlf pc 24 (s_rZ))
 (zlf pc 25 (s_iload 1 26)))
 (znd pc 27
 (zlf pc 26 (s_aload 0 27))
 (zlf pc 27 (s_cI (zpV 13) 121 1 [zU, zU, zU] zx0 30))))))
 (znd pc 46
 (znd pc 38
 (znd pc 34
 (znd pc 33
 (zlf pc 30 (s_cmple 42 33))
 (zlf pc 33 (s_iload 1 34)))
 (znd pc 35
 (zlf pc 34 (s_aload 0 35))
 (zlf pc 35 (s_cI (zpV 13) 121 1 [zU, zU, zU] zx0 38))))
 (znd pc 42
 (znd pc 39
 (zlf pc 38 (s_isub 39))
 (zlf pc 39 (s_goto 48)))
 (znd pc 43
 (zlf pc 42 (s_aload 0 43))
 (zlf pc 43 (s_cI (zpV 13) 121 1 [zU, zU, zU] zx0 46)))))
 (znd pc 50
 (znd pc 48
 (znd pc 47
 (zlf pc 46 (s_iload 1 47))
 (zlf pc 47 (s_isub 48)))
 (znd pc 49
 (zlf pc 48 (s_istore 2 49))
 (zlf pc 49 (s_aload 0 50))))
 (znd pc 54
 (znd pc 53
 (zlf pc 50 (s_gI 13 22 53))
 (zlf pc 53 (s_ic 3 54)))
 (znd pc 57
 (zlf pc 54 (s_cmplt 68 57))
 (zlf pc 57 (s_ic 10 59)))))))
 (znd pc 85
 (znd pc 73
 (znd pc 65
 (znd pc 61
 (znd pc 60
 (zlf pc 59 (s_iload 2 60))
 (zlf pc 60 (s_imul 61)))
 (znd pc 62
 (zlf pc 61 (s_aload 0 62))
 (zlf pc 62 (s_cI (zpV 13) 121 1 [zU, zU, zU] zx0 65))))
 (znd pc 69
 (znd pc 68
 (zlf pc 65 (s_cmpgt 72 68))
 (zlf pc 68 (s_ic 1 69)))
 (znd pc 72
 (zlf pc 69 (s_goto 73))
 (zlf pc 72 (s_ic 0 73)))))
 (znd pc 79
 (znd pc 75
 (znd pc 74
 (zlf pc 73 (s_istore 3 74))
 (zlf pc 74 (s_aload 0 75)))
 (znd pc 76
 (zlf pc 75 (s_dup 76))
 (zlf pc 76 (s_gI 13 21 79))))
 (znd pc 81
 (znd pc 80
 (zlf pc 79 (s_ic 1 80))
 (zlf pc 80 (s_iadd 81)))
 (znd pc 84
 (zlf pc 81 (s_pI 13 21 84))
 (zlf pc 84 (s_iload 3 85))))))
 (znd pc 100
 (znd pc 93
 (znd pc 89
 (znd pc 88
 (zlf pc 85 (s_ifeq 111 88))
 (zlf pc 88 (s_aload 0 89)))
 (znd pc 92
 (zlf pc 89 (s_gR 13 23 92))
 (zlf pc 92 (s_aload 0 93))))
 (znd pc 98
 (znd pc 96
 (zlf pc 93 (s_gI 13 22 96))
 (zlf pc 96 (s_ic 8 98)))
 (znd pc 99
 (zlf pc 98 (s_irem 99))
 (zlf pc 99 (s_iload 1 100)))))
 (znd pc 106
 (znd pc 102
 (znd pc 101
 (zlf pc 100 (s_iast 101))
 (zlf pc 101 (s_aload 0 102)))
 (znd pc 103
 (zlf pc 102 (s_dup 103))
 (zlf pc 103 (s_gI 13 22 106))))
 (znd pc 108
 (znd pc 107
 (zlf pc 106 (s_ic 1 107))
 (zlf pc 107 (s_iadd 108)))
 (znd pc 111
 (zlf pc 108 (s_pI 13 22 111))
 (znd pc 112
 (zlf pc 111 (s_iload 3 112))
 (zlf pc 112 (s_rZ))))))))
theorem zm_X12_crimp (G : Nat × Nat) (pc : Nat) : zMon (zc_X12_crimp G pc) := (mo_d (mo_d (mo_d (mo_d (mo_d (mo_d (mo_l (mo_aload _ _)) (mo_l (mo_iload _ _))) (mo_d (mo_l (mo_ic _ _)) (mo_l (mo_ic _ _)))) (mo_d (mo_d (mo_l (mo_cI _ _ _ _ zPre_S zHm_0)) (mo_l (mo_ifeq _ _))) (mo_d (mo_l (mo_ic _ _)) (mo_l (mo_goto _))))) (mo_d (mo_d (mo_d (mo_l (mo_ic _ _)) (mo_l (mo_cI _ _ _ _ (zPre_V _) zHm_0))) (mo_d (mo_l (mo_ifeq _ _)) (mo_l (mo_ic _ _)))) (mo_d (mo_d (mo_l (mo_rZ)) (mo_l (mo_iload _ _))) (mo_d (mo_l (mo_aload _ _)) (mo_l (mo_cI _ _ _ _ (zPre_V _) zHm_0)))))) (mo_d (mo_d (mo_d (mo_d (mo_l (mo_cmple _ _)) (mo_l (mo_iload _ _))) (mo_d (mo_l (mo_aload _ _)) (mo_l (mo_cI _ _ _ _ (zPre_V _) zHm_0)))) (mo_d (mo_d (mo_l (mo_isub _)) (mo_l (mo_goto _))) (mo_d (mo_l (mo_aload _ _)) (mo_l (mo_cI _ _ _ _ (zPre_V _) zHm_0))))) (mo_d (mo_d (mo_d (mo_l (mo_iload _ _)) (mo_l (mo_isub _))) (mo_d (mo_l (mo_istore _ _)) (mo_l (mo_aload _ _)))) (mo_d (mo_d (mo_l (mo_gI _ _ _)) (mo_l (mo_ic _ _))) (mo_d (mo_l (mo_cmplt _ _)) (mo_l (mo_ic _ _))))))) (mo_d (mo_d (mo_d (mo_d (mo_d (mo_l (mo_iload _ _)) (mo_l (mo_imul _))) (mo_d (mo_l (mo_aload _ _)) (mo_l (mo_cI _ _ _ _ (zPre_V _) zHm_0)))) (mo_d (mo_d (mo_l (mo_cmpgt _ _)) (mo_l (mo_ic _ _))) (mo_d (mo_l (mo_goto _)) (mo_l (mo_ic _ _))))) (mo_d (mo_d (mo_d (mo_l (mo_istore _ _)) (mo_l (mo_aload _ _))) (mo_d (mo_l (mo_dup _)) (mo_l (mo_gI _ _ _)))) (mo_d (mo_d (mo_l (mo_ic _ _)) (mo_l (mo_iadd _))) (mo_d (mo_l (mo_pI _ _ _)) (mo_l (mo_iload _ _)))))) (mo_d (mo_d (mo_d (mo_d (mo_l (mo_ifeq _ _)) (mo_l (mo_aload _ _))) (mo_d (mo_l (mo_gR _ _ _)) (mo_l (mo_aload _ _)))) (mo_d (mo_d (mo_l (mo_gI _ _ _)) (mo_l (mo_ic _ _))) (mo_d (mo_l (mo_irem _)) (mo_l (mo_iload _ _))))) (mo_d (mo_d (mo_d (mo_l (mo_iast _)) (mo_l (mo_aload _ _))) (mo_d (mo_l (mo_dup _)) (mo_l (mo_gI _ _ _)))) (mo_d (mo_d (mo_l (mo_ic _ _)) (mo_l (mo_iadd _))) (mo_d (mo_l (mo_pI _ _ _)) (mo_d (mo_l (mo_iload _ _)) (mo_l (mo_rZ)))))))))
def zc_X11_crimps (G : Nat × Nat) : Nat → zSem := fun pc =>
 znd pc 21
 (znd pc 9
 (znd pc 2
 (znd pc 1
 (zlf pc 0 (s_iload 1 1))
 (zlf pc 1 (s_ic 0 2)))
 (znd pc 3
 (zlf pc 2 (s_ic 2 3))
 (znd pc 6
 (zlf pc 3 (s_cI zpS 14 3 [] zx0 6))
 (zlf pc 6 (s_cV zpS 15 1 [] zx0 9)))))
 (znd pc 14
 (znd pc 10
 (zlf pc 9 (s_iload 1 10))
 (znd pc 13
 (zlf pc 10 (s_ifne 21 13))
 (zlf pc 13 (s_aload 0 14))))
 (znd pc 17
 (zlf pc 14 (s_gR 12 2 17))
 (znd pc 20
 (zlf pc 17 (s_gI 4 0 20))
 (zlf pc 20 (s_rI))))))
 (znd pc 30
 (znd pc 23
 (znd pc 22
 (zlf pc 21 (s_iload 1 22))
 (zlf pc 22 (s_ic 1 23)))
 (znd pc 26
 (zlf pc 23 (s_cmpne 36 26))
 (znd pc 27
 (zlf pc 26 (s_aload 0 27))
 (zlf pc 27 (s_gR 12 2 30)))))
 (znd pc 37
 (znd pc 33
 (zlf pc 30 (s_gI 4 1 33))
 (znd pc 36
 (zlf pc 33 (s_goto 43))
 (zlf pc 36 (s_aload 0 37))))
 (znd pc 40
 (zlf pc 37 (s_gR 12 2 40))
 (znd pc 43
 (zlf pc 40 (s_cI (zpV 4) 116 1 [zU, zU] zx0 43))
 (zlf pc 43 (s_rI))))))
theorem zm_X11_crimps (G : Nat × Nat) (pc : Nat) : zMon (zc_X11_crimps G pc) := (mo_d (mo_d (mo_d (mo_d (mo_l (mo_iload _ _)) (mo_l (mo_ic _ _))) (mo_d (mo_l (mo_ic _ _)) (mo_d (mo_l (mo_cI _ _ _ _ zPre_S zHm_0)) (mo_l (mo_cV _ _ _ _ zPre_S zHm_0))))) (mo_d (mo_d (mo_l (mo_iload _ _)) (mo_d (mo_l (mo_ifne _ _)) (mo_l (mo_aload _ _)))) (mo_d (mo_l (mo_gR _ _ _)) (mo_d (mo_l (mo_gI _ _ _)) (mo_l (mo_rI)))))) (mo_d (mo_d (mo_d (mo_l (mo_iload _ _)) (mo_l (mo_ic _ _))) (mo_d (mo_l (mo_cmpne _ _)) (mo_d (mo_l (mo_aload _ _)) (mo_l (mo_gR _ _ _))))) (mo_d (mo_d (mo_l (mo_gI _ _ _)) (mo_d (mo_l (mo_goto _)) (mo_l (mo_aload _ _)))) (mo_d (mo_l (mo_gR _ _ _)) (mo_d (mo_l (mo_cI _ _ _ _ (zPre_V _) zHm_0)) (mo_l (mo_rI)))))))
def zc_L_crimps (G : Nat × Nat) : Nat → zSem := fun pc =>
 znd pc 8
 (znd pc 3
 (znd pc 1
 (zlf pc 0 (s_aload 2 1))
 (znd pc 2
 (zlf pc 1 (s_ic 0 2))
 (zlf pc 2 (s_aload 0 3))))
 (znd pc 4
 (zlf pc 3 (s_iload 1 4))
 (znd pc 7
 (zlf pc 4 (s_cI (zpV 12) 123 2 [] (zxc 3 [(1, 13)]) 7))
 (zlf pc 7 (s_i2l 8)))))
 (znd pc 14
 (znd pc 9
 (zlf pc 8 (s_last 9))
 (znd pc 13
 (zlf pc 9 (s_goto 15))
 (zlf pc 13 (s_ic 1 14))))
 (znd pc 15
 (zlf pc 14 (s_rI))
 (znd pc 16
 (zlf pc 15 (s_ic 0 16))
 (zlf pc 16 (s_rI)))))
theorem zm_L_crimps (G : Nat × Nat) (pc : Nat) : zMon (zc_L_crimps G pc) := (mo_d (mo_d (mo_d (mo_l (mo_aload _ _)) (mo_d (mo_l (mo_ic _ _)) (mo_l (mo_aload _ _)))) (mo_d (mo_l (mo_iload _ _)) (mo_d (mo_l (mo_cI _ _ _ _ (zPre_V _) (zHm_c _ _))) (mo_l (mo_i2l _))))) (mo_d (mo_d (mo_l (mo_last _)) (mo_d (mo_l (mo_goto _)) (mo_l (mo_ic _ _)))) (mo_d (mo_l (mo_rI)) (mo_d (mo_l (mo_ic _ _)) (mo_l (mo_rI))))))
def zc_X12_crimps (G : Nat × Nat) : Nat → zSem := fun pc =>
 znd pc 25
 (znd pc 10
 (znd pc 3
 (znd pc 1
 (zlf pc 0 (s_aload 0 1))
 (znd pc 2
 (zlf pc 1 (s_iload 1 2))
 (zlf pc 2 (s_ic 0 3))))
 (znd pc 4
 (zlf pc 3 (s_ic 2 4))
 (znd pc 7
 (zlf pc 4 (s_cI zpS 31 3 [] zx0 7))
 (zlf pc 7 (s_ifeq 14 10)))))
 (znd pc 15
 (znd pc 11
 (zlf pc 10 (s_ic 0 11))
 (znd pc 14
 (zlf pc 11 (s_goto 15))
 (zlf pc 14 (s_ic 1 15))))
 (znd pc 21
 (znd pc 18
 (zlf pc 15 (s_cI (zpV 13) 33 2 [] zx0 18))
 (zlf pc 18 (s_ifeq 25 21)))
 (znd pc 22
 (zlf pc 21 (s_ic 0 22))
 (zlf pc 22 (s_goto 52))))))
 (znd pc 38
 (znd pc 30
 (znd pc 26
 (zlf pc 25 (s_iload 1 26))
 (znd pc 29
 (zlf pc 26 (s_ifne 36 29))
 (zlf pc 29 (s_aload 0 30))))
 (znd pc 36
 (znd pc 33
 (zlf pc 30 (s_gI 13 21 33))
 (zlf pc 33 (s_goto 52)))
 (znd pc 37
 (zlf pc 36 (s_iload 1 37))
 (zlf pc 37 (s_ic 1 38)))))
 (znd pc 45
 (znd pc 41
 (zlf pc 38 (s_cmpne 48 41))
 (znd pc 42
 (zlf pc 41 (s_aload 0 42))
 (zlf pc 42 (s_gI 13 22 45))))
 (znd pc 49
 (znd pc 48
 (zlf pc 45 (s_goto 52))
 (zlf pc 48 (s_aload 0 49)))
 (znd pc 52
 (zlf pc 49 (s_cI (zpV 13) 121 1 [zU, zU, zU] zx0 52))
 (zlf pc 52 (s_rI))))))
theorem zm_X12_crimps (G : Nat × Nat) (pc : Nat) : zMon (zc_X12_crimps G pc) := (mo_d (mo_d (mo_d (mo_d (mo_l (mo_aload _ _)) (mo_d (mo_l (mo_iload _ _)) (mo_l (mo_ic _ _)))) (mo_d (mo_l (mo_ic _ _)) (mo_d (mo_l (mo_cI _ _ _ _ zPre_S zHm_0)) (mo_l (mo_ifeq _ _))))) (mo_d (mo_d (mo_l (mo_ic _ _)) (mo_d (mo_l (mo_goto _)) (mo_l (mo_ic _ _)))) (mo_d (mo_d (mo_l (mo_cI _ _ _ _ (zPre_V _) zHm_0)) (mo_l (mo_ifeq _ _))) (mo_d (mo_l (mo_ic _ _)) (mo_l (mo_goto _)))))) (mo_d (mo_d (mo_d (mo_l (mo_iload _ _)) (mo_d (mo_l (mo_ifne _ _)) (mo_l (mo_aload _ _)))) (mo_d (mo_d (mo_l (mo_gI _ _ _)) (mo_l (mo_goto _))) (mo_d (mo_l (mo_iload _ _)) (mo_l (mo_ic _ _))))) (mo_d (mo_d (mo_l (mo_cmpne _ _)) (mo_d (mo_l (mo_aload _ _)) (mo_l (mo_gI _ _ _)))) (mo_d (mo_d (mo_l (mo_goto _)) (mo_l (mo_aload _ _))) (mo_d (mo_l (mo_cI _ _ _ _ (zPre_V _) zHm_0)) (mo_l (mo_rI)))))))
def zc_X7_init (G : Nat × Nat) : Nat → zSem := fun pc =>
 znd pc 10
 (znd pc 5
 (znd pc 1
 (zlf pc 0 (s_aload 0 1))
 (znd pc 4
 (zlf pc 1 (s_obj 4))
 (zlf pc 4 (s_aload 0 5))))
 (znd pc 6
 (zlf pc 5 (s_iload 1 6))
 (znd pc 9
 (zlf pc 6 (s_pI 8 0 9))
 (zlf pc 9 (s_aload 0 10)))))
 (znd pc 15
 (znd pc 11
 (zlf pc 10 (s_iload 3 11))
 (znd pc 14
 (zlf pc 11 (s_pI 8 1 14))
 (zlf pc 14 (s_aload 0 15))))
 (znd pc 16
 (zlf pc 15 (s_iload 2 16))
 (znd pc 19
 (zlf pc 16 (s_pI 8 2 19))
 (zlf pc 19 (s_rV)))))
theorem zm_X7_init (G : Nat × Nat) (pc : Nat) : zMon (zc_X7_init G pc) := (mo_d (mo_d (mo_d (mo_l (mo_aload _ _)) (mo_d (mo_l (mo_obj _)) (mo_l (mo_aload _ _)))) (mo_d (mo_l (mo_iload _ _)) (mo_d (mo_l (mo_pI _ _ _)) (mo_l (mo_aload _ _))))) (mo_d (mo_d (mo_l (mo_iload _ _)) (mo_d (mo_l (mo_pI _ _ _)) (mo_l (mo_aload _ _)))) (mo_d (mo_l (mo_iload _ _)) (mo_d (mo_l (mo_pI _ _ _)) (mo_l (mo_rV))))))
def zc_X11_reel (G : Nat × Nat) : Nat → zSem := fun pc =>
 znd pc 45
 (znd pc 20
 (znd pc 10
 (znd pc 3
 (znd pc 1
 (zlf pc 0 (s_iload 1 1))
 (zlf pc 1 (s_ic 6 3)))
 (znd pc 6
 (zlf pc 3 (s_cI zpS 12 2 [] zx0 6))
 (znd pc 9
 (zlf pc 6 (s_cV zpS 13 1 [] zx0 9))
 (zlf pc 9 (s_iload 2 10)))))
 (znd pc 13
 (znd pc 11
 (zlf pc 10 (s_ic 1 11))
 (zlf pc 11 (s_ic 99 13)))
 (znd pc 16
 (zlf pc 13 (s_cI zpS 14 3 [] zx0 16))
 (znd pc 19
 (zlf pc 16 (s_ifeq 34 19))
 (zlf pc 19 (s_iload 3 20))))))
 (znd pc 31
 (znd pc 24
 (znd pc 21
 (zlf pc 20 (s_ic 1 21))
 (zlf pc 21 (s_ic 5000 24)))
 (znd pc 27
 (zlf pc 24 (s_cI zpS 14 3 [] zx0 27))
 (znd pc 30
 (zlf pc 27 (s_ifeq 34 30))
 (zlf pc 30 (s_ic 1 31)))))
 (znd pc 38
 (znd pc 34
 (zlf pc 31 (s_goto 35))
 (znd pc 35
 (zlf pc 34 (s_ic 0 35))
 (zlf pc 35 (s_cV zpS 15 1 [] zx0 38))))
 (znd pc 39
 (zlf pc 38 (s_aload 0 39))
 (znd pc 42
 (zlf pc 39 (s_gR 12 4 42))
 (zlf pc 42 (s_cI (zpV 0) 16 1 [] zx0 45)))))))
 (znd pc 67
 (znd pc 55
 (znd pc 50
 (znd pc 47
 (zlf pc 45 (s_ic 12 47))
 (zlf pc 47 (s_cmpge 54 50)))
 (znd pc 51
 (zlf pc 50 (s_ic 1 51))
 (znd pc 54
 (zlf pc 51 (s_goto 55))
 (zlf pc 54 (s_ic 0 55)))))
 (znd pc 62
 (znd pc 58
 (zlf pc 55 (s_cV zpS 17 1 [] zx0 58))
 (znd pc 59
 (zlf pc 58 (s_aload 0 59))
 (zlf pc 59 (s_gR 12 4 62))))
 (znd pc 65
 (zlf pc 62 (s_new 8 5 [.int 0, .int 0, .int 0, .int 0, .int 0] 65))
 (znd pc 66
 (zlf pc 65 (s_dup 66))
 (zlf pc 66 (s_iload 1 67))))))
 (znd pc 76
 (znd pc 69
 (znd pc 68
 (zlf pc 67 (s_iload 2 68))
 (zlf pc 68 (s_iload 3 69)))
 (znd pc 72
 (zlf pc 69 (s_cV zpI 126 4 [] zx0 72))
 (znd pc 75
 (zlf pc 72 (s_cI (zpV 0) 27 2 [] zx0 75))
 (zlf pc 75 (s_pop 76)))))
 (znd pc 83
 (znd pc 77
 (zlf pc 76 (s_aload 0 77))
 (znd pc 80
 (zlf pc 77 (s_gR 12 4 80))
 (zlf pc 80 (s_cI (zpV 0) 16 1 [] zx0 83))))
 (znd pc 84
 (zlf pc 83 (s_ic 1 84))
 (znd pc 85
 (zlf pc 84 (s_isub 85))
 (zlf pc 85 (s_rI)))))))
theorem zm_X11_reel (G : Nat × Nat) (pc : Nat) : zMon (zc_X11_reel G pc) := (mo_d (mo_d (mo_d (mo_d (mo_d (mo_l (mo_iload _ _)) (mo_l (mo_ic _ _))) (mo_d (mo_l (mo_cI _ _ _ _ zPre_S zHm_0)) (mo_d (mo_l (mo_cV _ _ _ _ zPre_S zHm_0)) (mo_l (mo_iload _ _))))) (mo_d (mo_d (mo_l (mo_ic _ _)) (mo_l (mo_ic _ _))) (mo_d (mo_l (mo_cI _ _ _ _ zPre_S zHm_0)) (mo_d (mo_l (mo_ifeq _ _)) (mo_l (mo_iload _ _)))))) (mo_d (mo_d (mo_d (mo_l (mo_ic _ _)) (mo_l (mo_ic _ _))) (mo_d (mo_l (mo_cI _ _ _ _ zPre_S zHm_0)) (mo_d (mo_l (mo_ifeq _ _)) (mo_l (mo_ic _ _))))) (mo_d (mo_d (mo_l (mo_goto _)) (mo_d (mo_l (mo_ic _ _)) (mo_l (mo_cV _ _ _ _ zPre_S zHm_0)))) (mo_d (mo_l (mo_aload _ _)) (mo_d (mo_l (mo_gR _ _ _)) (mo_l (mo_cI _ _ _ _ (zPre_V _) zHm_0))))))) (mo_d (mo_d (mo_d (mo_d (mo_l (mo_ic _ _)) (mo_l (mo_cmpge _ _))) (mo_d (mo_l (mo_ic _ _)) (mo_d (mo_l (mo_goto _)) (mo_l (mo_ic _ _))))) (mo_d (mo_d (mo_l (mo_cV _ _ _ _ zPre_S zHm_0)) (mo_d (mo_l (mo_aload _ _)) (mo_l (mo_gR _ _ _)))) (mo_d (mo_l (mo_new _ _ _ _)) (mo_d (mo_l (mo_dup _)) (mo_l (mo_iload _ _)))))) (mo_d (mo_d (mo_d (mo_l (mo_iload _ _)) (mo_l (mo_iload _ _))) (mo_d (mo_l (mo_cV _ _ _ _ zPre_I zHm_0)) (mo_d (mo_l (mo_cI _ _ _ _ (zPre_V _) zHm_0)) (mo_l (mo_pop _))))) (mo_d (mo_d (mo_l (mo_aload _ _)) (mo_d (mo_l (mo_gR _ _ _)) (mo_l (mo_cI _ _ _ _ (zPre_V _) zHm_0)))) (mo_d (mo_l (mo_ic _ _)) (mo_d (mo_l (mo_isub _)) (mo_l (mo_rI))))))))
def zc_L_reel (G : Nat × Nat) : Nat → zSem := fun pc =>
 znd pc 12
 (znd pc 5
 (znd pc 3
 (znd pc 2
 (zlf pc 0 (s_aload 4 2))
 (zlf pc 2 (s_ic 0 3)))
 (znd pc 4
 (zlf pc 3 (s_aload 0 4))
 (zlf pc 4 (s_iload 1 5))))
 (znd pc 7
 (znd pc 6
 (zlf pc 5 (s_iload 2 6))
 (zlf pc 6 (s_iload 3 7)))
 (znd pc 10
 (zlf pc 7 (s_cI (zpV 12) 127 4 [] (zxc 5 [(0, 17), (1, 21), (2, 25)]) 10))
 (znd pc 11
 (zlf pc 10 (s_i2l 11))
 (zlf pc 11 (s_last 12))))))
 (znd pc 22
 (znd pc 18
 (znd pc 17
 (zlf pc 12 (s_goto 27))
 (zlf pc 17 (s_ic 1 18)))
 (znd pc 21
 (zlf pc 18 (s_rI))
 (zlf pc 21 (s_ic 2 22))))
 (znd pc 26
 (znd pc 25
 (zlf pc 22 (s_rI))
 (zlf pc 25 (s_ic 3 26)))
 (znd pc 27
 (zlf pc 26 (s_rI))
 (znd pc 28
 (zlf pc 27 (s_ic 0 28))
 (zlf pc 28 (s_rI))))))
theorem zm_L_reel (G : Nat × Nat) (pc : Nat) : zMon (zc_L_reel G pc) := (mo_d (mo_d (mo_d (mo_d (mo_l (mo_aload _ _)) (mo_l (mo_ic _ _))) (mo_d (mo_l (mo_aload _ _)) (mo_l (mo_iload _ _)))) (mo_d (mo_d (mo_l (mo_iload _ _)) (mo_l (mo_iload _ _))) (mo_d (mo_l (mo_cI _ _ _ _ (zPre_V _) (zHm_c _ _))) (mo_d (mo_l (mo_i2l _)) (mo_l (mo_last _)))))) (mo_d (mo_d (mo_d (mo_l (mo_goto _)) (mo_l (mo_ic _ _))) (mo_d (mo_l (mo_rI)) (mo_l (mo_ic _ _)))) (mo_d (mo_d (mo_l (mo_rI)) (mo_l (mo_ic _ _))) (mo_d (mo_l (mo_rI)) (mo_d (mo_l (mo_ic _ _)) (mo_l (mo_rI)))))))
def zc_X12_reel (G : Nat × Nat) : Nat → zSem := fun pc =>
 znd pc 72
 (znd pc 32
 (znd pc 18
 (znd pc 7
 (znd pc 2
 (znd pc 1
 (zlf pc 0 (s_iload 2 1))
 (zlf pc 1 (s_ic 1 2)))
 (znd pc 4
 (zlf pc 2 (s_ic 99 4))
 (zlf pc 4 (s_cI zpS 31 3 [] zx0 7))))
 (znd pc 11
 (znd pc 10
 (zlf pc 7 (s_ifeq 25 10))
 (zlf pc 10 (s_iload 3 11)))
 (znd pc 12
 (zlf pc 11 (s_ic 1 12))
 (znd pc 15
 (zlf pc 12 (s_ic 5000 15))
 (zlf pc 15 (s_cI zpS 31 3 [] zx0 18))))))
 (znd pc 26
 (znd pc 22
 (znd pc 21
 (zlf pc 18 (s_ifeq 25 21))
 (zlf pc 21 (s_ic 1 22)))
 (znd pc 25
 (zlf pc 22 (s_goto 26))
 (zlf pc 25 (s_ic 0 26))))
 (znd pc 29
 (znd pc 28
 (zlf pc 26 (s_istore 4 28))
 (zlf pc 28 (s_aload 0 29)))
 (znd pc 30
 (zlf pc 29 (s_iload 1 30))
 (znd pc 31
 (zlf pc 30 (s_ic 0 31))
 (zlf pc 31 (s_ic 5 32)))))))
 (znd pc 52
 (znd pc 42
 (znd pc 38
 (znd pc 35
 (zlf pc 32 (s_cI zpS 31 3 [] zx0 35))
 (zlf pc 35 (s_ifne 42 38)))
 (znd pc 39
 (zlf pc 38 (s_ic 1 39))
 (zlf pc 39 (s_goto 65))))
 (znd pc 47
 (znd pc 44
 (zlf pc 42 (s_iload 4 44))
 (zlf pc 44 (s_ifne 51 47)))
 (znd pc 48
 (zlf pc 47 (s_ic 2 48))
 (znd pc 51
 (zlf pc 48 (s_goto 65))
 (zlf pc 51 (s_aload 0 52))))))
 (znd pc 61
 (znd pc 57
 (znd pc 55
 (zlf pc 52 (s_gI 13 25 55))
 (zlf pc 55 (s_ic 12 57)))
 (znd pc 60
 (zlf pc 57 (s_cmpne 64 60))
 (zlf pc 60 (s_ic 3 61))))
 (znd pc 65
 (znd pc 64
 (zlf pc 61 (s_goto 65))
 (zlf pc 64 (s_ic 0 65)))
 (znd pc 68
 (zlf pc 65 (s_cI (zpV 13) 33 2 [] zx0 68))
 (znd pc 71
 (zlf pc 68 (s_ifeq 73 71))
 (zlf pc 71 (s_ic 0 72))))))))
 (znd pc 102
 (znd pc 87
 (znd pc 78
 (znd pc 74
 (znd pc 73
 (zlf pc 72 (s_rI))
 (zlf pc 73 (s_aload 0 74)))
 (znd pc 77
 (zlf pc 74 (s_gR 13 26 77))
 (zlf pc 77 (s_aload 0 78))))
 (znd pc 82
 (znd pc 81
 (zlf pc 78 (s_gI 13 25 81))
 (zlf pc 81 (s_iload 1 82)))
 (znd pc 83
 (zlf pc 82 (s_iast 83))
 (znd pc 84
 (zlf pc 83 (s_aload 0 84))
 (zlf pc 84 (s_gR 13 27 87))))))
 (znd pc 93
 (znd pc 91
 (znd pc 88
 (zlf pc 87 (s_aload 0 88))
 (zlf pc 88 (s_gI 13 25 91)))
 (znd pc 92
 (zlf pc 91 (s_iload 2 92))
 (zlf pc 92 (s_iast 93))))
 (znd pc 97
 (znd pc 94
 (zlf pc 93 (s_aload 0 94))
 (zlf pc 94 (s_gR 13 28 97)))
 (znd pc 98
 (zlf pc 97 (s_aload 0 98))
 (znd pc 101
 (zlf pc 98 (s_gI 13 25 101))
 (zlf pc 101 (s_iload 3 102)))))))
 (znd pc 115
 (znd pc 108
 (znd pc 104
 (znd pc 103
 (zlf pc 102 (s_iast 103))
 (zlf pc 103 (s_aload 0 104)))
 (znd pc 107
 (zlf pc 104 (s_gR 13 29 107))
 (zlf pc 107 (s_aload 0 108))))
 (znd pc 112
 (znd pc 111
 (zlf pc 108 (s_gI 13 25 111))
 (zlf pc 111 (s_ic (-1) 112)))
 (znd pc 113
 (zlf pc 112 (s_iast 113))
 (znd pc 114
 (zlf pc 113 (s_aload 0 114))
 (zlf pc 114 (s_dup 115))))))
 (znd pc 123
 (znd pc 119
 (znd pc 118
 (zlf pc 115 (s_gI 13 25 118))
 (zlf pc 118 (s_ic 1 119)))
 (znd pc 120
 (zlf pc 119 (s_iadd 120))
 (zlf pc 120 (s_pI 13 25 123))))
 (znd pc 127
 (znd pc 124
 (zlf pc 123 (s_aload 0 124))
 (zlf pc 124 (s_gI 13 25 127)))
 (znd pc 128
 (zlf pc 127 (s_ic 1 128))
 (znd pc 129
 (zlf pc 128 (s_isub 129))
 (zlf pc 129 (s_rI))))))))
theorem zm_X12_reel (G : Nat × Nat) (pc : Nat) : zMon (zc_X12_reel G pc) := (mo_d (mo_d (mo_d (mo_d (mo_d (mo_d (mo_l (mo_iload _ _)) (mo_l (mo_ic _ _))) (mo_d (mo_l (mo_ic _ _)) (mo_l (mo_cI _ _ _ _ zPre_S zHm_0)))) (mo_d (mo_d (mo_l (mo_ifeq _ _)) (mo_l (mo_iload _ _))) (mo_d (mo_l (mo_ic _ _)) (mo_d (mo_l (mo_ic _ _)) (mo_l (mo_cI _ _ _ _ zPre_S zHm_0)))))) (mo_d (mo_d (mo_d (mo_l (mo_ifeq _ _)) (mo_l (mo_ic _ _))) (mo_d (mo_l (mo_goto _)) (mo_l (mo_ic _ _)))) (mo_d (mo_d (mo_l (mo_istore _ _)) (mo_l (mo_aload _ _))) (mo_d (mo_l (mo_iload _ _)) (mo_d (mo_l (mo_ic _ _)) (mo_l (mo_ic _ _))))))) (mo_d (mo_d (mo_d (mo_d (mo_l (mo_cI _ _ _ _ zPre_S zHm_0)) (mo_l (mo_ifne _ _))) (mo_d (mo_l (mo_ic _ _)) (mo_l (mo_goto _)))) (mo_d (mo_d (mo_l (mo_iload _ _)) (mo_l (mo_ifne _ _))) (mo_d (mo_l (mo_ic _ _)) (mo_d (mo_l (mo_goto _)) (mo_l (mo_aload _ _)))))) (mo_d (mo_d (mo_d (mo_l (mo_gI _ _ _)) (mo_l (mo_ic _ _))) (mo_d (mo_l (mo_cmpne _ _)) (mo_l (mo_ic _ _)))) (mo_d (mo_d (mo_l (mo_goto _)) (mo_l (mo_ic _ _))) (mo_d (mo_l (mo_cI _ _ _ _ (zPre_V _) zHm_0)) (mo_d (mo_l (mo_ifeq _ _)) (mo_l (mo_ic _ _)))))))) (mo_d (mo_d (mo_d (mo_d (mo_d (mo_l (mo_rI)) (mo_l (mo_aload _ _))) (mo_d (mo_l (mo_gR _ _ _)) (mo_l (mo_aload _ _)))) (mo_d (mo_d (mo_l (mo_gI _ _ _)) (mo_l (mo_iload _ _))) (mo_d (mo_l (mo_iast _)) (mo_d (mo_l (mo_aload _ _)) (mo_l (mo_gR _ _ _)))))) (mo_d (mo_d (mo_d (mo_l (mo_aload _ _)) (mo_l (mo_gI _ _ _))) (mo_d (mo_l (mo_iload _ _)) (mo_l (mo_iast _)))) (mo_d (mo_d (mo_l (mo_aload _ _)) (mo_l (mo_gR _ _ _))) (mo_d (mo_l (mo_aload _ _)) (mo_d (mo_l (mo_gI _ _ _)) (mo_l (mo_iload _ _))))))) (mo_d (mo_d (mo_d (mo_d (mo_l (mo_iast _)) (mo_l (mo_aload _ _))) (mo_d (mo_l (mo_gR _ _ _)) (mo_l (mo_aload _ _)))) (mo_d (mo_d (mo_l (mo_gI _ _ _)) (mo_l (mo_ic _ _))) (mo_d (mo_l (mo_iast _)) (mo_d (mo_l (mo_aload _ _)) (mo_l (mo_dup _)))))) (mo_d (mo_d (mo_d (mo_l (mo_gI _ _ _)) (mo_l (mo_ic _ _))) (mo_d (mo_l (mo_iadd _)) (mo_l (mo_pI _ _ _)))) (mo_d (mo_d (mo_l (mo_aload _ _)) (mo_l (mo_gI _ _ _))) (mo_d (mo_l (mo_ic _ _)) (mo_d (mo_l (mo_isub _)) (mo_l (mo_rI)))))))))
def zc_X11_reelAt (G : Nat × Nat) : Nat → zSem := fun pc =>
 znd pc 14
 (znd pc 5
 (znd pc 1
 (zlf pc 0 (s_iload 1 1))
 (znd pc 2
 (zlf pc 1 (s_aload 0 2))
 (zlf pc 2 (s_gR 12 4 5))))
 (znd pc 8
 (zlf pc 5 (s_cI (zpV 0) 16 1 [] zx0 8))
 (znd pc 11
 (zlf pc 8 (s_cI zpS 12 2 [] zx0 11))
 (zlf pc 11 (s_ifne 22 14)))))
 (znd pc 26
 (znd pc 22
 (zlf pc 14 (s_thr 0))
 (znd pc 23
 (zlf pc 22 (s_aload 0 23))
 (zlf pc 23 (s_gR 12 4 26))))
 (znd pc 30
 (znd pc 27
 (zlf pc 26 (s_iload 1 27))
 (zlf pc 27 (s_cR (zpV 0) 44 2 [] zx0 30)))
 (znd pc 33
 (zlf pc 30 (s_cast 8 33))
 (zlf pc 33 (s_rR)))))
theorem zm_X11_reelAt (G : Nat × Nat) (pc : Nat) : zMon (zc_X11_reelAt G pc) := (mo_d (mo_d (mo_d (mo_l (mo_iload _ _)) (mo_d (mo_l (mo_aload _ _)) (mo_l (mo_gR _ _ _)))) (mo_d (mo_l (mo_cI _ _ _ _ (zPre_V _) zHm_0)) (mo_d (mo_l (mo_cI _ _ _ _ zPre_S zHm_0)) (mo_l (mo_ifne _ _))))) (mo_d (mo_d (mo_l (mo_thr _)) (mo_d (mo_l (mo_aload _ _)) (mo_l (mo_gR _ _ _)))) (mo_d (mo_d (mo_l (mo_iload _ _)) (mo_l (mo_cR _ _ _ _ (zPre_V _) zHm_0))) (mo_d (mo_l (mo_cast _ _)) (mo_l (mo_rR))))))
def zc_X7_beginClock (G : Nat × Nat) : Nat → zSem := fun pc =>
 znd pc 5
 (znd pc 1
 (zlf pc 0 (s_aload 0 1))
 (znd pc 2
 (zlf pc 1 (s_ic 1 2))
 (zlf pc 2 (s_pZ 8 3 5))))
 (znd pc 7
 (znd pc 6
 (zlf pc 5 (s_aload 0 6))
 (zlf pc 6 (s_iload 1 7)))
 (znd pc 10
 (zlf pc 7 (s_pI 8 4 10))
 (zlf pc 10 (s_rV))))
theorem zm_X7_beginClock (G : Nat × Nat) (pc : Nat) : zMon (zc_X7_beginClock G pc) := (mo_d (mo_d (mo_l (mo_aload _ _)) (mo_d (mo_l (mo_ic _ _)) (mo_l (mo_pZ _ _ _)))) (mo_d (mo_d (mo_l (mo_aload _ _)) (mo_l (mo_iload _ _))) (mo_d (mo_l (mo_pI _ _ _)) (mo_l (mo_rV)))))
def zc_X7_clockAt (G : Nat × Nat) : Nat → zSem := fun pc =>
 znd pc 12
 (znd pc 6
 (znd pc 4
 (znd pc 1
 (zlf pc 0 (s_aload 0 1))
 (zlf pc 1 (s_gI 8 1 4)))
 (znd pc 5
 (zlf pc 4 (s_iload 1 5))
 (zlf pc 5 (s_aload 0 6))))
 (znd pc 10
 (znd pc 9
 (zlf pc 6 (s_gI 8 4 9))
 (zlf pc 9 (s_isub 10)))
 (znd pc 11
 (zlf pc 10 (s_isub 11))
 (zlf pc 11 (s_istore 2 12)))))
 (znd pc 20
 (znd pc 16
 (znd pc 13
 (zlf pc 12 (s_aload 0 13))
 (zlf pc 13 (s_gI 8 3 16)))
 (znd pc 19
 (zlf pc 16 (s_ifeq 27 19))
 (zlf pc 19 (s_iload 2 20))))
 (znd pc 24
 (znd pc 23
 (zlf pc 20 (s_iflt 27 23))
 (zlf pc 23 (s_iload 2 24)))
 (znd pc 27
 (zlf pc 24 (s_goto 28))
 (znd pc 28
 (zlf pc 27 (s_ic (-1) 28))
 (zlf pc 28 (s_rI))))))
theorem zm_X7_clockAt (G : Nat × Nat) (pc : Nat) : zMon (zc_X7_clockAt G pc) := (mo_d (mo_d (mo_d (mo_d (mo_l (mo_aload _ _)) (mo_l (mo_gI _ _ _))) (mo_d (mo_l (mo_iload _ _)) (mo_l (mo_aload _ _)))) (mo_d (mo_d (mo_l (mo_gI _ _ _)) (mo_l (mo_isub _))) (mo_d (mo_l (mo_isub _)) (mo_l (mo_istore _ _))))) (mo_d (mo_d (mo_d (mo_l (mo_aload _ _)) (mo_l (mo_gI _ _ _))) (mo_d (mo_l (mo_ifeq _ _)) (mo_l (mo_iload _ _)))) (mo_d (mo_d (mo_l (mo_iflt _ _)) (mo_l (mo_iload _ _))) (mo_d (mo_l (mo_goto _)) (mo_d (mo_l (mo_ic _ _)) (mo_l (mo_rI)))))))
def zc_X11_open (G : Nat × Nat) : Nat → zSem := fun pc =>
 znd pc 21
 (znd pc 7
 (znd pc 2
 (znd pc 1
 (zlf pc 0 (s_aload 0 1))
 (zlf pc 1 (s_iload 1 2)))
 (znd pc 5
 (zlf pc 2 (s_cR (zpV 12) 130 2 [] zx0 5))
 (znd pc 6
 (zlf pc 5 (s_astore 3 6))
 (zlf pc 6 (s_iload 2 7)))))
 (znd pc 14
 (znd pc 10
 (zlf pc 7 (s_ifne 17 10))
 (znd pc 11
 (zlf pc 10 (s_aload 3 11))
 (zlf pc 11 (s_gI 8 3 14))))
 (znd pc 17
 (zlf pc 14 (s_ifne 21 17))
 (znd pc 18
 (zlf pc 17 (s_ic 1 18))
 (zlf pc 18 (s_goto 22))))))
 (znd pc 30
 (znd pc 25
 (znd pc 22
 (zlf pc 21 (s_ic 0 22))
 (zlf pc 22 (s_cV zpS 17 1 [] zx0 25)))
 (znd pc 26
 (zlf pc 25 (s_aload 3 26))
 (znd pc 27
 (zlf pc 26 (s_aload 0 27))
 (zlf pc 27 (s_gI 12 7 30)))))
 (znd pc 35
 (znd pc 33
 (zlf pc 30 (s_cV (zpV 8) 131 2 [] zx0 33))
 (znd pc 34
 (zlf pc 33 (s_aload 3 34))
 (zlf pc 34 (s_aload 0 35))))
 (znd pc 38
 (zlf pc 35 (s_gI 12 7 38))
 (znd pc 41
 (zlf pc 38 (s_cI (zpV 8) 132 2 [zU] zx0 41))
 (zlf pc 41 (s_rI))))))
theorem zm_X11_open (G : Nat × Nat) (pc : Nat) : zMon (zc_X11_open G pc) := (mo_d (mo_d (mo_d (mo_d (mo_l (mo_aload _ _)) (mo_l (mo_iload _ _))) (mo_d (mo_l (mo_cR _ _ _ _ (zPre_V _) zHm_0)) (mo_d (mo_l (mo_astore _ _)) (mo_l (mo_iload _ _))))) (mo_d (mo_d (mo_l (mo_ifne _ _)) (mo_d (mo_l (mo_aload _ _)) (mo_l (mo_gI _ _ _)))) (mo_d (mo_l (mo_ifne _ _)) (mo_d (mo_l (mo_ic _ _)) (mo_l (mo_goto _)))))) (mo_d (mo_d (mo_d (mo_l (mo_ic _ _)) (mo_l (mo_cV _ _ _ _ zPre_S zHm_0))) (mo_d (mo_l (mo_aload _ _)) (mo_d (mo_l (mo_aload _ _)) (mo_l (mo_gI _ _ _))))) (mo_d (mo_d (mo_l (mo_cV _ _ _ _ (zPre_V _) zHm_0)) (mo_d (mo_l (mo_aload _ _)) (mo_l (mo_aload _ _)))) (mo_d (mo_l (mo_gI _ _ _)) (mo_d (mo_l (mo_cI _ _ _ _ (zPre_V _) zHm_0)) (mo_l (mo_rI)))))))
def zc_L_open (G : Nat × Nat) : Nat → zSem := fun pc =>
 znd pc 9
 (znd pc 3
 (znd pc 1
 (zlf pc 0 (s_aload 3 1))
 (znd pc 2
 (zlf pc 1 (s_ic 0 2))
 (zlf pc 2 (s_aload 0 3))))
 (znd pc 5
 (znd pc 4
 (zlf pc 3 (s_iload 1 4))
 (zlf pc 4 (s_iload 2 5)))
 (znd pc 8
 (zlf pc 5 (s_cI (zpV 12) 133 3 [zU] (zxc 4 [(0, 15), (2, 19)]) 8))
 (zlf pc 8 (s_i2l 9)))))
 (znd pc 19
 (znd pc 15
 (znd pc 10
 (zlf pc 9 (s_last 10))
 (zlf pc 10 (s_goto 21)))
 (znd pc 16
 (zlf pc 15 (s_ic 1 16))
 (zlf pc 16 (s_rI))))
 (znd pc 21
 (znd pc 20
 (zlf pc 19 (s_ic 2 20))
 (zlf pc 20 (s_rI)))
 (znd pc 22
 (zlf pc 21 (s_ic 0 22))
 (zlf pc 22 (s_rI)))))
theorem zm_L_open (G : Nat × Nat) (pc : Nat) : zMon (zc_L_open G pc) := (mo_d (mo_d (mo_d (mo_l (mo_aload _ _)) (mo_d (mo_l (mo_ic _ _)) (mo_l (mo_aload _ _)))) (mo_d (mo_d (mo_l (mo_iload _ _)) (mo_l (mo_iload _ _))) (mo_d (mo_l (mo_cI _ _ _ _ (zPre_V _) (zHm_c _ _))) (mo_l (mo_i2l _))))) (mo_d (mo_d (mo_d (mo_l (mo_last _)) (mo_l (mo_goto _))) (mo_d (mo_l (mo_ic _ _)) (mo_l (mo_rI)))) (mo_d (mo_d (mo_l (mo_ic _ _)) (mo_l (mo_rI))) (mo_d (mo_l (mo_ic _ _)) (mo_l (mo_rI))))))
def zc_X12_isReel (G : Nat × Nat) : Nat → zSem := fun pc =>
 znd pc 6
 (znd pc 2
 (znd pc 1
 (zlf pc 0 (s_iload 1 1))
 (zlf pc 1 (s_ic 0 2)))
 (znd pc 3
 (zlf pc 2 (s_aload 0 3))
 (zlf pc 3 (s_gI 13 25 6))))
 (znd pc 8
 (znd pc 7
 (zlf pc 6 (s_ic 1 7))
 (zlf pc 7 (s_isub 8)))
 (znd pc 11
 (zlf pc 8 (s_cI zpS 31 3 [] zx0 11))
 (zlf pc 11 (s_rZ))))
theorem zm_X12_isReel (G : Nat × Nat) (pc : Nat) : zMon (zc_X12_isReel G pc) := (mo_d (mo_d (mo_d (mo_l (mo_iload _ _)) (mo_l (mo_ic _ _))) (mo_d (mo_l (mo_aload _ _)) (mo_l (mo_gI _ _ _)))) (mo_d (mo_d (mo_l (mo_ic _ _)) (mo_l (mo_isub _))) (mo_d (mo_l (mo_cI _ _ _ _ zPre_S zHm_0)) (mo_l (mo_rZ)))))
def zc_X12_runs (G : Nat × Nat) : Nat → zSem := fun pc =>
 znd pc 21
 (znd pc 10
 (znd pc 5
 (znd pc 1
 (zlf pc 0 (s_aload 0 1))
 (znd pc 4
 (zlf pc 1 (s_gR 13 29 4))
 (zlf pc 4 (s_iload 1 5))))
 (znd pc 6
 (zlf pc 5 (s_iald 6))
 (znd pc 7
 (zlf pc 6 (s_ic (-1) 7))
 (zlf pc 7 (s_cmpne 14 10)))))
 (znd pc 15
 (znd pc 11
 (zlf pc 10 (s_ic (-1) 11))
 (znd pc 14
 (zlf pc 11 (s_goto 32))
 (zlf pc 14 (s_aload 0 15))))
 (znd pc 19
 (znd pc 18
 (zlf pc 15 (s_gR 13 29 18))
 (zlf pc 18 (s_iload 1 19)))
 (znd pc 20
 (zlf pc 19 (s_iald 20))
 (zlf pc 20 (s_aload 0 21))))))
 (znd pc 32
 (znd pc 26
 (znd pc 24
 (zlf pc 21 (s_gR 13 28 24))
 (znd pc 25
 (zlf pc 24 (s_iload 1 25))
 (zlf pc 25 (s_iald 26))))
 (znd pc 28
 (znd pc 27
 (zlf pc 26 (s_iadd 27))
 (zlf pc 27 (s_aload 0 28)))
 (znd pc 31
 (zlf pc 28 (s_gI 13 24 31))
 (zlf pc 31 (s_isub 32)))))
 (znd pc 37
 (znd pc 33
 (zlf pc 32 (s_istore 2 33))
 (znd pc 34
 (zlf pc 33 (s_iload 2 34))
 (zlf pc 34 (s_ifge 41 37))))
 (znd pc 41
 (znd pc 38
 (zlf pc 37 (s_ic (-1) 38))
 (zlf pc 38 (s_goto 42)))
 (znd pc 42
 (zlf pc 41 (s_iload 2 42))
 (zlf pc 42 (s_rI))))))
theorem zm_X12_runs (G : Nat × Nat) (pc : Nat) : zMon (zc_X12_runs G pc) := (mo_d (mo_d (mo_d (mo_d (mo_l (mo_aload _ _)) (mo_d (mo_l (mo_gR _ _ _)) (mo_l (mo_iload _ _)))) (mo_d (mo_l (mo_iald _)) (mo_d (mo_l (mo_ic _ _)) (mo_l (mo_cmpne _ _))))) (mo_d (mo_d (mo_l (mo_ic _ _)) (mo_d (mo_l (mo_goto _)) (mo_l (mo_aload _ _)))) (mo_d (mo_d (mo_l (mo_gR _ _ _)) (mo_l (mo_iload _ _))) (mo_d (mo_l (mo_iald _)) (mo_l (mo_aload _ _)))))) (mo_d (mo_d (mo_d (mo_l (mo_gR _ _ _)) (mo_d (mo_l (mo_iload _ _)) (mo_l (mo_iald _)))) (mo_d (mo_d (mo_l (mo_iadd _)) (mo_l (mo_aload _ _))) (mo_d (mo_l (mo_gI _ _ _)) (mo_l (mo_isub _))))) (mo_d (mo_d (mo_l (mo_istore _ _)) (mo_d (mo_l (mo_iload _ _)) (mo_l (mo_ifge _ _)))) (mo_d (mo_d (mo_l (mo_ic _ _)) (mo_l (mo_goto _))) (mo_d (mo_l (mo_iload _ _)) (mo_l (mo_rI)))))))
def zc_X12_open (G : Nat × Nat) : Nat → zSem := fun pc =>
 znd pc 28
 (znd pc 14
 (znd pc 6
 (znd pc 2
 (znd pc 1
 (zlf pc 0 (s_aload 0 1))
 (zlf pc 1 (s_aload 0 2)))
 (znd pc 3
 (zlf pc 2 (s_iload 1 3))
 (zlf pc 3 (s_cI (zpV 13) 135 2 [] zx0 6))))
 (znd pc 10
 (znd pc 9
 (zlf pc 6 (s_ifne 13 9))
 (zlf pc 9 (s_ic 1 10)))
 (znd pc 13
 (zlf pc 10 (s_goto 32))
 (zlf pc 13 (s_aload 0 14)))))
 (znd pc 20
 (znd pc 18
 (znd pc 17
 (zlf pc 14 (s_gR 13 29 17))
 (zlf pc 17 (s_iload 1 18)))
 (znd pc 19
 (zlf pc 18 (s_iald 19))
 (zlf pc 19 (s_ic (-1) 20))))
 (znd pc 24
 (znd pc 23
 (zlf pc 20 (s_cmpeq 31 23))
 (zlf pc 23 (s_iload 2 24)))
 (znd pc 27
 (zlf pc 24 (s_ifne 31 27))
 (zlf pc 27 (s_ic 2 28))))))
 (znd pc 44
 (znd pc 38
 (znd pc 32
 (znd pc 31
 (zlf pc 28 (s_goto 32))
 (zlf pc 31 (s_ic 0 32)))
 (znd pc 35
 (zlf pc 32 (s_cI (zpV 13) 33 2 [] zx0 35))
 (zlf pc 35 (s_ifeq 40 38))))
 (znd pc 40
 (znd pc 39
 (zlf pc 38 (s_ic 0 39))
 (zlf pc 39 (s_rI)))
 (znd pc 41
 (zlf pc 40 (s_aload 0 41))
 (zlf pc 41 (s_gR 13 29 44)))))
 (znd pc 50
 (znd pc 46
 (znd pc 45
 (zlf pc 44 (s_iload 1 45))
 (zlf pc 45 (s_aload 0 46)))
 (znd pc 49
 (zlf pc 46 (s_gI 13 24 49))
 (zlf pc 49 (s_iast 50))))
 (znd pc 52
 (znd pc 51
 (zlf pc 50 (s_aload 0 51))
 (zlf pc 51 (s_iload 1 52)))
 (znd pc 55
 (zlf pc 52 (s_cI (zpV 13) 136 2 [zU] zx0 55))
 (zlf pc 55 (s_rI))))))
theorem zm_X12_open (G : Nat × Nat) (pc : Nat) : zMon (zc_X12_open G pc) := (mo_d (mo_d (mo_d (mo_d (mo_d (mo_l (mo_aload _ _)) (mo_l (mo_aload _ _))) (mo_d (mo_l (mo_iload _ _)) (mo_l (mo_cI _ _ _ _ (zPre_V _) zHm_0)))) (mo_d (mo_d (mo_l (mo_ifne _ _)) (mo_l (mo_ic _ _))) (mo_d (mo_l (mo_goto _)) (mo_l (mo_aload _ _))))) (mo_d (mo_d (mo_d (mo_l (mo_gR _ _ _)) (mo_l (mo_iload _ _))) (mo_d (mo_l (mo_iald _)) (mo_l (mo_ic _ _)))) (mo_d (mo_d (mo_l (mo_cmpeq _ _)) (mo_l (mo_iload _ _))) (mo_d (mo_l (mo_ifne _ _)) (mo_l (mo_ic _ _)))))) (mo_d (mo_d (mo_d (mo_d (mo_l (mo_goto _)) (mo_l (mo_ic _ _))) (mo_d (mo_l (mo_cI _ _ _ _ (zPre_V _) zHm_0)) (mo_l (mo_ifeq _ _)))) (mo_d (mo_d (mo_l (mo_ic _ _)) (mo_l (mo_rI))) (mo_d (mo_l (mo_aload _ _)) (mo_l (mo_gR _ _ _))))) (mo_d (mo_d (mo_d (mo_l (mo_iload _ _)) (mo_l (mo_aload _ _))) (mo_d (mo_l (mo_gI _ _ _)) (mo_l (mo_iast _)))) (mo_d (mo_d (mo_l (mo_aload _ _)) (mo_l (mo_iload _ _))) (mo_d (mo_l (mo_cI _ _ _ _ (zPre_V _) zHm_0)) (mo_l (mo_rI)))))))
def zc_X11_ofReel (G : Nat × Nat) : Nat → zSem := fun pc =>
 znd pc 20
 (znd pc 8
 (znd pc 5
 (znd pc 1
 (zlf pc 0 (s_aload 0 1))
 (znd pc 2
 (zlf pc 1 (s_iload 1 2))
 (zlf pc 2 (s_cR (zpV 12) 130 2 [] zx0 5))))
 (znd pc 6
 (zlf pc 5 (s_astore 3 6))
 (znd pc 7
 (zlf pc 6 (s_iload 2 7))
 (zlf pc 7 (s_ic 0 8)))))
 (znd pc 15
 (znd pc 9
 (zlf pc 8 (s_ic 2 9))
 (znd pc 12
 (zlf pc 9 (s_cI zpS 14 3 [] zx0 12))
 (zlf pc 12 (s_cV zpS 13 1 [] zx0 15))))
 (znd pc 16
 (zlf pc 15 (s_iload 2 16))
 (znd pc 19
 (zlf pc 16 (s_ifne 24 19))
 (zlf pc 19 (s_aload 3 20))))))
 (znd pc 30
 (znd pc 25
 (znd pc 23
 (zlf pc 20 (s_gI 8 0 23))
 (znd pc 24
 (zlf pc 23 (s_rI))
 (zlf pc 24 (s_iload 2 25))))
 (znd pc 26
 (zlf pc 25 (s_ic 1 26))
 (znd pc 29
 (zlf pc 26 (s_cmpne 36 29))
 (zlf pc 29 (s_aload 3 30)))))
 (znd pc 37
 (znd pc 33
 (zlf pc 30 (s_gI 8 2 33))
 (znd pc 36
 (zlf pc 33 (s_goto 44))
 (zlf pc 36 (s_aload 3 37))))
 (znd pc 41
 (znd pc 38
 (zlf pc 37 (s_aload 0 38))
 (zlf pc 38 (s_gI 12 7 41)))
 (znd pc 44
 (zlf pc 41 (s_cI (zpV 8) 132 2 [zU] zx0 44))
 (zlf pc 44 (s_rI))))))
theorem zm_X11_ofReel (G : Nat × Nat) (pc : Nat) : zMon (zc_X11_ofReel G pc) := (mo_d (mo_d (mo_d (mo_d (mo_l (mo_aload _ _)) (mo_d (mo_l (mo_iload _ _)) (mo_l (mo_cR _ _ _ _ (zPre_V _) zHm_0)))) (mo_d (mo_l (mo_astore _ _)) (mo_d (mo_l (mo_iload _ _)) (mo_l (mo_ic _ _))))) (mo_d (mo_d (mo_l (mo_ic _ _)) (mo_d (mo_l (mo_cI _ _ _ _ zPre_S zHm_0)) (mo_l (mo_cV _ _ _ _ zPre_S zHm_0)))) (mo_d (mo_l (mo_iload _ _)) (mo_d (mo_l (mo_ifne _ _)) (mo_l (mo_aload _ _)))))) (mo_d (mo_d (mo_d (mo_l (mo_gI _ _ _)) (mo_d (mo_l (mo_rI)) (mo_l (mo_iload _ _)))) (mo_d (mo_l (mo_ic _ _)) (mo_d (mo_l (mo_cmpne _ _)) (mo_l (mo_aload _ _))))) (mo_d (mo_d (mo_l (mo_gI _ _ _)) (mo_d (mo_l (mo_goto _)) (mo_l (mo_aload _ _)))) (mo_d (mo_d (mo_l (mo_aload _ _)) (mo_l (mo_gI _ _ _))) (mo_d (mo_l (mo_cI _ _ _ _ (zPre_V _) zHm_0)) (mo_l (mo_rI)))))))
def zc_L_ofReel (G : Nat × Nat) : Nat → zSem := fun pc =>
 znd pc 8
 (znd pc 3
 (znd pc 1
 (zlf pc 0 (s_aload 3 1))
 (znd pc 2
 (zlf pc 1 (s_ic 0 2))
 (zlf pc 2 (s_aload 0 3))))
 (znd pc 4
 (zlf pc 3 (s_iload 1 4))
 (znd pc 5
 (zlf pc 4 (s_iload 2 5))
 (zlf pc 5 (s_cI (zpV 12) 138 3 [zU] (zxc 4 [(0, 15)]) 8)))))
 (znd pc 15
 (znd pc 9
 (zlf pc 8 (s_i2l 9))
 (znd pc 10
 (zlf pc 9 (s_last 10))
 (zlf pc 10 (s_goto 17))))
 (znd pc 17
 (znd pc 16
 (zlf pc 15 (s_ic 1 16))
 (zlf pc 16 (s_rI)))
 (znd pc 18
 (zlf pc 17 (s_ic 0 18))
 (zlf pc 18 (s_rI)))))
theorem zm_L_ofReel (G : Nat × Nat) (pc : Nat) : zMon (zc_L_ofReel G pc) := (mo_d (mo_d (mo_d (mo_l (mo_aload _ _)) (mo_d (mo_l (mo_ic _ _)) (mo_l (mo_aload _ _)))) (mo_d (mo_l (mo_iload _ _)) (mo_d (mo_l (mo_iload _ _)) (mo_l (mo_cI _ _ _ _ (zPre_V _) (zHm_c _ _)))))) (mo_d (mo_d (mo_l (mo_i2l _)) (mo_d (mo_l (mo_last _)) (mo_l (mo_goto _)))) (mo_d (mo_d (mo_l (mo_ic _ _)) (mo_l (mo_rI))) (mo_d (mo_l (mo_ic _ _)) (mo_l (mo_rI))))))
def zc_X12_ofReel (G : Nat × Nat) : Nat → zSem := fun pc =>
 znd pc 32
 (znd pc 15
 (znd pc 6
 (znd pc 2
 (znd pc 1
 (zlf pc 0 (s_aload 0 1))
 (zlf pc 1 (s_aload 0 2)))
 (znd pc 3
 (zlf pc 2 (s_iload 1 3))
 (zlf pc 3 (s_cI (zpV 13) 135 2 [] zx0 6))))
 (znd pc 10
 (znd pc 9
 (zlf pc 6 (s_ifeq 22 9))
 (zlf pc 9 (s_iload 2 10)))
 (znd pc 11
 (zlf pc 10 (s_ic 0 11))
 (znd pc 12
 (zlf pc 11 (s_ic 2 12))
 (zlf pc 12 (s_cI zpS 31 3 [] zx0 15))))))
 (znd pc 23
 (znd pc 19
 (znd pc 18
 (zlf pc 15 (s_ifeq 22 18))
 (zlf pc 18 (s_ic 0 19)))
 (znd pc 22
 (zlf pc 19 (s_goto 23))
 (zlf pc 22 (s_ic 1 23))))
 (znd pc 29
 (znd pc 26
 (zlf pc 23 (s_cI (zpV 13) 33 2 [] zx0 26))
 (zlf pc 26 (s_ifeq 31 29)))
 (znd pc 30
 (zlf pc 29 (s_ic 0 30))
 (znd pc 31
 (zlf pc 30 (s_rI))
 (zlf pc 31 (s_iload 2 32)))))))
 (znd pc 49
 (znd pc 40
 (znd pc 36
 (znd pc 35
 (zlf pc 32 (s_ifne 44 35))
 (zlf pc 35 (s_aload 0 36)))
 (znd pc 39
 (zlf pc 36 (s_gR 13 26 39))
 (zlf pc 39 (s_iload 1 40))))
 (znd pc 44
 (znd pc 41
 (zlf pc 40 (s_iald 41))
 (zlf pc 41 (s_goto 63)))
 (znd pc 45
 (zlf pc 44 (s_iload 2 45))
 (znd pc 46
 (zlf pc 45 (s_ic 1 46))
 (zlf pc 46 (s_cmpne 58 49))))))
 (znd pc 55
 (znd pc 53
 (znd pc 50
 (zlf pc 49 (s_aload 0 50))
 (zlf pc 50 (s_gR 13 27 53)))
 (znd pc 54
 (zlf pc 53 (s_iload 1 54))
 (zlf pc 54 (s_iald 55))))
 (znd pc 59
 (znd pc 58
 (zlf pc 55 (s_goto 63))
 (zlf pc 58 (s_aload 0 59)))
 (znd pc 60
 (zlf pc 59 (s_iload 1 60))
 (znd pc 63
 (zlf pc 60 (s_cI (zpV 13) 136 2 [zU] zx0 63))
 (zlf pc 63 (s_rI)))))))
theorem zm_X12_ofReel (G : Nat × Nat) (pc : Nat) : zMon (zc_X12_ofReel G pc) := (mo_d (mo_d (mo_d (mo_d (mo_d (mo_l (mo_aload _ _)) (mo_l (mo_aload _ _))) (mo_d (mo_l (mo_iload _ _)) (mo_l (mo_cI _ _ _ _ (zPre_V _) zHm_0)))) (mo_d (mo_d (mo_l (mo_ifeq _ _)) (mo_l (mo_iload _ _))) (mo_d (mo_l (mo_ic _ _)) (mo_d (mo_l (mo_ic _ _)) (mo_l (mo_cI _ _ _ _ zPre_S zHm_0)))))) (mo_d (mo_d (mo_d (mo_l (mo_ifeq _ _)) (mo_l (mo_ic _ _))) (mo_d (mo_l (mo_goto _)) (mo_l (mo_ic _ _)))) (mo_d (mo_d (mo_l (mo_cI _ _ _ _ (zPre_V _) zHm_0)) (mo_l (mo_ifeq _ _))) (mo_d (mo_l (mo_ic _ _)) (mo_d (mo_l (mo_rI)) (mo_l (mo_iload _ _))))))) (mo_d (mo_d (mo_d (mo_d (mo_l (mo_ifne _ _)) (mo_l (mo_aload _ _))) (mo_d (mo_l (mo_gR _ _ _)) (mo_l (mo_iload _ _)))) (mo_d (mo_d (mo_l (mo_iald _)) (mo_l (mo_goto _))) (mo_d (mo_l (mo_iload _ _)) (mo_d (mo_l (mo_ic _ _)) (mo_l (mo_cmpne _ _)))))) (mo_d (mo_d (mo_d (mo_l (mo_aload _ _)) (mo_l (mo_gR _ _ _))) (mo_d (mo_l (mo_iload _ _)) (mo_l (mo_iald _)))) (mo_d (mo_d (mo_l (mo_goto _)) (mo_l (mo_aload _ _))) (mo_d (mo_l (mo_iload _ _)) (mo_d (mo_l (mo_cI _ _ _ _ (zPre_V _) zHm_0)) (mo_l (mo_rI))))))))
def zc_X9_init (G : Nat × Nat) : Nat → zSem := fun pc =>
 znd pc 11
 (znd pc 5
 (znd pc 1
 (zlf pc 0 (s_aload 0 1))
 (znd pc 4
 (zlf pc 1 (s_obj 4))
 (zlf pc 4 (s_aload 0 5))))
 (znd pc 9
 (znd pc 6
 (zlf pc 5 (s_ic (-1) 6))
 (zlf pc 6 (s_pI 10 0 9)))
 (znd pc 10
 (zlf pc 9 (s_aload 0 10))
 (zlf pc 10 (s_ic (-1) 11)))))
 (znd pc 19
 (znd pc 15
 (znd pc 14
 (zlf pc 11 (s_pI 10 1 14))
 (zlf pc 14 (s_aload 0 15)))
 (znd pc 16
 (zlf pc 15 (s_ic (-1) 16))
 (zlf pc 16 (s_pI 10 2 19))))
 (znd pc 21
 (znd pc 20
 (zlf pc 19 (s_aload 0 20))
 (zlf pc 20 (s_ic 0 21)))
 (znd pc 24
 (zlf pc 21 (s_pI 10 3 24))
 (zlf pc 24 (s_rV)))))
theorem zm_X9_init (G : Nat × Nat) (pc : Nat) : zMon (zc_X9_init G pc) := (mo_d (mo_d (mo_d (mo_l (mo_aload _ _)) (mo_d (mo_l (mo_obj _)) (mo_l (mo_aload _ _)))) (mo_d (mo_d (mo_l (mo_ic _ _)) (mo_l (mo_pI _ _ _))) (mo_d (mo_l (mo_aload _ _)) (mo_l (mo_ic _ _))))) (mo_d (mo_d (mo_d (mo_l (mo_pI _ _ _)) (mo_l (mo_aload _ _))) (mo_d (mo_l (mo_ic _ _)) (mo_l (mo_pI _ _ _)))) (mo_d (mo_d (mo_l (mo_aload _ _)) (mo_l (mo_ic _ _))) (mo_d (mo_l (mo_pI _ _ _)) (mo_l (mo_rV))))))
def zc_X0_init (G : Nat × Nat) : Nat → zSem := fun pc =>
 znd pc 28
 (znd pc 15
 (znd pc 5
 (znd pc 1
 (zlf pc 0 (s_aload 0 1))
 (znd pc 4
 (zlf pc 1 (s_obj 4))
 (zlf pc 4 (s_aload 0 5))))
 (znd pc 9
 (znd pc 8
 (zlf pc 5 (s_new 0 3 [.int 0, .null, .int 0] 8))
 (zlf pc 8 (s_dup 9)))
 (znd pc 12
 (zlf pc 9 (s_cV zpI 2 1 [] zx0 12))
 (zlf pc 12 (s_pR 1 3 15)))))
 (znd pc 20
 (znd pc 16
 (zlf pc 15 (s_aload 0 16))
 (znd pc 19
 (zlf pc 16 (s_new 9 1 [.null] 19))
 (zlf pc 19 (s_dup 20))))
 (znd pc 24
 (znd pc 21
 (zlf pc 20 (s_ic 4 21))
 (zlf pc 21 (s_cV zpI 3 2 [] zx0 24)))
 (znd pc 27
 (zlf pc 24 (s_pR 1 4 27))
 (zlf pc 27 (s_ic 0 28))))))
 (znd pc 42
 (znd pc 32
 (znd pc 29
 (zlf pc 28 (s_istore 1 29))
 (znd pc 30
 (zlf pc 29 (s_iload 1 30))
 (zlf pc 30 (s_ic 8 32))))
 (znd pc 36
 (znd pc 35
 (zlf pc 32 (s_cmpge 56 35))
 (zlf pc 35 (s_aload 0 36)))
 (znd pc 39
 (zlf pc 36 (s_gR 1 3 39))
 (zlf pc 39 (s_new 10 8 [.int 0, .int 0, .int 0, .int 0, .int 0, .int 0, .int 0, .int 0] 42)))))
 (znd pc 49
 (znd pc 43
 (zlf pc 42 (s_dup 43))
 (znd pc 46
 (zlf pc 43 (s_cV zpI 141 1 [] zx0 46))
 (zlf pc 46 (s_cI (zpV 0) 27 2 [] zx0 49))))
 (znd pc 53
 (znd pc 50
 (zlf pc 49 (s_pop 50))
 (zlf pc 50 (s_iinc 1 1 53)))
 (znd pc 56
 (zlf pc 53 (s_goto 29))
 (zlf pc 56 (s_rV))))))
theorem zm_X0_init (G : Nat × Nat) (pc : Nat) : zMon (zc_X0_init G pc) := (mo_d (mo_d (mo_d (mo_d (mo_l (mo_aload _ _)) (mo_d (mo_l (mo_obj _)) (mo_l (mo_aload _ _)))) (mo_d (mo_d (mo_l (mo_new _ _ _ _)) (mo_l (mo_dup _))) (mo_d (mo_l (mo_cV _ _ _ _ zPre_I zHm_0)) (mo_l (mo_pR _ _ _))))) (mo_d (mo_d (mo_l (mo_aload _ _)) (mo_d (mo_l (mo_new _ _ _ _)) (mo_l (mo_dup _)))) (mo_d (mo_d (mo_l (mo_ic _ _)) (mo_l (mo_cV _ _ _ _ zPre_I zHm_0))) (mo_d (mo_l (mo_pR _ _ _)) (mo_l (mo_ic _ _)))))) (mo_d (mo_d (mo_d (mo_l (mo_istore _ _)) (mo_d (mo_l (mo_iload _ _)) (mo_l (mo_ic _ _)))) (mo_d (mo_d (mo_l (mo_cmpge _ _)) (mo_l (mo_aload _ _))) (mo_d (mo_l (mo_gR _ _ _)) (mo_l (mo_new _ _ _ _))))) (mo_d (mo_d (mo_l (mo_dup _)) (mo_d (mo_l (mo_cV _ _ _ _ zPre_I zHm_0)) (mo_l (mo_cI _ _ _ _ (zPre_V _) zHm_0)))) (mo_d (mo_d (mo_l (mo_pop _)) (mo_l (mo_iinc _ _ _))) (mo_d (mo_l (mo_goto _)) (mo_l (mo_rV)))))))
def zc_X11_board (G : Nat × Nat) : Nat → zSem := fun pc =>
 znd pc 24
 (znd pc 12
 (znd pc 4
 (znd pc 1
 (zlf pc 0 (s_aload 0 1))
 (zlf pc 1 (s_gR 12 5 4)))
 (znd pc 7
 (zlf pc 4 (s_cI (zpV 0) 16 1 [] zx0 7))
 (znd pc 9
 (zlf pc 7 (s_ic 12 9))
 (zlf pc 9 (s_cmpge 16 12)))))
 (znd pc 17
 (znd pc 13
 (zlf pc 12 (s_ic 1 13))
 (znd pc 16
 (zlf pc 13 (s_goto 17))
 (zlf pc 16 (s_ic 0 17))))
 (znd pc 20
 (zlf pc 17 (s_cV zpS 17 1 [] zx0 20))
 (znd pc 21
 (zlf pc 20 (s_aload 0 21))
 (zlf pc 21 (s_gR 12 5 24))))))
 (znd pc 35
 (znd pc 28
 (znd pc 27
 (zlf pc 24 (s_new 1 5 [.int 0, .int 0, .int 0, .null, .null] 27))
 (zlf pc 27 (s_dup 28)))
 (znd pc 31
 (zlf pc 28 (s_cV zpI 142 1 [zU] zx0 31))
 (znd pc 34
 (zlf pc 31 (s_cI (zpV 0) 27 2 [] zx0 34))
 (zlf pc 34 (s_pop 35)))))
 (znd pc 42
 (znd pc 36
 (zlf pc 35 (s_aload 0 36))
 (znd pc 39
 (zlf pc 36 (s_gR 12 5 39))
 (zlf pc 39 (s_cI (zpV 0) 16 1 [] zx0 42))))
 (znd pc 43
 (zlf pc 42 (s_ic 1 43))
 (znd pc 44
 (zlf pc 43 (s_isub 44))
 (zlf pc 44 (s_rI))))))
theorem zm_X11_board (G : Nat × Nat) (pc : Nat) : zMon (zc_X11_board G pc) := (mo_d (mo_d (mo_d (mo_d (mo_l (mo_aload _ _)) (mo_l (mo_gR _ _ _))) (mo_d (mo_l (mo_cI _ _ _ _ (zPre_V _) zHm_0)) (mo_d (mo_l (mo_ic _ _)) (mo_l (mo_cmpge _ _))))) (mo_d (mo_d (mo_l (mo_ic _ _)) (mo_d (mo_l (mo_goto _)) (mo_l (mo_ic _ _)))) (mo_d (mo_l (mo_cV _ _ _ _ zPre_S zHm_0)) (mo_d (mo_l (mo_aload _ _)) (mo_l (mo_gR _ _ _)))))) (mo_d (mo_d (mo_d (mo_l (mo_new _ _ _ _)) (mo_l (mo_dup _))) (mo_d (mo_l (mo_cV _ _ _ _ zPre_I zHm_0)) (mo_d (mo_l (mo_cI _ _ _ _ (zPre_V _) zHm_0)) (mo_l (mo_pop _))))) (mo_d (mo_d (mo_l (mo_aload _ _)) (mo_d (mo_l (mo_gR _ _ _)) (mo_l (mo_cI _ _ _ _ (zPre_V _) zHm_0)))) (mo_d (mo_l (mo_ic _ _)) (mo_d (mo_l (mo_isub _)) (mo_l (mo_rI)))))))
def zc_L_board (G : Nat × Nat) : Nat → zSem := fun pc =>
 znd pc 7
 (znd pc 2
 (znd pc 1
 (zlf pc 0 (s_aload 1 1))
 (zlf pc 1 (s_ic 0 2)))
 (znd pc 3
 (zlf pc 2 (s_aload 0 3))
 (znd pc 6
 (zlf pc 3 (s_cI (zpV 12) 143 1 [] (zxc 2 [(2, 12)]) 6))
 (zlf pc 6 (s_i2l 7)))))
 (znd pc 13
 (znd pc 8
 (zlf pc 7 (s_last 8))
 (znd pc 12
 (zlf pc 8 (s_goto 14))
 (zlf pc 12 (s_ic 1 13))))
 (znd pc 14
 (zlf pc 13 (s_rI))
 (znd pc 15
 (zlf pc 14 (s_ic 0 15))
 (zlf pc 15 (s_rI)))))
theorem zm_L_board (G : Nat × Nat) (pc : Nat) : zMon (zc_L_board G pc) := (mo_d (mo_d (mo_d (mo_l (mo_aload _ _)) (mo_l (mo_ic _ _))) (mo_d (mo_l (mo_aload _ _)) (mo_d (mo_l (mo_cI _ _ _ _ (zPre_V _) (zHm_c _ _))) (mo_l (mo_i2l _))))) (mo_d (mo_d (mo_l (mo_last _)) (mo_d (mo_l (mo_goto _)) (mo_l (mo_ic _ _)))) (mo_d (mo_l (mo_rI)) (mo_d (mo_l (mo_ic _ _)) (mo_l (mo_rI))))))
def zc_X12_board (G : Nat × Nat) : Nat → zSem := fun pc =>
 znd pc 22
 (znd pc 10
 (znd pc 2
 (znd pc 1
 (zlf pc 0 (s_aload 0 1))
 (zlf pc 1 (s_aload 0 2)))
 (znd pc 5
 (zlf pc 2 (s_gI 13 34 5))
 (znd pc 7
 (zlf pc 5 (s_ic 12 7))
 (zlf pc 7 (s_cmpne 14 10)))))
 (znd pc 15
 (znd pc 11
 (zlf pc 10 (s_ic 1 11))
 (znd pc 14
 (zlf pc 11 (s_goto 15))
 (zlf pc 14 (s_ic 0 15))))
 (znd pc 18
 (zlf pc 15 (s_cI (zpV 13) 33 2 [] zx0 18))
 (znd pc 21
 (zlf pc 18 (s_ifeq 23 21))
 (zlf pc 21 (s_ic 0 22))))))
 (znd pc 30
 (znd pc 25
 (znd pc 23
 (zlf pc 22 (s_rI))
 (znd pc 24
 (zlf pc 23 (s_aload 0 24))
 (zlf pc 24 (s_dup 25))))
 (znd pc 28
 (zlf pc 25 (s_gI 13 34 28))
 (znd pc 29
 (zlf pc 28 (s_ic 1 29))
 (zlf pc 29 (s_iadd 30)))))
 (znd pc 37
 (znd pc 33
 (zlf pc 30 (s_pI 13 34 33))
 (znd pc 34
 (zlf pc 33 (s_aload 0 34))
 (zlf pc 34 (s_gI 13 34 37))))
 (znd pc 38
 (zlf pc 37 (s_ic 1 38))
 (znd pc 39
 (zlf pc 38 (s_isub 39))
 (zlf pc 39 (s_rI))))))
theorem zm_X12_board (G : Nat × Nat) (pc : Nat) : zMon (zc_X12_board G pc) := (mo_d (mo_d (mo_d (mo_d (mo_l (mo_aload _ _)) (mo_l (mo_aload _ _))) (mo_d (mo_l (mo_gI _ _ _)) (mo_d (mo_l (mo_ic _ _)) (mo_l (mo_cmpne _ _))))) (mo_d (mo_d (mo_l (mo_ic _ _)) (mo_d (mo_l (mo_goto _)) (mo_l (mo_ic _ _)))) (mo_d (mo_l (mo_cI _ _ _ _ (zPre_V _) zHm_0)) (mo_d (mo_l (mo_ifeq _ _)) (mo_l (mo_ic _ _)))))) (mo_d (mo_d (mo_d (mo_l (mo_rI)) (mo_d (mo_l (mo_aload _ _)) (mo_l (mo_dup _)))) (mo_d (mo_l (mo_gI _ _ _)) (mo_d (mo_l (mo_ic _ _)) (mo_l (mo_iadd _))))) (mo_d (mo_d (mo_l (mo_pI _ _ _)) (mo_d (mo_l (mo_aload _ _)) (mo_l (mo_gI _ _ _)))) (mo_d (mo_l (mo_ic _ _)) (mo_d (mo_l (mo_isub _)) (mo_l (mo_rI)))))))
def zc_X11_boardAt (G : Nat × Nat) : Nat → zSem := fun pc =>
 znd pc 14
 (znd pc 5
 (znd pc 1
 (zlf pc 0 (s_iload 1 1))
 (znd pc 2
 (zlf pc 1 (s_aload 0 2))
 (zlf pc 2 (s_gR 12 5 5))))
 (znd pc 8
 (zlf pc 5 (s_cI (zpV 0) 16 1 [] zx0 8))
 (znd pc 11
 (zlf pc 8 (s_cI zpS 12 2 [] zx0 11))
 (zlf pc 11 (s_ifne 22 14)))))
 (znd pc 26
 (znd pc 22
 (zlf pc 14 (s_thr 0))
 (znd pc 23
 (zlf pc 22 (s_aload 0 23))
 (zlf pc 23 (s_gR 12 5 26))))
 (znd pc 30
 (znd pc 27
 (zlf pc 26 (s_iload 1 27))
 (zlf pc 27 (s_cR (zpV 0) 44 2 [] zx0 30)))
 (znd pc 33
 (zlf pc 30 (s_cast 1 33))
 (zlf pc 33 (s_rR)))))
theorem zm_X11_boardAt (G : Nat × Nat) (pc : Nat) : zMon (zc_X11_boardAt G pc) := (mo_d (mo_d (mo_d (mo_l (mo_iload _ _)) (mo_d (mo_l (mo_aload _ _)) (mo_l (mo_gR _ _ _)))) (mo_d (mo_l (mo_cI _ _ _ _ (zPre_V _) zHm_0)) (mo_d (mo_l (mo_cI _ _ _ _ zPre_S zHm_0)) (mo_l (mo_ifne _ _))))) (mo_d (mo_d (mo_l (mo_thr _)) (mo_d (mo_l (mo_aload _ _)) (mo_l (mo_gR _ _ _)))) (mo_d (mo_d (mo_l (mo_iload _ _)) (mo_l (mo_cR _ _ _ _ (zPre_V _) zHm_0))) (mo_d (mo_l (mo_cast _ _)) (mo_l (mo_rR))))))
def zc_X0_slotAt (G : Nat × Nat) : Nat → zSem := fun pc =>
 znd pc 14
 (znd pc 5
 (znd pc 1
 (zlf pc 0 (s_iload 1 1))
 (znd pc 2
 (zlf pc 1 (s_aload 0 2))
 (zlf pc 2 (s_gR 1 3 5))))
 (znd pc 8
 (zlf pc 5 (s_cI (zpV 0) 16 1 [] zx0 8))
 (znd pc 11
 (zlf pc 8 (s_cI zpS 12 2 [] zx0 11))
 (zlf pc 11 (s_ifne 22 14)))))
 (znd pc 26
 (znd pc 22
 (zlf pc 14 (s_thr 0))
 (znd pc 23
 (zlf pc 22 (s_aload 0 23))
 (zlf pc 23 (s_gR 1 3 26))))
 (znd pc 30
 (znd pc 27
 (zlf pc 26 (s_iload 1 27))
 (zlf pc 27 (s_cR (zpV 0) 44 2 [] zx0 30)))
 (znd pc 33
 (zlf pc 30 (s_cast 10 33))
 (zlf pc 33 (s_rR)))))
theorem zm_X0_slotAt (G : Nat × Nat) (pc : Nat) : zMon (zc_X0_slotAt G pc) := (mo_d (mo_d (mo_d (mo_l (mo_iload _ _)) (mo_d (mo_l (mo_aload _ _)) (mo_l (mo_gR _ _ _)))) (mo_d (mo_l (mo_cI _ _ _ _ (zPre_V _) zHm_0)) (mo_d (mo_l (mo_cI _ _ _ _ zPre_S zHm_0)) (mo_l (mo_ifne _ _))))) (mo_d (mo_d (mo_l (mo_thr _)) (mo_d (mo_l (mo_aload _ _)) (mo_l (mo_gR _ _ _)))) (mo_d (mo_d (mo_l (mo_iload _ _)) (mo_l (mo_cR _ _ _ _ (zPre_V _) zHm_0))) (mo_d (mo_l (mo_cast _ _)) (mo_l (mo_rR))))))
def zc_X9_hasPart (G : Nat × Nat) : Nat → zSem := fun pc =>
 znd pc 8
 (znd pc 4
 (znd pc 1
 (zlf pc 0 (s_aload 0 1))
 (zlf pc 1 (s_gI 10 0 4)))
 (znd pc 5
 (zlf pc 4 (s_ic (-1) 5))
 (zlf pc 5 (s_cmpeq 12 8))))
 (znd pc 12
 (znd pc 9
 (zlf pc 8 (s_ic 1 9))
 (zlf pc 9 (s_goto 13)))
 (znd pc 13
 (zlf pc 12 (s_ic 0 13))
 (zlf pc 13 (s_rZ))))
theorem zm_X9_hasPart (G : Nat × Nat) (pc : Nat) : zMon (zc_X9_hasPart G pc) := (mo_d (mo_d (mo_d (mo_l (mo_aload _ _)) (mo_l (mo_gI _ _ _))) (mo_d (mo_l (mo_ic _ _)) (mo_l (mo_cmpeq _ _)))) (mo_d (mo_d (mo_l (mo_ic _ _)) (mo_l (mo_goto _))) (mo_d (mo_l (mo_ic _ _)) (mo_l (mo_rZ)))))
def zc_X7_gives (G : Nat × Nat) : Nat → zSem := fun pc =>
 znd pc 12
 (znd pc 7
 (znd pc 1
 (zlf pc 0 (s_aload 0 1))
 (znd pc 4
 (zlf pc 1 (s_gI 8 2 4))
 (zlf pc 4 (s_ifle 20 7))))
 (znd pc 8
 (zlf pc 7 (s_aload 0 8))
 (znd pc 9
 (zlf pc 8 (s_iload 1 9))
 (zlf pc 9 (s_cI (zpV 8) 132 2 [zU] zx0 12)))))
 (znd pc 17
 (znd pc 13
 (zlf pc 12 (s_ic (-1) 13))
 (znd pc 16
 (zlf pc 13 (s_cmpeq 20 16))
 (zlf pc 16 (s_ic 1 17))))
 (znd pc 20
 (zlf pc 17 (s_goto 21))
 (znd pc 21
 (zlf pc 20 (s_ic 0 21))
 (zlf pc 21 (s_rZ)))))
theorem zm_X7_gives (G : Nat × Nat) (pc : Nat) : zMon (zc_X7_gives G pc) := (mo_d (mo_d (mo_d (mo_l (mo_aload _ _)) (mo_d (mo_l (mo_gI _ _ _)) (mo_l (mo_ifle _ _)))) (mo_d (mo_l (mo_aload _ _)) (mo_d (mo_l (mo_iload _ _)) (mo_l (mo_cI _ _ _ _ (zPre_V _) zHm_0))))) (mo_d (mo_d (mo_l (mo_ic _ _)) (mo_d (mo_l (mo_cmpeq _ _)) (mo_l (mo_ic _ _)))) (mo_d (mo_l (mo_goto _)) (mo_d (mo_l (mo_ic _ _)) (mo_l (mo_rZ))))))
def zc_X9_fill (G : Nat × Nat) : Nat → zSem := fun pc =>
 znd pc 12
 (znd pc 6
 (znd pc 2
 (znd pc 1
 (zlf pc 0 (s_aload 2 1))
 (zlf pc 1 (s_dup 2)))
 (znd pc 5
 (zlf pc 2 (s_gI 8 2 5))
 (zlf pc 5 (s_ic 1 6))))
 (znd pc 10
 (znd pc 7
 (zlf pc 6 (s_isub 7))
 (zlf pc 7 (s_pI 8 2 10)))
 (znd pc 11
 (zlf pc 10 (s_aload 0 11))
 (zlf pc 11 (s_aload 2 12)))))
 (znd pc 20
 (znd pc 18
 (znd pc 15
 (zlf pc 12 (s_gI 8 0 15))
 (zlf pc 15 (s_pI 10 0 18)))
 (znd pc 19
 (zlf pc 18 (s_aload 0 19))
 (zlf pc 19 (s_iload 1 20))))
 (znd pc 24
 (znd pc 23
 (zlf pc 20 (s_pI 10 1 23))
 (zlf pc 23 (s_aload 0 24)))
 (znd pc 25
 (zlf pc 24 (s_iload 3 25))
 (znd pc 28
 (zlf pc 25 (s_pI 10 2 28))
 (zlf pc 28 (s_rV))))))
theorem zm_X9_fill (G : Nat × Nat) (pc : Nat) : zMon (zc_X9_fill G pc) := (mo_d (mo_d (mo_d (mo_d (mo_l (mo_aload _ _)) (mo_l (mo_dup _))) (mo_d (mo_l (mo_gI _ _ _)) (mo_l (mo_ic _ _)))) (mo_d (mo_d (mo_l (mo_isub _)) (mo_l (mo_pI _ _ _))) (mo_d (mo_l (mo_aload _ _)) (mo_l (mo_aload _ _))))) (mo_d (mo_d (mo_d (mo_l (mo_gI _ _ _)) (mo_l (mo_pI _ _ _))) (mo_d (mo_l (mo_aload _ _)) (mo_l (mo_iload _ _)))) (mo_d (mo_d (mo_l (mo_pI _ _ _)) (mo_l (mo_aload _ _))) (mo_d (mo_l (mo_iload _ _)) (mo_d (mo_l (mo_pI _ _ _)) (mo_l (mo_rV)))))))
def zc_X11_place (G : Nat × Nat) : Nat → zSem := fun pc =>
 znd pc 38
 (znd pc 16
 (znd pc 7
 (znd pc 2
 (znd pc 1
 (zlf pc 0 (s_aload 0 1))
 (zlf pc 1 (s_iload 1 2)))
 (znd pc 5
 (zlf pc 2 (s_cR (zpV 12) 146 2 [] zx0 5))
 (zlf pc 5 (s_astore 4 7))))
 (znd pc 10
 (znd pc 9
 (zlf pc 7 (s_aload 4 9))
 (zlf pc 9 (s_iload 2 10)))
 (znd pc 13
 (zlf pc 10 (s_cR (zpV 1) 147 2 [] zx0 13))
 (znd pc 15
 (zlf pc 13 (s_astore 5 15))
 (zlf pc 15 (s_aload 0 16))))))
 (znd pc 24
 (znd pc 20
 (znd pc 17
 (zlf pc 16 (s_iload 3 17))
 (zlf pc 17 (s_cR (zpV 12) 130 2 [] zx0 20)))
 (znd pc 22
 (zlf pc 20 (s_astore 6 22))
 (zlf pc 22 (s_aload 4 24))))
 (znd pc 30
 (znd pc 27
 (zlf pc 24 (s_gI 1 0 27))
 (zlf pc 27 (s_ifne 54 30)))
 (znd pc 32
 (zlf pc 30 (s_aload 5 32))
 (znd pc 35
 (zlf pc 32 (s_cI (zpV 10) 148 1 [] zx0 35))
 (zlf pc 35 (s_ifne 54 38)))))))
 (znd pc 58
 (znd pc 47
 (znd pc 41
 (znd pc 40
 (zlf pc 38 (s_aload 6 40))
 (zlf pc 40 (s_aload 0 41)))
 (znd pc 44
 (zlf pc 41 (s_gI 12 7 44))
 (zlf pc 44 (s_cI (zpV 8) 149 2 [] zx0 47))))
 (znd pc 51
 (znd pc 50
 (zlf pc 47 (s_ifeq 54 50))
 (zlf pc 50 (s_ic 1 51)))
 (znd pc 54
 (zlf pc 51 (s_goto 55))
 (znd pc 55
 (zlf pc 54 (s_ic 0 55))
 (zlf pc 55 (s_cV zpS 17 1 [] zx0 58))))))
 (znd pc 64
 (znd pc 61
 (znd pc 60
 (zlf pc 58 (s_aload 5 60))
 (zlf pc 60 (s_iload 3 61)))
 (znd pc 63
 (zlf pc 61 (s_aload 6 63))
 (zlf pc 63 (s_aload 0 64))))
 (znd pc 70
 (znd pc 67
 (zlf pc 64 (s_gI 12 7 67))
 (zlf pc 67 (s_cV (zpV 10) 150 4 [] zx0 70)))
 (znd pc 72
 (zlf pc 70 (s_aload 6 72))
 (znd pc 75
 (zlf pc 72 (s_gI 8 2 75))
 (zlf pc 75 (s_rI)))))))
theorem zm_X11_place (G : Nat × Nat) (pc : Nat) : zMon (zc_X11_place G pc) := (mo_d (mo_d (mo_d (mo_d (mo_d (mo_l (mo_aload _ _)) (mo_l (mo_iload _ _))) (mo_d (mo_l (mo_cR _ _ _ _ (zPre_V _) zHm_0)) (mo_l (mo_astore _ _)))) (mo_d (mo_d (mo_l (mo_aload _ _)) (mo_l (mo_iload _ _))) (mo_d (mo_l (mo_cR _ _ _ _ (zPre_V _) zHm_0)) (mo_d (mo_l (mo_astore _ _)) (mo_l (mo_aload _ _)))))) (mo_d (mo_d (mo_d (mo_l (mo_iload _ _)) (mo_l (mo_cR _ _ _ _ (zPre_V _) zHm_0))) (mo_d (mo_l (mo_astore _ _)) (mo_l (mo_aload _ _)))) (mo_d (mo_d (mo_l (mo_gI _ _ _)) (mo_l (mo_ifne _ _))) (mo_d (mo_l (mo_aload _ _)) (mo_d (mo_l (mo_cI _ _ _ _ (zPre_V _) zHm_0)) (mo_l (mo_ifne _ _))))))) (mo_d (mo_d (mo_d (mo_d (mo_l (mo_aload _ _)) (mo_l (mo_aload _ _))) (mo_d (mo_l (mo_gI _ _ _)) (mo_l (mo_cI _ _ _ _ (zPre_V _) zHm_0)))) (mo_d (mo_d (mo_l (mo_ifeq _ _)) (mo_l (mo_ic _ _))) (mo_d (mo_l (mo_goto _)) (mo_d (mo_l (mo_ic _ _)) (mo_l (mo_cV _ _ _ _ zPre_S zHm_0)))))) (mo_d (mo_d (mo_d (mo_l (mo_aload _ _)) (mo_l (mo_iload _ _))) (mo_d (mo_l (mo_aload _ _)) (mo_l (mo_aload _ _)))) (mo_d (mo_d (mo_l (mo_gI _ _ _)) (mo_l (mo_cV _ _ _ _ (zPre_V _) zHm_0))) (mo_d (mo_l (mo_aload _ _)) (mo_d (mo_l (mo_gI _ _ _)) (mo_l (mo_rI))))))))
def zc_L_place (G : Nat × Nat) : Nat → zSem := fun pc =>
 znd pc 11
 (znd pc 5
 (znd pc 3
 (znd pc 2
 (zlf pc 0 (s_aload 4 2))
 (zlf pc 2 (s_ic 0 3)))
 (znd pc 4
 (zlf pc 3 (s_aload 0 4))
 (zlf pc 4 (s_iload 1 5))))
 (znd pc 7
 (znd pc 6
 (zlf pc 5 (s_iload 2 6))
 (zlf pc 6 (s_iload 3 7)))
 (znd pc 10
 (zlf pc 7 (s_cI (zpV 12) 151 4 [zU, zU, zU] (zxc 5 [(0, 17), (2, 21)]) 10))
 (zlf pc 10 (s_i2l 11)))))
 (znd pc 21
 (znd pc 17
 (znd pc 12
 (zlf pc 11 (s_last 12))
 (zlf pc 12 (s_goto 23)))
 (znd pc 18
 (zlf pc 17 (s_ic 1 18))
 (zlf pc 18 (s_rI))))
 (znd pc 23
 (znd pc 22
 (zlf pc 21 (s_ic 2 22))
 (zlf pc 22 (s_rI)))
 (znd pc 24
 (zlf pc 23 (s_ic 0 24))
 (zlf pc 24 (s_rI)))))
theorem zm_L_place (G : Nat × Nat) (pc : Nat) : zMon (zc_L_place G pc) := (mo_d (mo_d (mo_d (mo_d (mo_l (mo_aload _ _)) (mo_l (mo_ic _ _))) (mo_d (mo_l (mo_aload _ _)) (mo_l (mo_iload _ _)))) (mo_d (mo_d (mo_l (mo_iload _ _)) (mo_l (mo_iload _ _))) (mo_d (mo_l (mo_cI _ _ _ _ (zPre_V _) (zHm_c _ _))) (mo_l (mo_i2l _))))) (mo_d (mo_d (mo_d (mo_l (mo_last _)) (mo_l (mo_goto _))) (mo_d (mo_l (mo_ic _ _)) (mo_l (mo_rI)))) (mo_d (mo_d (mo_l (mo_ic _ _)) (mo_l (mo_rI))) (mo_d (mo_l (mo_ic _ _)) (mo_l (mo_rI))))))
def zc_X12_isBoard (G : Nat × Nat) : Nat → zSem := fun pc =>
 znd pc 6
 (znd pc 2
 (znd pc 1
 (zlf pc 0 (s_iload 1 1))
 (zlf pc 1 (s_ic 0 2)))
 (znd pc 3
 (zlf pc 2 (s_aload 0 3))
 (zlf pc 3 (s_gI 13 34 6))))
 (znd pc 8
 (znd pc 7
 (zlf pc 6 (s_ic 1 7))
 (zlf pc 7 (s_isub 8)))
 (znd pc 11
 (zlf pc 8 (s_cI zpS 31 3 [] zx0 11))
 (zlf pc 11 (s_rZ))))
theorem zm_X12_isBoard (G : Nat × Nat) (pc : Nat) : zMon (zc_X12_isBoard G pc) := (mo_d (mo_d (mo_d (mo_l (mo_iload _ _)) (mo_l (mo_ic _ _))) (mo_d (mo_l (mo_aload _ _)) (mo_l (mo_gI _ _ _)))) (mo_d (mo_d (mo_l (mo_ic _ _)) (mo_l (mo_isub _))) (mo_d (mo_l (mo_cI _ _ _ _ zPre_S zHm_0)) (mo_l (mo_rZ)))))
def zc_X12_isSlot (G : Nat × Nat) : Nat → zSem := fun pc =>
 znd pc 2
 (znd pc 1
 (zlf pc 0 (s_iload 0 1))
 (zlf pc 1 (s_ic 0 2)))
 (znd pc 4
 (zlf pc 2 (s_ic 7 4))
 (znd pc 7
 (zlf pc 4 (s_cI zpS 31 3 [] zx0 7))
 (zlf pc 7 (s_rZ))))
theorem zm_X12_isSlot (G : Nat × Nat) (pc : Nat) : zMon (zc_X12_isSlot G pc) := (mo_d (mo_d (mo_l (mo_iload _ _)) (mo_l (mo_ic _ _))) (mo_d (mo_l (mo_ic _ _)) (mo_d (mo_l (mo_cI _ _ _ _ zPre_S zHm_0)) (mo_l (mo_rZ)))))
def zc_X12_gives (G : Nat × Nat) : Nat → zSem := fun pc =>
 znd pc 13
 (znd pc 5
 (znd pc 1
 (zlf pc 0 (s_aload 0 1))
 (znd pc 2
 (zlf pc 1 (s_iload 1 2))
 (zlf pc 2 (s_cI (zpV 13) 136 2 [zU] zx0 5))))
 (znd pc 9
 (znd pc 6
 (zlf pc 5 (s_ic (-1) 6))
 (zlf pc 6 (s_cmpeq 22 9)))
 (znd pc 10
 (zlf pc 9 (s_aload 0 10))
 (zlf pc 10 (s_gR 13 27 13)))))
 (znd pc 18
 (znd pc 14
 (zlf pc 13 (s_iload 1 14))
 (znd pc 15
 (zlf pc 14 (s_iald 15))
 (zlf pc 15 (s_ifle 22 18))))
 (znd pc 22
 (znd pc 19
 (zlf pc 18 (s_ic 1 19))
 (zlf pc 19 (s_goto 23)))
 (znd pc 23
 (zlf pc 22 (s_ic 0 23))
 (zlf pc 23 (s_rZ)))))
theorem zm_X12_gives (G : Nat × Nat) (pc : Nat) : zMon (zc_X12_gives G pc) := (mo_d (mo_d (mo_d (mo_l (mo_aload _ _)) (mo_d (mo_l (mo_iload _ _)) (mo_l (mo_cI _ _ _ _ (zPre_V _) zHm_0)))) (mo_d (mo_d (mo_l (mo_ic _ _)) (mo_l (mo_cmpeq _ _))) (mo_d (mo_l (mo_aload _ _)) (mo_l (mo_gR _ _ _))))) (mo_d (mo_d (mo_l (mo_iload _ _)) (mo_d (mo_l (mo_iald _)) (mo_l (mo_ifle _ _)))) (mo_d (mo_d (mo_l (mo_ic _ _)) (mo_l (mo_goto _))) (mo_d (mo_l (mo_ic _ _)) (mo_l (mo_rZ))))))
def zc_X12_place (G : Nat × Nat) : Nat → zSem := fun pc =>
 znd pc 80
 (znd pc 41
 (znd pc 20
 (znd pc 9
 (znd pc 2
 (znd pc 1
 (zlf pc 0 (s_aload 0 1))
 (zlf pc 1 (s_iload 1 2)))
 (znd pc 5
 (zlf pc 2 (s_cI (zpV 13) 153 2 [] zx0 5))
 (znd pc 8
 (zlf pc 5 (s_ifeq 27 8))
 (zlf pc 8 (s_iload 2 9)))))
 (znd pc 15
 (znd pc 12
 (zlf pc 9 (s_cI zpS 154 1 [] zx0 12))
 (zlf pc 12 (s_ifeq 27 15)))
 (znd pc 16
 (zlf pc 15 (s_aload 0 16))
 (znd pc 17
 (zlf pc 16 (s_iload 3 17))
 (zlf pc 17 (s_cI (zpV 13) 135 2 [] zx0 20))))))
 (znd pc 30
 (znd pc 24
 (znd pc 23
 (zlf pc 20 (s_ifeq 27 23))
 (zlf pc 23 (s_ic 1 24)))
 (znd pc 27
 (zlf pc 24 (s_goto 28))
 (znd pc 28
 (zlf pc 27 (s_ic 0 28))
 (zlf pc 28 (s_istore 4 30)))))
 (znd pc 36
 (znd pc 32
 (zlf pc 30 (s_iload 4 32))
 (znd pc 35
 (zlf pc 32 (s_ifeq 71 35))
 (zlf pc 35 (s_aload 0 36))))
 (znd pc 39
 (zlf pc 36 (s_gR 13 35 39))
 (znd pc 40
 (zlf pc 39 (s_iload 1 40))
 (zlf pc 40 (s_zald 41)))))))
 (znd pc 59
 (znd pc 51
 (znd pc 45
 (znd pc 44
 (zlf pc 41 (s_ifne 71 44))
 (zlf pc 44 (s_aload 0 45)))
 (znd pc 48
 (zlf pc 45 (s_gR 13 38 48))
 (znd pc 50
 (zlf pc 48 (s_ic 8 50))
 (zlf pc 50 (s_iload 1 51)))))
 (znd pc 54
 (znd pc 52
 (zlf pc 51 (s_imul 52))
 (znd pc 53
 (zlf pc 52 (s_iload 2 53))
 (zlf pc 53 (s_iadd 54))))
 (znd pc 55
 (zlf pc 54 (s_iald 55))
 (znd pc 56
 (zlf pc 55 (s_ic (-1) 56))
 (zlf pc 56 (s_cmpne 71 59))))))
 (znd pc 68
 (znd pc 61
 (znd pc 60
 (zlf pc 59 (s_aload 0 60))
 (zlf pc 60 (s_iload 3 61)))
 (znd pc 64
 (zlf pc 61 (s_cI (zpV 13) 155 2 [] zx0 64))
 (znd pc 67
 (zlf pc 64 (s_ifeq 71 67))
 (zlf pc 67 (s_ic 1 68)))))
 (znd pc 74
 (znd pc 71
 (zlf pc 68 (s_goto 72))
 (znd pc 72
 (zlf pc 71 (s_ic 0 72))
 (zlf pc 72 (s_istore 5 74))))
 (znd pc 75
 (zlf pc 74 (s_aload 0 75))
 (znd pc 77
 (zlf pc 75 (s_iload 4 77))
 (zlf pc 77 (s_ifne 84 80))))))))
 (znd pc 115
 (znd pc 101
 (znd pc 90
 (znd pc 84
 (znd pc 81
 (zlf pc 80 (s_ic 1 81))
 (zlf pc 81 (s_goto 94)))
 (znd pc 86
 (zlf pc 84 (s_iload 5 86))
 (znd pc 89
 (zlf pc 86 (s_ifeq 93 89))
 (zlf pc 89 (s_ic 0 90)))))
 (znd pc 94
 (znd pc 93
 (zlf pc 90 (s_goto 94))
 (zlf pc 93 (s_ic 2 94)))
 (znd pc 97
 (zlf pc 94 (s_cI (zpV 13) 33 2 [] zx0 97))
 (znd pc 100
 (zlf pc 97 (s_ifeq 102 100))
 (zlf pc 100 (s_ic 0 101))))))
 (znd pc 109
 (znd pc 103
 (znd pc 102
 (zlf pc 101 (s_rI))
 (zlf pc 102 (s_aload 0 103)))
 (znd pc 106
 (zlf pc 103 (s_gR 13 38 106))
 (znd pc 108
 (zlf pc 106 (s_ic 8 108))
 (zlf pc 108 (s_iload 1 109)))))
 (znd pc 112
 (znd pc 110
 (zlf pc 109 (s_imul 110))
 (znd pc 111
 (zlf pc 110 (s_iload 2 111))
 (zlf pc 111 (s_iadd 112))))
 (znd pc 113
 (zlf pc 112 (s_iload 3 113))
 (znd pc 114
 (zlf pc 113 (s_iast 114))
 (zlf pc 114 (s_aload 0 115)))))))
 (znd pc 133
 (znd pc 123
 (znd pc 120
 (znd pc 118
 (zlf pc 115 (s_gR 13 39 118))
 (zlf pc 118 (s_ic 8 120)))
 (znd pc 121
 (zlf pc 120 (s_iload 1 121))
 (znd pc 122
 (zlf pc 121 (s_imul 122))
 (zlf pc 122 (s_iload 2 123)))))
 (znd pc 128
 (znd pc 124
 (zlf pc 123 (s_iadd 124))
 (znd pc 125
 (zlf pc 124 (s_aload 0 125))
 (zlf pc 125 (s_gI 13 24 128))))
 (znd pc 129
 (zlf pc 128 (s_iast 129))
 (znd pc 130
 (zlf pc 129 (s_aload 0 130))
 (zlf pc 130 (s_gR 13 27 133))))))
 (znd pc 138
 (znd pc 135
 (znd pc 134
 (zlf pc 133 (s_iload 3 134))
 (zlf pc 134 (s_dup2 135)))
 (znd pc 136
 (zlf pc 135 (s_iald 136))
 (znd pc 137
 (zlf pc 136 (s_ic 1 137))
 (zlf pc 137 (s_isub 138)))))
 (znd pc 143
 (znd pc 139
 (zlf pc 138 (s_iast 139))
 (znd pc 140
 (zlf pc 139 (s_aload 0 140))
 (zlf pc 140 (s_gR 13 27 143))))
 (znd pc 144
 (zlf pc 143 (s_iload 3 144))
 (znd pc 145
 (zlf pc 144 (s_iald 145))
 (zlf pc 145 (s_rI))))))))
theorem zm_X12_place (G : Nat × Nat) (pc : Nat) : zMon (zc_X12_place G pc) := (mo_d (mo_d (mo_d (mo_d (mo_d (mo_d (mo_l (mo_aload _ _)) (mo_l (mo_iload _ _))) (mo_d (mo_l (mo_cI _ _ _ _ (zPre_V _) zHm_0)) (mo_d (mo_l (mo_ifeq _ _)) (mo_l (mo_iload _ _))))) (mo_d (mo_d (mo_l (mo_cI _ _ _ _ zPre_S zHm_0)) (mo_l (mo_ifeq _ _))) (mo_d (mo_l (mo_aload _ _)) (mo_d (mo_l (mo_iload _ _)) (mo_l (mo_cI _ _ _ _ (zPre_V _) zHm_0)))))) (mo_d (mo_d (mo_d (mo_l (mo_ifeq _ _)) (mo_l (mo_ic _ _))) (mo_d (mo_l (mo_goto _)) (mo_d (mo_l (mo_ic _ _)) (mo_l (mo_istore _ _))))) (mo_d (mo_d (mo_l (mo_iload _ _)) (mo_d (mo_l (mo_ifeq _ _)) (mo_l (mo_aload _ _)))) (mo_d (mo_l (mo_gR _ _ _)) (mo_d (mo_l (mo_iload _ _)) (mo_l (mo_zald _))))))) (mo_d (mo_d (mo_d (mo_d (mo_l (mo_ifne _ _)) (mo_l (mo_aload _ _))) (mo_d (mo_l (mo_gR _ _ _)) (mo_d (mo_l (mo_ic _ _)) (mo_l (mo_iload _ _))))) (mo_d (mo_d (mo_l (mo_imul _)) (mo_d (mo_l (mo_iload _ _)) (mo_l (mo_iadd _)))) (mo_d (mo_l (mo_iald _)) (mo_d (mo_l (mo_ic _ _)) (mo_l (mo_cmpne _ _)))))) (mo_d (mo_d (mo_d (mo_l (mo_aload _ _)) (mo_l (mo_iload _ _))) (mo_d (mo_l (mo_cI _ _ _ _ (zPre_V _) zHm_0)) (mo_d (mo_l (mo_ifeq _ _)) (mo_l (mo_ic _ _))))) (mo_d (mo_d (mo_l (mo_goto _)) (mo_d (mo_l (mo_ic _ _)) (mo_l (mo_istore _ _)))) (mo_d (mo_l (mo_aload _ _)) (mo_d (mo_l (mo_iload _ _)) (mo_l (mo_ifne _ _)))))))) (mo_d (mo_d (mo_d (mo_d (mo_d (mo_l (mo_ic _ _)) (mo_l (mo_goto _))) (mo_d (mo_l (mo_iload _ _)) (mo_d (mo_l (mo_ifeq _ _)) (mo_l (mo_ic _ _))))) (mo_d (mo_d (mo_l (mo_goto _)) (mo_l (mo_ic _ _))) (mo_d (mo_l (mo_cI _ _ _ _ (zPre_V _) zHm_0)) (mo_d (mo_l (mo_ifeq _ _)) (mo_l (mo_ic _ _)))))) (mo_d (mo_d (mo_d (mo_l (mo_rI)) (mo_l (mo_aload _ _))) (mo_d (mo_l (mo_gR _ _ _)) (mo_d (mo_l (mo_ic _ _)) (mo_l (mo_iload _ _))))) (mo_d (mo_d (mo_l (mo_imul _)) (mo_d (mo_l (mo_iload _ _)) (mo_l (mo_iadd _)))) (mo_d (mo_l (mo_iload _ _)) (mo_d (mo_l (mo_iast _)) (mo_l (mo_aload _ _))))))) (mo_d (mo_d (mo_d (mo_d (mo_l (mo_gR _ _ _)) (mo_l (mo_ic _ _))) (mo_d (mo_l (mo_iload _ _)) (mo_d (mo_l (mo_imul _)) (mo_l (mo_iload _ _))))) (mo_d (mo_d (mo_l (mo_iadd _)) (mo_d (mo_l (mo_aload _ _)) (mo_l (mo_gI _ _ _)))) (mo_d (mo_l (mo_iast _)) (mo_d (mo_l (mo_aload _ _)) (mo_l (mo_gR _ _ _)))))) (mo_d (mo_d (mo_d (mo_l (mo_iload _ _)) (mo_l (mo_dup2 _))) (mo_d (mo_l (mo_iald _)) (mo_d (mo_l (mo_ic _ _)) (mo_l (mo_isub _))))) (mo_d (mo_d (mo_l (mo_iast _)) (mo_d (mo_l (mo_aload _ _)) (mo_l (mo_gR _ _ _)))) (mo_d (mo_l (mo_iload _ _)) (mo_d (mo_l (mo_iald _)) (mo_l (mo_rI)))))))))
def zc_X11_limits (G : Nat × Nat) : Nat → zSem := fun pc =>
 znd pc 49
 (znd pc 22
 (znd pc 9
 (znd pc 2
 (znd pc 1
 (zlf pc 0 (s_iload 2 1))
 (zlf pc 1 (s_iload 1 2)))
 (znd pc 5
 (zlf pc 2 (s_ifeq 9 5))
 (znd pc 6
 (zlf pc 5 (s_ic 4 6))
 (zlf pc 6 (s_goto 11)))))
 (znd pc 17
 (znd pc 11
 (zlf pc 9 (s_ic 6 11))
 (znd pc 14
 (zlf pc 11 (s_cI zpS 12 2 [] zx0 14))
 (zlf pc 14 (s_cV zpS 13 1 [] zx0 17))))
 (znd pc 18
 (zlf pc 17 (s_iload 3 18))
 (znd pc 19
 (zlf pc 18 (s_ic 0 19))
 (zlf pc 19 (s_ic 400 22))))))
 (znd pc 35
 (znd pc 29
 (znd pc 25
 (zlf pc 22 (s_cI zpS 14 3 [] zx0 25))
 (znd pc 28
 (zlf pc 25 (s_ifeq 48 28))
 (zlf pc 28 (s_iload 1 29))))
 (znd pc 32
 (zlf pc 29 (s_ifne 44 32))
 (znd pc 34
 (zlf pc 32 (s_iload 4 34))
 (zlf pc 34 (s_iload 3 35)))))
 (znd pc 44
 (znd pc 38
 (zlf pc 35 (s_ic 400 38))
 (znd pc 41
 (zlf pc 38 (s_cI zpS 14 3 [] zx0 41))
 (zlf pc 41 (s_ifeq 48 44))))
 (znd pc 45
 (zlf pc 44 (s_ic 1 45))
 (znd pc 48
 (zlf pc 45 (s_goto 49))
 (zlf pc 48 (s_ic 0 49)))))))
 (znd pc 72
 (znd pc 60
 (znd pc 53
 (znd pc 52
 (zlf pc 49 (s_cV zpS 15 1 [] zx0 52))
 (zlf pc 52 (s_iload 1 53)))
 (znd pc 56
 (zlf pc 53 (s_ifeq 71 56))
 (znd pc 57
 (zlf pc 56 (s_aload 0 57))
 (zlf pc 57 (s_gR 12 3 60)))))
 (znd pc 65
 (znd pc 63
 (zlf pc 60 (s_gR 7 0 63))
 (znd pc 64
 (zlf pc 63 (s_iload 2 64))
 (zlf pc 64 (s_iload 3 65))))
 (znd pc 68
 (zlf pc 65 (s_cV (zpV 9) 7 3 [] zx0 68))
 (znd pc 71
 (zlf pc 68 (s_goto 96))
 (zlf pc 71 (s_aload 0 72))))))
 (znd pc 84
 (znd pc 79
 (znd pc 75
 (zlf pc 72 (s_gR 12 3 75))
 (znd pc 78
 (zlf pc 75 (s_gR 7 1 78))
 (zlf pc 78 (s_iload 2 79))))
 (znd pc 80
 (zlf pc 79 (s_iload 3 80))
 (znd pc 83
 (zlf pc 80 (s_cV (zpV 9) 7 3 [] zx0 83))
 (zlf pc 83 (s_aload 0 84)))))
 (znd pc 91
 (znd pc 87
 (zlf pc 84 (s_gR 12 3 87))
 (znd pc 90
 (zlf pc 87 (s_gR 7 2 90))
 (zlf pc 90 (s_iload 2 91))))
 (znd pc 93
 (zlf pc 91 (s_iload 4 93))
 (znd pc 96
 (zlf pc 93 (s_cV (zpV 9) 7 3 [] zx0 96))
 (zlf pc 96 (s_rV)))))))
theorem zm_X11_limits (G : Nat × Nat) (pc : Nat) : zMon (zc_X11_limits G pc) := (mo_d (mo_d (mo_d (mo_d (mo_d (mo_l (mo_iload _ _)) (mo_l (mo_iload _ _))) (mo_d (mo_l (mo_ifeq _ _)) (mo_d (mo_l (mo_ic _ _)) (mo_l (mo_goto _))))) (mo_d (mo_d (mo_l (mo_ic _ _)) (mo_d (mo_l (mo_cI _ _ _ _ zPre_S zHm_0)) (mo_l (mo_cV _ _ _ _ zPre_S zHm_0)))) (mo_d (mo_l (mo_iload _ _)) (mo_d (mo_l (mo_ic _ _)) (mo_l (mo_ic _ _)))))) (mo_d (mo_d (mo_d (mo_l (mo_cI _ _ _ _ zPre_S zHm_0)) (mo_d (mo_l (mo_ifeq _ _)) (mo_l (mo_iload _ _)))) (mo_d (mo_l (mo_ifne _ _)) (mo_d (mo_l (mo_iload _ _)) (mo_l (mo_iload _ _))))) (mo_d (mo_d (mo_l (mo_ic _ _)) (mo_d (mo_l (mo_cI _ _ _ _ zPre_S zHm_0)) (mo_l (mo_ifeq _ _)))) (mo_d (mo_l (mo_ic _ _)) (mo_d (mo_l (mo_goto _)) (mo_l (mo_ic _ _))))))) (mo_d (mo_d (mo_d (mo_d (mo_l (mo_cV _ _ _ _ zPre_S zHm_0)) (mo_l (mo_iload _ _))) (mo_d (mo_l (mo_ifeq _ _)) (mo_d (mo_l (mo_aload _ _)) (mo_l (mo_gR _ _ _))))) (mo_d (mo_d (mo_l (mo_gR _ _ _)) (mo_d (mo_l (mo_iload _ _)) (mo_l (mo_iload _ _)))) (mo_d (mo_l (mo_cV _ _ _ _ (zPre_V _) zHm_0)) (mo_d (mo_l (mo_goto _)) (mo_l (mo_aload _ _)))))) (mo_d (mo_d (mo_d (mo_l (mo_gR _ _ _)) (mo_d (mo_l (mo_gR _ _ _)) (mo_l (mo_iload _ _)))) (mo_d (mo_l (mo_iload _ _)) (mo_d (mo_l (mo_cV _ _ _ _ (zPre_V _) zHm_0)) (mo_l (mo_aload _ _))))) (mo_d (mo_d (mo_l (mo_gR _ _ _)) (mo_d (mo_l (mo_gR _ _ _)) (mo_l (mo_iload _ _)))) (mo_d (mo_l (mo_iload _ _)) (mo_d (mo_l (mo_cV _ _ _ _ (zPre_V _) zHm_0)) (mo_l (mo_rV))))))))
def zc_L_limits (G : Nat × Nat) : Nat → zSem := fun pc =>
 znd pc 9
 (znd pc 3
 (znd pc 1
 (zlf pc 0 (s_aload 0 1))
 (znd pc 2
 (zlf pc 1 (s_iload 1 2))
 (zlf pc 2 (s_iload 2 3))))
 (znd pc 4
 (zlf pc 3 (s_iload 3 4))
 (znd pc 6
 (zlf pc 4 (s_iload 4 6))
 (zlf pc 6 (s_cV (zpV 12) 157 5 [] (zxc 5 [(0, 14), (1, 18)]) 9)))))
 (znd pc 18
 (znd pc 14
 (zlf pc 9 (s_goto 20))
 (znd pc 15
 (zlf pc 14 (s_ic 1 15))
 (zlf pc 15 (s_rI))))
 (znd pc 20
 (znd pc 19
 (zlf pc 18 (s_ic 2 19))
 (zlf pc 19 (s_rI)))
 (znd pc 21
 (zlf pc 20 (s_ic 0 21))
 (zlf pc 21 (s_rI)))))
theorem zm_L_limits (G : Nat × Nat) (pc : Nat) : zMon (zc_L_limits G pc) := (mo_d (mo_d (mo_d (mo_l (mo_aload _ _)) (mo_d (mo_l (mo_iload _ _)) (mo_l (mo_iload _ _)))) (mo_d (mo_l (mo_iload _ _)) (mo_d (mo_l (mo_iload _ _)) (mo_l (mo_cV _ _ _ _ (zPre_V _) (zHm_c _ _)))))) (mo_d (mo_d (mo_l (mo_goto _)) (mo_d (mo_l (mo_ic _ _)) (mo_l (mo_rI)))) (mo_d (mo_d (mo_l (mo_ic _ _)) (mo_l (mo_rI))) (mo_d (mo_l (mo_ic _ _)) (mo_l (mo_rI))))))
def zc_X12_limits (G : Nat × Nat) : Nat → zSem := fun pc =>
 znd pc 56
 (znd pc 27
 (znd pc 11
 (znd pc 3
 (znd pc 1
 (zlf pc 0 (s_iload 2 1))
 (znd pc 2
 (zlf pc 1 (s_ic 0 2))
 (zlf pc 2 (s_iload 1 3))))
 (znd pc 7
 (znd pc 6
 (zlf pc 3 (s_ifeq 10 6))
 (zlf pc 6 (s_ic 3 7)))
 (znd pc 10
 (zlf pc 7 (s_goto 11))
 (zlf pc 10 (s_ic 5 11)))))
 (znd pc 17
 (znd pc 14
 (zlf pc 11 (s_cI zpS 31 3 [] zx0 14))
 (znd pc 16
 (zlf pc 14 (s_istore 5 16))
 (zlf pc 16 (s_iload 3 17))))
 (znd pc 21
 (znd pc 18
 (zlf pc 17 (s_ic 0 18))
 (zlf pc 18 (s_ic 400 21)))
 (znd pc 24
 (zlf pc 21 (s_cI zpS 31 3 [] zx0 24))
 (zlf pc 24 (s_ifeq 47 27))))))
 (znd pc 43
 (znd pc 33
 (znd pc 28
 (zlf pc 27 (s_iload 1 28))
 (znd pc 31
 (zlf pc 28 (s_ifne 43 31))
 (zlf pc 31 (s_iload 4 33))))
 (znd pc 37
 (znd pc 34
 (zlf pc 33 (s_iload 3 34))
 (zlf pc 34 (s_ic 400 37)))
 (znd pc 40
 (zlf pc 37 (s_cI zpS 31 3 [] zx0 40))
 (zlf pc 40 (s_ifeq 47 43)))))
 (znd pc 48
 (znd pc 44
 (zlf pc 43 (s_ic 1 44))
 (znd pc 47
 (zlf pc 44 (s_goto 48))
 (zlf pc 47 (s_ic 0 48))))
 (znd pc 51
 (znd pc 50
 (zlf pc 48 (s_istore 6 50))
 (zlf pc 50 (s_aload 0 51)))
 (znd pc 53
 (zlf pc 51 (s_iload 5 53))
 (zlf pc 53 (s_ifne 60 56)))))))
 (znd pc 85
 (znd pc 70
 (znd pc 62
 (znd pc 57
 (zlf pc 56 (s_ic 1 57))
 (znd pc 60
 (zlf pc 57 (s_goto 70))
 (zlf pc 60 (s_iload 6 62))))
 (znd pc 66
 (znd pc 65
 (zlf pc 62 (s_ifeq 69 65))
 (zlf pc 65 (s_ic 0 66)))
 (znd pc 69
 (zlf pc 66 (s_goto 70))
 (zlf pc 69 (s_ic 2 70)))))
 (znd pc 77
 (znd pc 73
 (zlf pc 70 (s_cI (zpV 13) 33 2 [] zx0 73))
 (znd pc 76
 (zlf pc 73 (s_ifeq 77 76))
 (zlf pc 76 (s_rV))))
 (znd pc 81
 (znd pc 78
 (zlf pc 77 (s_iload 1 78))
 (zlf pc 78 (s_ifeq 91 81)))
 (znd pc 82
 (zlf pc 81 (s_aload 0 82))
 (zlf pc 82 (s_gR 13 30 85))))))
 (znd pc 96
 (znd pc 88
 (znd pc 86
 (zlf pc 85 (s_iload 2 86))
 (znd pc 87
 (zlf pc 86 (s_iload 3 87))
 (zlf pc 87 (s_iast 88))))
 (znd pc 92
 (znd pc 91
 (zlf pc 88 (s_goto 106))
 (zlf pc 91 (s_aload 0 92)))
 (znd pc 95
 (zlf pc 92 (s_gR 13 31 95))
 (zlf pc 95 (s_iload 2 96)))))
 (znd pc 102
 (znd pc 98
 (znd pc 97
 (zlf pc 96 (s_iload 3 97))
 (zlf pc 97 (s_iast 98)))
 (znd pc 99
 (zlf pc 98 (s_aload 0 99))
 (zlf pc 99 (s_gR 13 32 102))))
 (znd pc 105
 (znd pc 103
 (zlf pc 102 (s_iload 2 103))
 (zlf pc 103 (s_iload 4 105)))
 (znd pc 106
 (zlf pc 105 (s_iast 106))
 (zlf pc 106 (s_rV)))))))
theorem zm_X12_limits (G : Nat × Nat) (pc : Nat) : zMon (zc_X12_limits G pc) := (mo_d (mo_d (mo_d (mo_d (mo_d (mo_l (mo_iload _ _)) (mo_d (mo_l (mo_ic _ _)) (mo_l (mo_iload _ _)))) (mo_d (mo_d (mo_l (mo_ifeq _ _)) (mo_l (mo_ic _ _))) (mo_d (mo_l (mo_goto _)) (mo_l (mo_ic _ _))))) (mo_d (mo_d (mo_l (mo_cI _ _ _ _ zPre_S zHm_0)) (mo_d (mo_l (mo_istore _ _)) (mo_l (mo_iload _ _)))) (mo_d (mo_d (mo_l (mo_ic _ _)) (mo_l (mo_ic _ _))) (mo_d (mo_l (mo_cI _ _ _ _ zPre_S zHm_0)) (mo_l (mo_ifeq _ _)))))) (mo_d (mo_d (mo_d (mo_l (mo_iload _ _)) (mo_d (mo_l (mo_ifne _ _)) (mo_l (mo_iload _ _)))) (mo_d (mo_d (mo_l (mo_iload _ _)) (mo_l (mo_ic _ _))) (mo_d (mo_l (mo_cI _ _ _ _ zPre_S zHm_0)) (mo_l (mo_ifeq _ _))))) (mo_d (mo_d (mo_l (mo_ic _ _)) (mo_d (mo_l (mo_goto _)) (mo_l (mo_ic _ _)))) (mo_d (mo_d (mo_l (mo_istore _ _)) (mo_l (mo_aload _ _))) (mo_d (mo_l (mo_iload _ _)) (mo_l (mo_ifne _ _))))))) (mo_d (mo_d (mo_d (mo_d (mo_l (mo_ic _ _)) (mo_d (mo_l (mo_goto _)) (mo_l (mo_iload _ _)))) (mo_d (mo_d (mo_l (mo_ifeq _ _)) (mo_l (mo_ic _ _))) (mo_d (mo_l (mo_goto _)) (mo_l (mo_ic _ _))))) (mo_d (mo_d (mo_l (mo_cI _ _ _ _ (zPre_V _) zHm_0)) (mo_d (mo_l (mo_ifeq _ _)) (mo_l (mo_rV)))) (mo_d (mo_d (mo_l (mo_iload _ _)) (mo_l (mo_ifeq _ _))) (mo_d (mo_l (mo_aload _ _)) (mo_l (mo_gR _ _ _)))))) (mo_d (mo_d (mo_d (mo_l (mo_iload _ _)) (mo_d (mo_l (mo_iload _ _)) (mo_l (mo_iast _)))) (mo_d (mo_d (mo_l (mo_goto _)) (mo_l (mo_aload _ _))) (mo_d (mo_l (mo_gR _ _ _)) (mo_l (mo_iload _ _))))) (mo_d (mo_d (mo_d (mo_l (mo_iload _ _)) (mo_l (mo_iast _))) (mo_d (mo_l (mo_aload _ _)) (mo_l (mo_gR _ _ _)))) (mo_d (mo_d (mo_l (mo_iload _ _)) (mo_l (mo_iload _ _))) (mo_d (mo_l (mo_iast _)) (mo_l (mo_rV))))))))
def zc_X8_copyFrom (G : Nat × Nat) : Nat → zSem := fun pc =>
 znd pc 12
 (znd pc 4
 (znd pc 2
 (znd pc 1
 (zlf pc 0 (s_ic 0 1))
 (zlf pc 1 (s_istore 2 2)))
 (znd pc 3
 (zlf pc 2 (s_iload 2 3))
 (zlf pc 3 (s_aload 0 4))))
 (znd pc 8
 (znd pc 7
 (zlf pc 4 (s_gR 9 0 7))
 (zlf pc 7 (s_alen 8)))
 (znd pc 11
 (zlf pc 8 (s_cmpge 28 11))
 (zlf pc 11 (s_aload 0 12)))))
 (znd pc 18
 (znd pc 16
 (znd pc 15
 (zlf pc 12 (s_gR 9 0 15))
 (zlf pc 15 (s_iload 2 16)))
 (znd pc 17
 (zlf pc 16 (s_aload 1 17))
 (zlf pc 17 (s_iload 2 18))))
 (znd pc 22
 (znd pc 21
 (zlf pc 18 (s_cI (zpV 9) 54 2 [] zx0 21))
 (zlf pc 21 (s_iast 22)))
 (znd pc 25
 (zlf pc 22 (s_iinc 2 1 25))
 (znd pc 28
 (zlf pc 25 (s_goto 2))
 (zlf pc 28 (s_rV))))))
theorem zm_X8_copyFrom (G : Nat × Nat) (pc : Nat) : zMon (zc_X8_copyFrom G pc) := (mo_d (mo_d (mo_d (mo_d (mo_l (mo_ic _ _)) (mo_l (mo_istore _ _))) (mo_d (mo_l (mo_iload _ _)) (mo_l (mo_aload _ _)))) (mo_d (mo_d (mo_l (mo_gR _ _ _)) (mo_l (mo_alen _))) (mo_d (mo_l (mo_cmpge _ _)) (mo_l (mo_aload _ _))))) (mo_d (mo_d (mo_d (mo_l (mo_gR _ _ _)) (mo_l (mo_iload _ _))) (mo_d (mo_l (mo_aload _ _)) (mo_l (mo_iload _ _)))) (mo_d (mo_d (mo_l (mo_cI _ _ _ _ (zPre_V _) zHm_0)) (mo_l (mo_iast _))) (mo_d (mo_l (mo_iinc _ _ _)) (mo_d (mo_l (mo_goto _)) (mo_l (mo_rV)))))))
def zc_X0_mass (G : Nat × Nat) : Nat → zSem := fun pc =>
 znd pc 16
 (znd pc 5
 (znd pc 2
 (znd pc 1
 (zlf pc 0 (s_ic 2 1))
 (zlf pc 1 (s_istore 1 2)))
 (znd pc 3
 (zlf pc 2 (s_ic 0 3))
 (znd pc 4
 (zlf pc 3 (s_istore 2 4))
 (zlf pc 4 (s_iload 2 5)))))
 (znd pc 9
 (znd pc 6
 (zlf pc 5 (s_aload 0 6))
 (zlf pc 6 (s_gR 1 3 9)))
 (znd pc 12
 (zlf pc 9 (s_cI (zpV 0) 16 1 [] zx0 12))
 (znd pc 15
 (zlf pc 12 (s_cmpge 41 15))
 (zlf pc 15 (s_aload 0 16))))))
 (znd pc 29
 (znd pc 20
 (znd pc 19
 (zlf pc 16 (s_gR 1 3 19))
 (zlf pc 19 (s_iload 2 20)))
 (znd pc 23
 (zlf pc 20 (s_cR (zpV 0) 44 2 [] zx0 23))
 (znd pc 26
 (zlf pc 23 (s_cast 10 26))
 (zlf pc 26 (s_cI (zpV 10) 148 1 [] zx0 29)))))
 (znd pc 38
 (znd pc 32
 (zlf pc 29 (s_ifeq 35 32))
 (znd pc 35
 (zlf pc 32 (s_iinc 1 1 35))
 (zlf pc 35 (s_iinc 2 1 38))))
 (znd pc 41
 (zlf pc 38 (s_goto 4))
 (znd pc 42
 (zlf pc 41 (s_iload 1 42))
 (zlf pc 42 (s_rI))))))
theorem zm_X0_mass (G : Nat × Nat) (pc : Nat) : zMon (zc_X0_mass G pc) := (mo_d (mo_d (mo_d (mo_d (mo_l (mo_ic _ _)) (mo_l (mo_istore _ _))) (mo_d (mo_l (mo_ic _ _)) (mo_d (mo_l (mo_istore _ _)) (mo_l (mo_iload _ _))))) (mo_d (mo_d (mo_l (mo_aload _ _)) (mo_l (mo_gR _ _ _))) (mo_d (mo_l (mo_cI _ _ _ _ (zPre_V _) zHm_0)) (mo_d (mo_l (mo_cmpge _ _)) (mo_l (mo_aload _ _)))))) (mo_d (mo_d (mo_d (mo_l (mo_gR _ _ _)) (mo_l (mo_iload _ _))) (mo_d (mo_l (mo_cR _ _ _ _ (zPre_V _) zHm_0)) (mo_d (mo_l (mo_cast _ _)) (mo_l (mo_cI _ _ _ _ (zPre_V _) zHm_0))))) (mo_d (mo_d (mo_l (mo_ifeq _ _)) (mo_d (mo_l (mo_iinc _ _ _)) (mo_l (mo_iinc _ _ _)))) (mo_d (mo_l (mo_goto _)) (mo_d (mo_l (mo_iload _ _)) (mo_l (mo_rI)))))))
def zc_X6_peakOf (G : Nat × Nat) : Nat → zSem := fun pc =>
 znd pc 27
 (znd pc 11
 (znd pc 5
 (znd pc 3
 (znd pc 2
 (zlf pc 0 (s_ic 25 2))
 (zlf pc 2 (s_istore 2 3)))
 (znd pc 4
 (zlf pc 3 (s_ic 0 4))
 (zlf pc 4 (s_istore 3 5))))
 (znd pc 8
 (znd pc 6
 (zlf pc 5 (s_ic 0 6))
 (zlf pc 6 (s_istore 4 8)))
 (znd pc 10
 (zlf pc 8 (s_iload 4 10))
 (zlf pc 10 (s_ic 4 11)))))
 (znd pc 19
 (znd pc 15
 (znd pc 14
 (zlf pc 11 (s_cmpge 56 14))
 (zlf pc 14 (s_ic 0 15)))
 (znd pc 17
 (zlf pc 15 (s_istore 5 17))
 (zlf pc 17 (s_iload 5 19))))
 (znd pc 23
 (znd pc 20
 (zlf pc 19 (s_ic 3 20))
 (zlf pc 20 (s_cmpge 50 23)))
 (znd pc 24
 (zlf pc 23 (s_iload 2 24))
 (znd pc 25
 (zlf pc 24 (s_aload 0 25))
 (zlf pc 25 (s_iload 4 27)))))))
 (znd pc 39
 (znd pc 33
 (znd pc 31
 (znd pc 30
 (zlf pc 27 (s_cI (zpV 9) 54 2 [] zx0 30))
 (zlf pc 30 (s_iload 2 31)))
 (znd pc 32
 (zlf pc 31 (s_isub 32))
 (zlf pc 32 (s_iload 1 33))))
 (znd pc 37
 (znd pc 36
 (zlf pc 33 (s_cI zpS 115 2 [] zx0 36))
 (zlf pc 36 (s_iadd 37)))
 (znd pc 38
 (zlf pc 37 (s_istore 2 38))
 (zlf pc 38 (s_iload 3 39)))))
 (znd pc 47
 (znd pc 43
 (znd pc 40
 (zlf pc 39 (s_iload 2 40))
 (zlf pc 40 (s_cI zpS 19 2 [] zx0 43)))
 (znd pc 44
 (zlf pc 43 (s_istore 3 44))
 (zlf pc 44 (s_iinc 5 1 47))))
 (znd pc 53
 (znd pc 50
 (zlf pc 47 (s_goto 17))
 (zlf pc 50 (s_iinc 4 1 53)))
 (znd pc 56
 (zlf pc 53 (s_goto 8))
 (znd pc 57
 (zlf pc 56 (s_iload 3 57))
 (zlf pc 57 (s_rI)))))))
theorem zm_X6_peakOf (G : Nat × Nat) (pc : Nat) : zMon (zc_X6_peakOf G pc) := (mo_d (mo_d (mo_d (mo_d (mo_d (mo_l (mo_ic _ _)) (mo_l (mo_istore _ _))) (mo_d (mo_l (mo_ic _ _)) (mo_l (mo_istore _ _)))) (mo_d (mo_d (mo_l (mo_ic _ _)) (mo_l (mo_istore _ _))) (mo_d (mo_l (mo_iload _ _)) (mo_l (mo_ic _ _))))) (mo_d (mo_d (mo_d (mo_l (mo_cmpge _ _)) (mo_l (mo_ic _ _))) (mo_d (mo_l (mo_istore _ _)) (mo_l (mo_iload _ _)))) (mo_d (mo_d (mo_l (mo_ic _ _)) (mo_l (mo_cmpge _ _))) (mo_d (mo_l (mo_iload _ _)) (mo_d (mo_l (mo_aload _ _)) (mo_l (mo_iload _ _))))))) (mo_d (mo_d (mo_d (mo_d (mo_l (mo_cI _ _ _ _ (zPre_V _) zHm_0)) (mo_l (mo_iload _ _))) (mo_d (mo_l (mo_isub _)) (mo_l (mo_iload _ _)))) (mo_d (mo_d (mo_l (mo_cI _ _ _ _ zPre_S zHm_0)) (mo_l (mo_iadd _))) (mo_d (mo_l (mo_istore _ _)) (mo_l (mo_iload _ _))))) (mo_d (mo_d (mo_d (mo_l (mo_iload _ _)) (mo_l (mo_cI _ _ _ _ zPre_S zHm_0))) (mo_d (mo_l (mo_istore _ _)) (mo_l (mo_iinc _ _ _)))) (mo_d (mo_d (mo_l (mo_goto _)) (mo_l (mo_iinc _ _ _))) (mo_d (mo_l (mo_goto _)) (mo_d (mo_l (mo_iload _ _)) (mo_l (mo_rI))))))))
def zc_X0_peak (G : Nat × Nat) : Nat → zSem := fun pc =>
 znd pc 5
 (znd pc 1
 (zlf pc 0 (s_aload 0 1))
 (znd pc 4
 (zlf pc 1 (s_gR 1 4 4))
 (zlf pc 4 (s_aload 0 5))))
 (znd pc 8
 (zlf pc 5 (s_cI (zpV 1) 161 1 [zU, zU] zx0 8))
 (znd pc 11
 (zlf pc 8 (s_cI zpS 162 2 [zU, zU, zU, zU] zx0 11))
 (zlf pc 11 (s_rI))))
theorem zm_X0_peak (G : Nat × Nat) (pc : Nat) : zMon (zc_X0_peak G pc) := (mo_d (mo_d (mo_l (mo_aload _ _)) (mo_d (mo_l (mo_gR _ _ _)) (mo_l (mo_aload _ _)))) (mo_d (mo_l (mo_cI _ _ _ _ (zPre_V _) zHm_0)) (mo_d (mo_l (mo_cI _ _ _ _ zPre_S zHm_0)) (mo_l (mo_rI)))))
def zc_X9_jointFor (G : Nat × Nat) : Nat → zSem := fun pc =>
 znd pc 11
 (znd pc 5
 (znd pc 1
 (zlf pc 0 (s_aload 0 1))
 (znd pc 4
 (zlf pc 1 (s_gI 10 6 4))
 (zlf pc 4 (s_iload 1 5))))
 (znd pc 9
 (znd pc 8
 (zlf pc 5 (s_cmple 10 8))
 (zlf pc 8 (s_ic 1 9)))
 (znd pc 10
 (zlf pc 9 (s_rI))
 (zlf pc 10 (s_aload 0 11)))))
 (znd pc 18
 (znd pc 14
 (zlf pc 11 (s_gI 10 7 14))
 (znd pc 15
 (zlf pc 14 (s_iload 1 15))
 (zlf pc 15 (s_cmpge 22 18))))
 (znd pc 22
 (znd pc 19
 (zlf pc 18 (s_ic 2 19))
 (zlf pc 19 (s_goto 23)))
 (znd pc 23
 (zlf pc 22 (s_ic 0 23))
 (zlf pc 23 (s_rI)))))
theorem zm_X9_jointFor (G : Nat × Nat) (pc : Nat) : zMon (zc_X9_jointFor G pc) := (mo_d (mo_d (mo_d (mo_l (mo_aload _ _)) (mo_d (mo_l (mo_gI _ _ _)) (mo_l (mo_iload _ _)))) (mo_d (mo_d (mo_l (mo_cmple _ _)) (mo_l (mo_ic _ _))) (mo_d (mo_l (mo_rI)) (mo_l (mo_aload _ _))))) (mo_d (mo_d (mo_l (mo_gI _ _ _)) (mo_d (mo_l (mo_iload _ _)) (mo_l (mo_cmpge _ _)))) (mo_d (mo_d (mo_l (mo_ic _ _)) (mo_l (mo_goto _))) (mo_d (mo_l (mo_ic _ _)) (mo_l (mo_rI))))))
def zc_X9_join (G : Nat × Nat) : Nat → zSem := fun pc =>
 znd pc 20
 (znd pc 9
 (znd pc 2
 (znd pc 1
 (zlf pc 0 (s_aload 0 1))
 (zlf pc 1 (s_aload 1 2)))
 (znd pc 5
 (zlf pc 2 (s_gR 7 1 5))
 (znd pc 6
 (zlf pc 5 (s_aload 0 6))
 (zlf pc 6 (s_gI 10 0 9)))))
 (znd pc 15
 (znd pc 12
 (zlf pc 9 (s_cI (zpV 9) 54 2 [] zx0 12))
 (zlf pc 12 (s_pI 10 6 15)))
 (znd pc 16
 (zlf pc 15 (s_aload 0 16))
 (znd pc 17
 (zlf pc 16 (s_aload 1 17))
 (zlf pc 17 (s_gR 7 2 20))))))
 (znd pc 31
 (znd pc 24
 (znd pc 21
 (zlf pc 20 (s_aload 0 21))
 (zlf pc 21 (s_gI 10 0 24)))
 (znd pc 27
 (zlf pc 24 (s_cI (zpV 9) 54 2 [] zx0 27))
 (znd pc 30
 (zlf pc 27 (s_pI 10 7 30))
 (zlf pc 30 (s_aload 0 31)))))
 (znd pc 33
 (znd pc 32
 (zlf pc 31 (s_aload 0 32))
 (zlf pc 32 (s_iload 2 33)))
 (znd pc 36
 (zlf pc 33 (s_cI (zpV 10) 164 2 [] zx0 36))
 (znd pc 39
 (zlf pc 36 (s_pI 10 3 39))
 (zlf pc 39 (s_rV))))))
theorem zm_X9_join (G : Nat × Nat) (pc : Nat) : zMon (zc_X9_join G pc) := (mo_d (mo_d (mo_d (mo_d (mo_l (mo_aload _ _)) (mo_l (mo_aload _ _))) (mo_d (mo_l (mo_gR _ _ _)) (mo_d (mo_l (mo_aload _ _)) (mo_l (mo_gI _ _ _))))) (mo_d (mo_d (mo_l (mo_cI _ _ _ _ (zPre_V _) zHm_0)) (mo_l (mo_pI _ _ _))) (mo_d (mo_l (mo_aload _ _)) (mo_d (mo_l (mo_aload _ _)) (mo_l (mo_gR _ _ _)))))) (mo_d (mo_d (mo_d (mo_l (mo_aload _ _)) (mo_l (mo_gI _ _ _))) (mo_d (mo_l (mo_cI _ _ _ _ (zPre_V _) zHm_0)) (mo_d (mo_l (mo_pI _ _ _)) (mo_l (mo_aload _ _))))) (mo_d (mo_d (mo_l (mo_aload _ _)) (mo_l (mo_iload _ _))) (mo_d (mo_l (mo_cI _ _ _ _ (zPre_V _) zHm_0)) (mo_d (mo_l (mo_pI _ _ _)) (mo_l (mo_rV)))))))
def zc_X0_goThrough (G : Nat × Nat) : Nat → zSem := fun pc =>
 znd pc 31
 (znd pc 16
 (znd pc 8
 (znd pc 4
 (znd pc 1
 (zlf pc 0 (s_aload 0 1))
 (zlf pc 1 (s_gR 1 4 4)))
 (znd pc 5
 (zlf pc 4 (s_aload 1 5))
 (zlf pc 5 (s_gR 7 0 8))))
 (znd pc 12
 (znd pc 11
 (zlf pc 8 (s_cV (zpV 9) 160 2 [zU] zx0 11))
 (zlf pc 11 (s_aload 0 12)))
 (znd pc 13
 (zlf pc 12 (s_ic 1 13))
 (zlf pc 13 (s_pZ 1 0 16)))))
 (znd pc 22
 (znd pc 20
 (znd pc 17
 (zlf pc 16 (s_aload 0 17))
 (zlf pc 17 (s_cI (zpV 1) 163 1 [] zx0 20)))
 (znd pc 21
 (zlf pc 20 (s_istore 2 21))
 (zlf pc 21 (s_ic 0 22))))
 (znd pc 24
 (znd pc 23
 (zlf pc 22 (s_istore 3 23))
 (zlf pc 23 (s_iload 3 24)))
 (znd pc 25
 (zlf pc 24 (s_aload 0 25))
 (znd pc 28
 (zlf pc 25 (s_gR 1 3 28))
 (zlf pc 28 (s_cI (zpV 0) 16 1 [] zx0 31)))))))
 (znd pc 52
 (znd pc 39
 (znd pc 35
 (znd pc 34
 (zlf pc 31 (s_cmpge 68 34))
 (zlf pc 34 (s_aload 0 35)))
 (znd pc 38
 (zlf pc 35 (s_gR 1 3 38))
 (zlf pc 38 (s_iload 3 39))))
 (znd pc 45
 (znd pc 42
 (zlf pc 39 (s_cR (zpV 0) 44 2 [] zx0 42))
 (zlf pc 42 (s_cast 10 45)))
 (znd pc 47
 (zlf pc 45 (s_astore 4 47))
 (znd pc 49
 (zlf pc 47 (s_aload 4 49))
 (zlf pc 49 (s_cI (zpV 10) 148 1 [] zx0 52))))))
 (znd pc 59
 (znd pc 57
 (znd pc 55
 (zlf pc 52 (s_ifeq 62 55))
 (zlf pc 55 (s_aload 4 57)))
 (znd pc 58
 (zlf pc 57 (s_aload 1 58))
 (zlf pc 58 (s_iload 2 59))))
 (znd pc 65
 (znd pc 62
 (zlf pc 59 (s_cV (zpV 10) 165 3 [] zx0 62))
 (zlf pc 62 (s_iinc 3 1 65)))
 (znd pc 68
 (zlf pc 65 (s_goto 23))
 (znd pc 69
 (zlf pc 68 (s_iload 2 69))
 (zlf pc 69 (s_rI)))))))
theorem zm_X0_goThrough (G : Nat × Nat) (pc : Nat) : zMon (zc_X0_goThrough G pc) := (mo_d (mo_d (mo_d (mo_d (mo_d (mo_l (mo_aload _ _)) (mo_l (mo_gR _ _ _))) (mo_d (mo_l (mo_aload _ _)) (mo_l (mo_gR _ _ _)))) (mo_d (mo_d (mo_l (mo_cV _ _ _ _ (zPre_V _) zHm_0)) (mo_l (mo_aload _ _))) (mo_d (mo_l (mo_ic _ _)) (mo_l (mo_pZ _ _ _))))) (mo_d (mo_d (mo_d (mo_l (mo_aload _ _)) (mo_l (mo_cI _ _ _ _ (zPre_V _) zHm_0))) (mo_d (mo_l (mo_istore _ _)) (mo_l (mo_ic _ _)))) (mo_d (mo_d (mo_l (mo_istore _ _)) (mo_l (mo_iload _ _))) (mo_d (mo_l (mo_aload _ _)) (mo_d (mo_l (mo_gR _ _ _)) (mo_l (mo_cI _ _ _ _ (zPre_V _) zHm_0))))))) (mo_d (mo_d (mo_d (mo_d (mo_l (mo_cmpge _ _)) (mo_l (mo_aload _ _))) (mo_d (mo_l (mo_gR _ _ _)) (mo_l (mo_iload _ _)))) (mo_d (mo_d (mo_l (mo_cR _ _ _ _ (zPre_V _) zHm_0)) (mo_l (mo_cast _ _))) (mo_d (mo_l (mo_astore _ _)) (mo_d (mo_l (mo_aload _ _)) (mo_l (mo_cI _ _ _ _ (zPre_V _) zHm_0)))))) (mo_d (mo_d (mo_d (mo_l (mo_ifeq _ _)) (mo_l (mo_aload _ _))) (mo_d (mo_l (mo_aload _ _)) (mo_l (mo_iload _ _)))) (mo_d (mo_d (mo_l (mo_cV _ _ _ _ (zPre_V _) zHm_0)) (mo_l (mo_iinc _ _ _))) (mo_d (mo_l (mo_goto _)) (mo_d (mo_l (mo_iload _ _)) (mo_l (mo_rI))))))))
def zc_X11_solder (G : Nat × Nat) : Nat → zSem := fun pc =>
 znd pc 14
 (znd pc 6
 (znd pc 2
 (znd pc 1
 (zlf pc 0 (s_aload 0 1))
 (zlf pc 1 (s_iload 1 2)))
 (znd pc 5
 (zlf pc 2 (s_cR (zpV 12) 146 2 [] zx0 5))
 (zlf pc 5 (s_astore 2 6))))
 (znd pc 10
 (znd pc 7
 (zlf pc 6 (s_aload 2 7))
 (zlf pc 7 (s_gI 1 0 10)))
 (znd pc 13
 (zlf pc 10 (s_ifne 17 13))
 (zlf pc 13 (s_ic 1 14)))))
 (znd pc 22
 (znd pc 18
 (znd pc 17
 (zlf pc 14 (s_goto 18))
 (zlf pc 17 (s_ic 0 18)))
 (znd pc 21
 (zlf pc 18 (s_cV zpS 17 1 [] zx0 21))
 (zlf pc 21 (s_aload 2 22))))
 (znd pc 26
 (znd pc 23
 (zlf pc 22 (s_aload 0 23))
 (zlf pc 23 (s_gR 12 3 26)))
 (znd pc 29
 (zlf pc 26 (s_cI (zpV 1) 166 2 [zU, zU, zU] zx0 29))
 (zlf pc 29 (s_rI)))))
theorem zm_X11_solder (G : Nat × Nat) (pc : Nat) : zMon (zc_X11_solder G pc) := (mo_d (mo_d (mo_d (mo_d (mo_l (mo_aload _ _)) (mo_l (mo_iload _ _))) (mo_d (mo_l (mo_cR _ _ _ _ (zPre_V _) zHm_0)) (mo_l (mo_astore _ _)))) (mo_d (mo_d (mo_l (mo_aload _ _)) (mo_l (mo_gI _ _ _))) (mo_d (mo_l (mo_ifne _ _)) (mo_l (mo_ic _ _))))) (mo_d (mo_d (mo_d (mo_l (mo_goto _)) (mo_l (mo_ic _ _))) (mo_d (mo_l (mo_cV _ _ _ _ zPre_S zHm_0)) (mo_l (mo_aload _ _)))) (mo_d (mo_d (mo_l (mo_aload _ _)) (mo_l (mo_gR _ _ _))) (mo_d (mo_l (mo_cI _ _ _ _ (zPre_V _) zHm_0)) (mo_l (mo_rI))))))
def zc_L_solder (G : Nat × Nat) : Nat → zSem := fun pc =>
 znd pc 9
 (znd pc 3
 (znd pc 1
 (zlf pc 0 (s_aload 2 1))
 (znd pc 2
 (zlf pc 1 (s_ic 0 2))
 (zlf pc 2 (s_aload 0 3))))
 (znd pc 7
 (znd pc 4
 (zlf pc 3 (s_iload 1 4))
 (zlf pc 4 (s_cI (zpV 12) 167 2 [zU] (zxc 3 [(0, 13), (2, 16)]) 7)))
 (znd pc 8
 (zlf pc 7 (s_i2l 8))
 (zlf pc 8 (s_last 9)))))
 (znd pc 16
 (znd pc 13
 (zlf pc 9 (s_goto 18))
 (znd pc 14
 (zlf pc 13 (s_ic 1 14))
 (zlf pc 14 (s_rI))))
 (znd pc 18
 (znd pc 17
 (zlf pc 16 (s_ic 2 17))
 (zlf pc 17 (s_rI)))
 (znd pc 19
 (zlf pc 18 (s_ic 0 19))
 (zlf pc 19 (s_rI)))))
theorem zm_L_solder (G : Nat × Nat) (pc : Nat) : zMon (zc_L_solder G pc) := (mo_d (mo_d (mo_d (mo_l (mo_aload _ _)) (mo_d (mo_l (mo_ic _ _)) (mo_l (mo_aload _ _)))) (mo_d (mo_d (mo_l (mo_iload _ _)) (mo_l (mo_cI _ _ _ _ (zPre_V _) (zHm_c _ _)))) (mo_d (mo_l (mo_i2l _)) (mo_l (mo_last _))))) (mo_d (mo_d (mo_l (mo_goto _)) (mo_d (mo_l (mo_ic _ _)) (mo_l (mo_rI)))) (mo_d (mo_d (mo_l (mo_ic _ _)) (mo_l (mo_rI))) (mo_d (mo_l (mo_ic _ _)) (mo_l (mo_rI))))))
def zc_X12_down (G : Nat × Nat) : Nat → zSem := fun pc =>
 znd pc 7
 (znd pc 3
 (znd pc 1
 (zlf pc 0 (s_iload 0 1))
 (znd pc 2
 (zlf pc 1 (s_iload 1 2))
 (zlf pc 2 (s_idiv 3))))
 (znd pc 5
 (znd pc 4
 (zlf pc 3 (s_istore 2 4))
 (zlf pc 4 (s_iload 2 5)))
 (znd pc 6
 (zlf pc 5 (s_iload 1 6))
 (zlf pc 6 (s_imul 7)))))
 (znd pc 13
 (znd pc 11
 (znd pc 8
 (zlf pc 7 (s_iload 0 8))
 (zlf pc 8 (s_cmple 17 11)))
 (znd pc 12
 (zlf pc 11 (s_iload 2 12))
 (zlf pc 12 (s_ic 1 13))))
 (znd pc 17
 (znd pc 14
 (zlf pc 13 (s_isub 14))
 (zlf pc 14 (s_goto 18)))
 (znd pc 18
 (zlf pc 17 (s_iload 2 18))
 (zlf pc 18 (s_rI)))))
theorem zm_X12_down (G : Nat × Nat) (pc : Nat) : zMon (zc_X12_down G pc) := (mo_d (mo_d (mo_d (mo_l (mo_iload _ _)) (mo_d (mo_l (mo_iload _ _)) (mo_l (mo_idiv _)))) (mo_d (mo_d (mo_l (mo_istore _ _)) (mo_l (mo_iload _ _))) (mo_d (mo_l (mo_iload _ _)) (mo_l (mo_imul _))))) (mo_d (mo_d (mo_d (mo_l (mo_iload _ _)) (mo_l (mo_cmple _ _))) (mo_d (mo_l (mo_iload _ _)) (mo_l (mo_ic _ _)))) (mo_d (mo_d (mo_l (mo_isub _)) (mo_l (mo_goto _))) (mo_d (mo_l (mo_iload _ _)) (mo_l (mo_rI))))))
def zc_X12_peakOf (G : Nat × Nat) : Nat → zSem := fun pc =>
 znd pc 46
 (znd pc 20
 (znd pc 8
 (znd pc 4
 (znd pc 1
 (zlf pc 0 (s_ic 2 1))
 (znd pc 2
 (zlf pc 1 (s_istore 2 2))
 (zlf pc 2 (s_ic 8 4))))
 (znd pc 6
 (znd pc 5
 (zlf pc 4 (s_iload 1 5))
 (zlf pc 5 (s_imul 6)))
 (znd pc 7
 (zlf pc 6 (s_istore 3 7))
 (zlf pc 7 (s_iload 3 8)))))
 (znd pc 14
 (znd pc 11
 (znd pc 10
 (zlf pc 8 (s_ic 8 10))
 (zlf pc 10 (s_iload 1 11)))
 (znd pc 12
 (zlf pc 11 (s_imul 12))
 (zlf pc 12 (s_ic 8 14))))
 (znd pc 18
 (znd pc 15
 (zlf pc 14 (s_iadd 15))
 (zlf pc 15 (s_cmpge 42 18)))
 (znd pc 19
 (zlf pc 18 (s_iload 2 19))
 (zlf pc 19 (s_aload 0 20))))))
 (znd pc 33
 (znd pc 25
 (znd pc 23
 (zlf pc 20 (s_gR 13 38 23))
 (znd pc 24
 (zlf pc 23 (s_iload 3 24))
 (zlf pc 24 (s_iald 25))))
 (znd pc 29
 (znd pc 26
 (zlf pc 25 (s_ic (-1) 26))
 (zlf pc 26 (s_cmpne 33 29)))
 (znd pc 30
 (zlf pc 29 (s_ic 0 30))
 (zlf pc 30 (s_goto 34)))))
 (znd pc 39
 (znd pc 35
 (znd pc 34
 (zlf pc 33 (s_ic 1 34))
 (zlf pc 34 (s_iadd 35)))
 (znd pc 36
 (zlf pc 35 (s_istore 2 36))
 (zlf pc 36 (s_iinc 3 1 39))))
 (znd pc 44
 (znd pc 42
 (zlf pc 39 (s_goto 7))
 (zlf pc 42 (s_ic 25 44)))
 (znd pc 45
 (zlf pc 44 (s_istore 3 45))
 (zlf pc 45 (s_ic (-1) 46)))))))
 (znd pc 70
 (znd pc 59
 (znd pc 51
 (znd pc 48
 (zlf pc 46 (s_istore 4 48))
 (znd pc 49
 (zlf pc 48 (s_ic 0 49))
 (zlf pc 49 (s_istore 5 51))))
 (znd pc 55
 (znd pc 53
 (zlf pc 51 (s_iload 5 53))
 (zlf pc 53 (s_ic 12 55)))
 (znd pc 58
 (zlf pc 55 (s_cmpge 96 58))
 (zlf pc 58 (s_iload 3 59)))))
 (znd pc 66
 (znd pc 63
 (znd pc 60
 (zlf pc 59 (s_aload 0 60))
 (zlf pc 60 (s_gR 13 30 63)))
 (znd pc 65
 (zlf pc 63 (s_iload 5 65))
 (zlf pc 65 (s_ic 3 66))))
 (znd pc 68
 (znd pc 67
 (zlf pc 66 (s_idiv 67))
 (zlf pc 67 (s_iald 68)))
 (znd pc 69
 (zlf pc 68 (s_iload 3 69))
 (zlf pc 69 (s_isub 70))))))
 (znd pc 82
 (znd pc 75
 (znd pc 71
 (zlf pc 70 (s_iload 2 71))
 (znd pc 74
 (zlf pc 71 (s_cI zpS 169 2 [zU] zx0 74))
 (zlf pc 74 (s_iadd 75))))
 (znd pc 77
 (znd pc 76
 (zlf pc 75 (s_istore 3 76))
 (zlf pc 76 (s_iload 3 77)))
 (znd pc 79
 (zlf pc 77 (s_iload 4 79))
 (zlf pc 79 (s_cmple 86 82)))))
 (znd pc 90
 (znd pc 86
 (znd pc 83
 (zlf pc 82 (s_iload 3 83))
 (zlf pc 83 (s_goto 88)))
 (znd pc 88
 (zlf pc 86 (s_iload 4 88))
 (zlf pc 88 (s_istore 4 90))))
 (znd pc 96
 (znd pc 93
 (zlf pc 90 (s_iinc 5 1 93))
 (zlf pc 93 (s_goto 51)))
 (znd pc 98
 (zlf pc 96 (s_iload 4 98))
 (zlf pc 98 (s_rI)))))))
theorem zm_X12_peakOf (G : Nat × Nat) (pc : Nat) : zMon (zc_X12_peakOf G pc) := (mo_d (mo_d (mo_d (mo_d (mo_d (mo_l (mo_ic _ _)) (mo_d (mo_l (mo_istore _ _)) (mo_l (mo_ic _ _)))) (mo_d (mo_d (mo_l (mo_iload _ _)) (mo_l (mo_imul _))) (mo_d (mo_l (mo_istore _ _)) (mo_l (mo_iload _ _))))) (mo_d (mo_d (mo_d (mo_l (mo_ic _ _)) (mo_l (mo_iload _ _))) (mo_d (mo_l (mo_imul _)) (mo_l (mo_ic _ _)))) (mo_d (mo_d (mo_l (mo_iadd _)) (mo_l (mo_cmpge _ _))) (mo_d (mo_l (mo_iload _ _)) (mo_l (mo_aload _ _)))))) (mo_d (mo_d (mo_d (mo_l (mo_gR _ _ _)) (mo_d (mo_l (mo_iload _ _)) (mo_l (mo_iald _)))) (mo_d (mo_d (mo_l (mo_ic _ _)) (mo_l (mo_cmpne _ _))) (mo_d (mo_l (mo_ic _ _)) (mo_l (mo_goto _))))) (mo_d (mo_d (mo_d (mo_l (mo_ic _ _)) (mo_l (mo_iadd _))) (mo_d (mo_l (mo_istore _ _)) (mo_l (mo_iinc _ _ _)))) (mo_d (mo_d (mo_l (mo_goto _)) (mo_l (mo_ic _ _))) (mo_d (mo_l (mo_istore _ _)) (mo_l (mo_ic _ _))))))) (mo_d (mo_d (mo_d (mo_d (mo_l (mo_istore _ _)) (mo_d (mo_l (mo_ic _ _)) (mo_l (mo_istore _ _)))) (mo_d (mo_d (mo_l (mo_iload _ _)) (mo_l (mo_ic _ _))) (mo_d (mo_l (mo_cmpge _ _)) (mo_l (mo_iload _ _))))) (mo_d (mo_d (mo_d (mo_l (mo_aload _ _)) (mo_l (mo_gR _ _ _))) (mo_d (mo_l (mo_iload _ _)) (mo_l (mo_ic _ _)))) (mo_d (mo_d (mo_l (mo_idiv _)) (mo_l (mo_iald _))) (mo_d (mo_l (mo_iload _ _)) (mo_l (mo_isub _)))))) (mo_d (mo_d (mo_d (mo_l (mo_iload _ _)) (mo_d (mo_l (mo_cI _ _ _ _ zPre_S zHm_0)) (mo_l (mo_iadd _)))) (mo_d (mo_d (mo_l (mo_istore _ _)) (mo_l (mo_iload _ _))) (mo_d (mo_l (mo_iload _ _)) (mo_l (mo_cmple _ _))))) (mo_d (mo_d (mo_d (mo_l (mo_iload _ _)) (mo_l (mo_goto _))) (mo_d (mo_l (mo_iload _ _)) (mo_l (mo_istore _ _)))) (mo_d (mo_d (mo_l (mo_iinc _ _ _)) (mo_l (mo_goto _))) (mo_d (mo_l (mo_iload _ _)) (mo_l (mo_rI))))))))
def zc_X12_solder (G : Nat × Nat) : Nat → zSem := fun pc =>
 znd pc 70
 (znd pc 37
 (znd pc 18
 (znd pc 9
 (znd pc 2
 (znd pc 1
 (zlf pc 0 (s_aload 0 1))
 (zlf pc 1 (s_aload 0 2)))
 (znd pc 3
 (zlf pc 2 (s_iload 1 3))
 (znd pc 6
 (zlf pc 3 (s_cI (zpV 13) 153 2 [] zx0 6))
 (zlf pc 6 (s_ifne 13 9)))))
 (znd pc 13
 (znd pc 10
 (zlf pc 9 (s_ic 1 10))
 (zlf pc 10 (s_goto 27)))
 (znd pc 14
 (zlf pc 13 (s_aload 0 14))
 (znd pc 17
 (zlf pc 14 (s_gR 13 35 17))
 (zlf pc 17 (s_iload 1 18))))))
 (znd pc 27
 (znd pc 22
 (znd pc 19
 (zlf pc 18 (s_zald 19))
 (zlf pc 19 (s_ifeq 26 22)))
 (znd pc 23
 (zlf pc 22 (s_ic 2 23))
 (znd pc 26
 (zlf pc 23 (s_goto 27))
 (zlf pc 26 (s_ic 0 27)))))
 (znd pc 34
 (znd pc 30
 (zlf pc 27 (s_cI (zpV 13) 33 2 [] zx0 30))
 (znd pc 33
 (zlf pc 30 (s_ifeq 35 33))
 (zlf pc 33 (s_ic 0 34))))
 (znd pc 35
 (zlf pc 34 (s_rI))
 (znd pc 36
 (zlf pc 35 (s_aload 0 36))
 (zlf pc 36 (s_iload 1 37)))))))
 (znd pc 53
 (znd pc 46
 (znd pc 41
 (znd pc 40
 (zlf pc 37 (s_cI (zpV 13) 170 2 [zU, zU, zU, zU] zx0 40))
 (zlf pc 40 (s_istore 2 41)))
 (znd pc 42
 (zlf pc 41 (s_aload 0 42))
 (znd pc 45
 (zlf pc 42 (s_gR 13 35 45))
 (zlf pc 45 (s_iload 1 46)))))
 (znd pc 50
 (znd pc 47
 (zlf pc 46 (s_ic 1 47))
 (znd pc 48
 (zlf pc 47 (s_zast 48))
 (zlf pc 48 (s_ic 8 50))))
 (znd pc 51
 (zlf pc 50 (s_iload 1 51))
 (znd pc 52
 (zlf pc 51 (s_imul 52))
 (zlf pc 52 (s_istore 3 53))))))
 (znd pc 60
 (znd pc 56
 (znd pc 54
 (zlf pc 53 (s_iload 3 54))
 (zlf pc 54 (s_ic 8 56)))
 (znd pc 57
 (zlf pc 56 (s_iload 1 57))
 (znd pc 58
 (zlf pc 57 (s_imul 58))
 (zlf pc 58 (s_ic 8 60)))))
 (znd pc 65
 (znd pc 61
 (zlf pc 60 (s_iadd 61))
 (znd pc 64
 (zlf pc 61 (s_cmpge 142 64))
 (zlf pc 64 (s_aload 0 65))))
 (znd pc 68
 (zlf pc 65 (s_gR 13 38 68))
 (znd pc 69
 (zlf pc 68 (s_iload 3 69))
 (zlf pc 69 (s_iald 70))))))))
 (znd pc 107
 (znd pc 87
 (znd pc 79
 (znd pc 74
 (znd pc 71
 (zlf pc 70 (s_ic (-1) 71))
 (zlf pc 71 (s_cmpeq 136 74)))
 (znd pc 75
 (zlf pc 74 (s_aload 0 75))
 (znd pc 78
 (zlf pc 75 (s_gR 13 26 78))
 (zlf pc 78 (s_aload 0 79)))))
 (znd pc 83
 (znd pc 82
 (zlf pc 79 (s_gR 13 38 82))
 (zlf pc 82 (s_iload 3 83)))
 (znd pc 84
 (zlf pc 83 (s_iald 84))
 (znd pc 85
 (zlf pc 84 (s_iald 85))
 (zlf pc 85 (s_istore 4 87))))))
 (znd pc 96
 (znd pc 91
 (znd pc 88
 (zlf pc 87 (s_aload 0 88))
 (zlf pc 88 (s_gR 13 40 91)))
 (znd pc 92
 (zlf pc 91 (s_iload 3 92))
 (znd pc 93
 (zlf pc 92 (s_aload 0 93))
 (zlf pc 93 (s_gR 13 31 96)))))
 (znd pc 100
 (znd pc 98
 (zlf pc 96 (s_iload 4 98))
 (znd pc 99
 (zlf pc 98 (s_iald 99))
 (zlf pc 99 (s_iload 2 100))))
 (znd pc 103
 (zlf pc 100 (s_cmple 107 103))
 (znd pc 104
 (zlf pc 103 (s_ic 1 104))
 (zlf pc 104 (s_goto 123)))))))
 (znd pc 125
 (znd pc 115
 (znd pc 111
 (znd pc 108
 (zlf pc 107 (s_aload 0 108))
 (zlf pc 108 (s_gR 13 32 111)))
 (znd pc 113
 (zlf pc 111 (s_iload 4 113))
 (znd pc 114
 (zlf pc 113 (s_iald 114))
 (zlf pc 114 (s_iload 2 115)))))
 (znd pc 122
 (znd pc 118
 (zlf pc 115 (s_cmpge 122 118))
 (znd pc 119
 (zlf pc 118 (s_ic 2 119))
 (zlf pc 119 (s_goto 123))))
 (znd pc 123
 (zlf pc 122 (s_ic 0 123))
 (znd pc 124
 (zlf pc 123 (s_iast 124))
 (zlf pc 124 (s_aload 0 125))))))
 (znd pc 134
 (znd pc 129
 (znd pc 128
 (zlf pc 125 (s_gR 13 41 128))
 (zlf pc 128 (s_iload 3 129)))
 (znd pc 130
 (zlf pc 129 (s_aload 0 130))
 (znd pc 133
 (zlf pc 130 (s_gR 13 40 133))
 (zlf pc 133 (s_iload 3 134)))))
 (znd pc 139
 (znd pc 135
 (zlf pc 134 (s_iald 135))
 (znd pc 136
 (zlf pc 135 (s_iast 136))
 (zlf pc 136 (s_iinc 3 1 139))))
 (znd pc 142
 (zlf pc 139 (s_goto 53))
 (znd pc 143
 (zlf pc 142 (s_iload 2 143))
 (zlf pc 143 (s_rI))))))))
theorem zm_X12_solder (G : Nat × Nat) (pc : Nat) : zMon (zc_X12_solder G pc) := (mo_d (mo_d (mo_d (mo_d (mo_d (mo_d (mo_l (mo_aload _ _)) (mo_l (mo_aload _ _))) (mo_d (mo_l (mo_iload _ _)) (mo_d (mo_l (mo_cI _ _ _ _ (zPre_V _) zHm_0)) (mo_l (mo_ifne _ _))))) (mo_d (mo_d (mo_l (mo_ic _ _)) (mo_l (mo_goto _))) (mo_d (mo_l (mo_aload _ _)) (mo_d (mo_l (mo_gR _ _ _)) (mo_l (mo_iload _ _)))))) (mo_d (mo_d (mo_d (mo_l (mo_zald _)) (mo_l (mo_ifeq _ _))) (mo_d (mo_l (mo_ic _ _)) (mo_d (mo_l (mo_goto _)) (mo_l (mo_ic _ _))))) (mo_d (mo_d (mo_l (mo_cI _ _ _ _ (zPre_V _) zHm_0)) (mo_d (mo_l (mo_ifeq _ _)) (mo_l (mo_ic _ _)))) (mo_d (mo_l (mo_rI)) (mo_d (mo_l (mo_aload _ _)) (mo_l (mo_iload _ _))))))) (mo_d (mo_d (mo_d (mo_d (mo_l (mo_cI _ _ _ _ (zPre_V _) zHm_0)) (mo_l (mo_istore _ _))) (mo_d (mo_l (mo_aload _ _)) (mo_d (mo_l (mo_gR _ _ _)) (mo_l (mo_iload _ _))))) (mo_d (mo_d (mo_l (mo_ic _ _)) (mo_d (mo_l (mo_zast _)) (mo_l (mo_ic _ _)))) (mo_d (mo_l (mo_iload _ _)) (mo_d (mo_l (mo_imul _)) (mo_l (mo_istore _ _)))))) (mo_d (mo_d (mo_d (mo_l (mo_iload _ _)) (mo_l (mo_ic _ _))) (mo_d (mo_l (mo_iload _ _)) (mo_d (mo_l (mo_imul _)) (mo_l (mo_ic _ _))))) (mo_d (mo_d (mo_l (mo_iadd _)) (mo_d (mo_l (mo_cmpge _ _)) (mo_l (mo_aload _ _)))) (mo_d (mo_l (mo_gR _ _ _)) (mo_d (mo_l (mo_iload _ _)) (mo_l (mo_iald _)))))))) (mo_d (mo_d (mo_d (mo_d (mo_d (mo_l (mo_ic _ _)) (mo_l (mo_cmpeq _ _))) (mo_d (mo_l (mo_aload _ _)) (mo_d (mo_l (mo_gR _ _ _)) (mo_l (mo_aload _ _))))) (mo_d (mo_d (mo_l (mo_gR _ _ _)) (mo_l (mo_iload _ _))) (mo_d (mo_l (mo_iald _)) (mo_d (mo_l (mo_iald _)) (mo_l (mo_istore _ _)))))) (mo_d (mo_d (mo_d (mo_l (mo_aload _ _)) (mo_l (mo_gR _ _ _))) (mo_d (mo_l (mo_iload _ _)) (mo_d (mo_l (mo_aload _ _)) (mo_l (mo_gR _ _ _))))) (mo_d (mo_d (mo_l (mo_iload _ _)) (mo_d (mo_l (mo_iald _)) (mo_l (mo_iload _ _)))) (mo_d (mo_l (mo_cmple _ _)) (mo_d (mo_l (mo_ic _ _)) (mo_l (mo_goto _))))))) (mo_d (mo_d (mo_d (mo_d (mo_l (mo_aload _ _)) (mo_l (mo_gR _ _ _))) (mo_d (mo_l (mo_iload _ _)) (mo_d (mo_l (mo_iald _)) (mo_l (mo_iload _ _))))) (mo_d (mo_d (mo_l (mo_cmpge _ _)) (mo_d (mo_l (mo_ic _ _)) (mo_l (mo_goto _)))) (mo_d (mo_l (mo_ic _ _)) (mo_d (mo_l (mo_iast _)) (mo_l (mo_aload _ _)))))) (mo_d (mo_d (mo_d (mo_l (mo_gR _ _ _)) (mo_l (mo_iload _ _))) (mo_d (mo_l (mo_aload _ _)) (mo_d (mo_l (mo_gR _ _ _)) (mo_l (mo_iload _ _))))) (mo_d (mo_d (mo_l (mo_iald _)) (mo_d (mo_l (mo_iast _)) (mo_l (mo_iinc _ _ _)))) (mo_d (mo_l (mo_goto _)) (mo_d (mo_l (mo_iload _ _)) (mo_l (mo_rI)))))))))
def zc_X11_flaw (G : Nat × Nat) : Nat → zSem := fun pc =>
 znd pc 27
 (znd pc 11
 (znd pc 5
 (znd pc 1
 (zlf pc 0 (s_aload 0 1))
 (znd pc 2
 (zlf pc 1 (s_iload 1 2))
 (zlf pc 2 (s_cR (zpV 12) 146 2 [] zx0 5))))
 (znd pc 7
 (znd pc 6
 (zlf pc 5 (s_astore 3 6))
 (zlf pc 6 (s_aload 3 7)))
 (znd pc 8
 (zlf pc 7 (s_iload 2 8))
 (zlf pc 8 (s_cR (zpV 1) 147 2 [] zx0 11)))))
 (znd pc 17
 (znd pc 13
 (zlf pc 11 (s_astore 4 13))
 (znd pc 14
 (zlf pc 13 (s_aload 3 14))
 (zlf pc 14 (s_gI 1 0 17))))
 (znd pc 21
 (znd pc 20
 (zlf pc 17 (s_ifeq 39 20))
 (zlf pc 20 (s_aload 3 21)))
 (znd pc 24
 (zlf pc 21 (s_gI 1 2 24))
 (zlf pc 24 (s_ifne 39 27))))))
 (znd pc 43
 (znd pc 35
 (znd pc 29
 (zlf pc 27 (s_aload 4 29))
 (znd pc 32
 (zlf pc 29 (s_cI (zpV 10) 148 1 [] zx0 32))
 (zlf pc 32 (s_ifeq 39 35))))
 (znd pc 39
 (znd pc 36
 (zlf pc 35 (s_ic 1 36))
 (zlf pc 36 (s_goto 40)))
 (znd pc 40
 (zlf pc 39 (s_ic 0 40))
 (zlf pc 40 (s_cV zpS 17 1 [] zx0 43)))))
 (znd pc 49
 (znd pc 45
 (zlf pc 43 (s_aload 4 45))
 (znd pc 46
 (zlf pc 45 (s_ic 3 46))
 (zlf pc 46 (s_pI 10 3 49))))
 (znd pc 52
 (znd pc 51
 (zlf pc 49 (s_aload 4 51))
 (zlf pc 51 (s_ic 0 52)))
 (znd pc 55
 (zlf pc 52 (s_pZ 10 4 55))
 (zlf pc 55 (s_rV))))))
theorem zm_X11_flaw (G : Nat × Nat) (pc : Nat) : zMon (zc_X11_flaw G pc) := (mo_d (mo_d (mo_d (mo_d (mo_l (mo_aload _ _)) (mo_d (mo_l (mo_iload _ _)) (mo_l (mo_cR _ _ _ _ (zPre_V _) zHm_0)))) (mo_d (mo_d (mo_l (mo_astore _ _)) (mo_l (mo_aload _ _))) (mo_d (mo_l (mo_iload _ _)) (mo_l (mo_cR _ _ _ _ (zPre_V _) zHm_0))))) (mo_d (mo_d (mo_l (mo_astore _ _)) (mo_d (mo_l (mo_aload _ _)) (mo_l (mo_gI _ _ _)))) (mo_d (mo_d (mo_l (mo_ifeq _ _)) (mo_l (mo_aload _ _))) (mo_d (mo_l (mo_gI _ _ _)) (mo_l (mo_ifne _ _)))))) (mo_d (mo_d (mo_d (mo_l (mo_aload _ _)) (mo_d (mo_l (mo_cI _ _ _ _ (zPre_V _) zHm_0)) (mo_l (mo_ifeq _ _)))) (mo_d (mo_d (mo_l (mo_ic _ _)) (mo_l (mo_goto _))) (mo_d (mo_l (mo_ic _ _)) (mo_l (mo_cV _ _ _ _ zPre_S zHm_0))))) (mo_d (mo_d (mo_l (mo_aload _ _)) (mo_d (mo_l (mo_ic _ _)) (mo_l (mo_pI _ _ _)))) (mo_d (mo_d (mo_l (mo_aload _ _)) (mo_l (mo_ic _ _))) (mo_d (mo_l (mo_pZ _ _ _)) (mo_l (mo_rV)))))))
def zc_L_flaw (G : Nat × Nat) : Nat → zSem := fun pc =>
 znd pc 10
 (znd pc 2
 (znd pc 1
 (zlf pc 0 (s_aload 0 1))
 (zlf pc 1 (s_iload 1 2)))
 (znd pc 3
 (zlf pc 2 (s_iload 2 3))
 (znd pc 6
 (zlf pc 3 (s_cV (zpV 12) 172 3 [zU, zU] (zxc 3 [(0, 10), (2, 13)]) 6))
 (zlf pc 6 (s_goto 15)))))
 (znd pc 14
 (znd pc 11
 (zlf pc 10 (s_ic 1 11))
 (znd pc 13
 (zlf pc 11 (s_rI))
 (zlf pc 13 (s_ic 2 14))))
 (znd pc 15
 (zlf pc 14 (s_rI))
 (znd pc 16
 (zlf pc 15 (s_ic 0 16))
 (zlf pc 16 (s_rI)))))
theorem zm_L_flaw (G : Nat × Nat) (pc : Nat) : zMon (zc_L_flaw G pc) := (mo_d (mo_d (mo_d (mo_l (mo_aload _ _)) (mo_l (mo_iload _ _))) (mo_d (mo_l (mo_iload _ _)) (mo_d (mo_l (mo_cV _ _ _ _ (zPre_V _) (zHm_c _ _))) (mo_l (mo_goto _))))) (mo_d (mo_d (mo_l (mo_ic _ _)) (mo_d (mo_l (mo_rI)) (mo_l (mo_ic _ _)))) (mo_d (mo_l (mo_rI)) (mo_d (mo_l (mo_ic _ _)) (mo_l (mo_rI))))))
def zc_X12_flaw (G : Nat × Nat) : Nat → zSem := fun pc =>
 znd pc 55
 (znd pc 27
 (znd pc 15
 (znd pc 5
 (znd pc 1
 (zlf pc 0 (s_aload 0 1))
 (znd pc 2
 (zlf pc 1 (s_iload 1 2))
 (zlf pc 2 (s_cI (zpV 13) 153 2 [] zx0 5))))
 (znd pc 9
 (znd pc 8
 (zlf pc 5 (s_ifeq 19 8))
 (zlf pc 8 (s_iload 2 9)))
 (znd pc 12
 (zlf pc 9 (s_cI zpS 154 1 [] zx0 12))
 (zlf pc 12 (s_ifeq 19 15)))))
 (znd pc 21
 (znd pc 19
 (znd pc 16
 (zlf pc 15 (s_ic 1 16))
 (zlf pc 16 (s_goto 20)))
 (znd pc 20
 (zlf pc 19 (s_ic 0 20))
 (zlf pc 20 (s_istore 3 21))))
 (znd pc 23
 (znd pc 22
 (zlf pc 21 (s_aload 0 22))
 (zlf pc 22 (s_iload 3 23)))
 (znd pc 26
 (zlf pc 23 (s_ifne 30 26))
 (zlf pc 26 (s_ic 1 27))))))
 (znd pc 40
 (znd pc 34
 (znd pc 30
 (zlf pc 27 (s_goto 68))
 (znd pc 31
 (zlf pc 30 (s_aload 0 31))
 (zlf pc 31 (s_gR 13 35 34))))
 (znd pc 36
 (znd pc 35
 (zlf pc 34 (s_iload 1 35))
 (zlf pc 35 (s_zald 36)))
 (znd pc 39
 (zlf pc 36 (s_ifeq 63 39))
 (zlf pc 39 (s_aload 0 40)))))
 (znd pc 48
 (znd pc 44
 (znd pc 43
 (zlf pc 40 (s_gR 13 37 43))
 (zlf pc 43 (s_iload 1 44)))
 (znd pc 45
 (zlf pc 44 (s_zald 45))
 (zlf pc 45 (s_ifne 63 48))))
 (znd pc 52
 (znd pc 49
 (zlf pc 48 (s_aload 0 49))
 (zlf pc 49 (s_gR 13 38 52)))
 (znd pc 54
 (zlf pc 52 (s_ic 8 54))
 (zlf pc 54 (s_iload 1 55)))))))
 (znd pc 81
 (znd pc 64
 (znd pc 58
 (znd pc 56
 (zlf pc 55 (s_imul 56))
 (znd pc 57
 (zlf pc 56 (s_iload 2 57))
 (zlf pc 57 (s_iadd 58))))
 (znd pc 60
 (znd pc 59
 (zlf pc 58 (s_iald 59))
 (zlf pc 59 (s_ic (-1) 60)))
 (znd pc 63
 (zlf pc 60 (s_cmpne 67 63))
 (zlf pc 63 (s_ic 2 64)))))
 (znd pc 74
 (znd pc 68
 (znd pc 67
 (zlf pc 64 (s_goto 68))
 (zlf pc 67 (s_ic 0 68)))
 (znd pc 71
 (zlf pc 68 (s_cI (zpV 13) 33 2 [] zx0 71))
 (zlf pc 71 (s_ifne 98 74))))
 (znd pc 78
 (znd pc 75
 (zlf pc 74 (s_aload 0 75))
 (zlf pc 75 (s_gR 13 41 78)))
 (znd pc 80
 (zlf pc 78 (s_ic 8 80))
 (zlf pc 80 (s_iload 1 81))))))
 (znd pc 90
 (znd pc 84
 (znd pc 82
 (zlf pc 81 (s_imul 82))
 (znd pc 83
 (zlf pc 82 (s_iload 2 83))
 (zlf pc 83 (s_iadd 84))))
 (znd pc 86
 (znd pc 85
 (zlf pc 84 (s_ic 3 85))
 (zlf pc 85 (s_iast 86)))
 (znd pc 87
 (zlf pc 86 (s_aload 0 87))
 (zlf pc 87 (s_gR 13 42 90)))))
 (znd pc 95
 (znd pc 93
 (znd pc 92
 (zlf pc 90 (s_ic 8 92))
 (zlf pc 92 (s_iload 1 93)))
 (znd pc 94
 (zlf pc 93 (s_imul 94))
 (zlf pc 94 (s_iload 2 95))))
 (znd pc 97
 (znd pc 96
 (zlf pc 95 (s_iadd 96))
 (zlf pc 96 (s_ic 0 97)))
 (znd pc 98
 (zlf pc 97 (s_zast 98))
 (zlf pc 98 (s_rV)))))))
theorem zm_X12_flaw (G : Nat × Nat) (pc : Nat) : zMon (zc_X12_flaw G pc) := (mo_d (mo_d (mo_d (mo_d (mo_d (mo_l (mo_aload _ _)) (mo_d (mo_l (mo_iload _ _)) (mo_l (mo_cI _ _ _ _ (zPre_V _) zHm_0)))) (mo_d (mo_d (mo_l (mo_ifeq _ _)) (mo_l (mo_iload _ _))) (mo_d (mo_l (mo_cI _ _ _ _ zPre_S zHm_0)) (mo_l (mo_ifeq _ _))))) (mo_d (mo_d (mo_d (mo_l (mo_ic _ _)) (mo_l (mo_goto _))) (mo_d (mo_l (mo_ic _ _)) (mo_l (mo_istore _ _)))) (mo_d (mo_d (mo_l (mo_aload _ _)) (mo_l (mo_iload _ _))) (mo_d (mo_l (mo_ifne _ _)) (mo_l (mo_ic _ _)))))) (mo_d (mo_d (mo_d (mo_l (mo_goto _)) (mo_d (mo_l (mo_aload _ _)) (mo_l (mo_gR _ _ _)))) (mo_d (mo_d (mo_l (mo_iload _ _)) (mo_l (mo_zald _))) (mo_d (mo_l (mo_ifeq _ _)) (mo_l (mo_aload _ _))))) (mo_d (mo_d (mo_d (mo_l (mo_gR _ _ _)) (mo_l (mo_iload _ _))) (mo_d (mo_l (mo_zald _)) (mo_l (mo_ifne _ _)))) (mo_d (mo_d (mo_l (mo_aload _ _)) (mo_l (mo_gR _ _ _))) (mo_d (mo_l (mo_ic _ _)) (mo_l (mo_iload _ _))))))) (mo_d (mo_d (mo_d (mo_d (mo_l (mo_imul _)) (mo_d (mo_l (mo_iload _ _)) (mo_l (mo_iadd _)))) (mo_d (mo_d (mo_l (mo_iald _)) (mo_l (mo_ic _ _))) (mo_d (mo_l (mo_cmpne _ _)) (mo_l (mo_ic _ _))))) (mo_d (mo_d (mo_d (mo_l (mo_goto _)) (mo_l (mo_ic _ _))) (mo_d (mo_l (mo_cI _ _ _ _ (zPre_V _) zHm_0)) (mo_l (mo_ifne _ _)))) (mo_d (mo_d (mo_l (mo_aload _ _)) (mo_l (mo_gR _ _ _))) (mo_d (mo_l (mo_ic _ _)) (mo_l (mo_iload _ _)))))) (mo_d (mo_d (mo_d (mo_l (mo_imul _)) (mo_d (mo_l (mo_iload _ _)) (mo_l (mo_iadd _)))) (mo_d (mo_d (mo_l (mo_ic _ _)) (mo_l (mo_iast _))) (mo_d (mo_l (mo_aload _ _)) (mo_l (mo_gR _ _ _))))) (mo_d (mo_d (mo_d (mo_l (mo_ic _ _)) (mo_l (mo_iload _ _))) (mo_d (mo_l (mo_imul _)) (mo_l (mo_iload _ _)))) (mo_d (mo_d (mo_l (mo_iadd _)) (mo_l (mo_ic _ _))) (mo_d (mo_l (mo_zast _)) (mo_l (mo_rV))))))))
def zc_J6_bitCount_0f7a4 (G : Nat × Nat) : Nat → zSem := fun pc =>
 znd pc 27
 (znd pc 14
 (znd pc 7
 (znd pc 2
 (znd pc 1
 (zlf pc 0 (s_iload 0 1))
 (zlf pc 1 (s_iload 0 2)))
 (znd pc 3
 (zlf pc 2 (s_ic 1 3))
 (znd pc 4
 (zlf pc 3 (s_iushr 4))
 (zlf pc 4 (s_ic 1431655765 7)))))
 (znd pc 9
 (znd pc 8
 (zlf pc 7 (s_iand 8))
 (zlf pc 8 (s_isub 9)))
 (znd pc 10
 (zlf pc 9 (s_istore 0 10))
 (znd pc 11
 (zlf pc 10 (s_iload 0 11))
 (zlf pc 11 (s_ic 858993459 14))))))
 (znd pc 21
 (znd pc 16
 (znd pc 15
 (zlf pc 14 (s_iand 15))
 (zlf pc 15 (s_iload 0 16)))
 (znd pc 17
 (zlf pc 16 (s_ic 2 17))
 (znd pc 18
 (zlf pc 17 (s_iushr 18))
 (zlf pc 18 (s_ic 858993459 21)))))
 (znd pc 24
 (znd pc 22
 (zlf pc 21 (s_iand 22))
 (znd pc 23
 (zlf pc 22 (s_iadd 23))
 (zlf pc 23 (s_istore 0 24))))
 (znd pc 25
 (zlf pc 24 (s_iload 0 25))
 (znd pc 26
 (zlf pc 25 (s_iload 0 26))
 (zlf pc 26 (s_ic 4 27)))))))
 (znd pc 40
 (znd pc 34
 (znd pc 29
 (znd pc 28
 (zlf pc 27 (s_iushr 28))
 (zlf pc 28 (s_iadd 29)))
 (znd pc 32
 (zlf pc 29 (s_ic 252645135 32))
 (znd pc 33
 (zlf pc 32 (s_iand 33))
 (zlf pc 33 (s_istore 0 34)))))
 (znd pc 36
 (znd pc 35
 (zlf pc 34 (s_iload 0 35))
 (zlf pc 35 (s_iload 0 36)))
 (znd pc 38
 (zlf pc 36 (s_ic 8 38))
 (znd pc 39
 (zlf pc 38 (s_iushr 39))
 (zlf pc 39 (s_iadd 40))))))
 (znd pc 46
 (znd pc 42
 (znd pc 41
 (zlf pc 40 (s_istore 0 41))
 (zlf pc 41 (s_iload 0 42)))
 (znd pc 43
 (zlf pc 42 (s_iload 0 43))
 (znd pc 45
 (zlf pc 43 (s_ic 16 45))
 (zlf pc 45 (s_iushr 46)))))
 (znd pc 49
 (znd pc 47
 (zlf pc 46 (s_iadd 47))
 (znd pc 48
 (zlf pc 47 (s_istore 0 48))
 (zlf pc 48 (s_iload 0 49))))
 (znd pc 51
 (zlf pc 49 (s_ic 63 51))
 (znd pc 52
 (zlf pc 51 (s_iand 52))
 (zlf pc 52 (s_rI)))))))
theorem zm_J6_bitCount_0f7a4 (G : Nat × Nat) (pc : Nat) : zMon (zc_J6_bitCount_0f7a4 G pc) := (mo_d (mo_d (mo_d (mo_d (mo_d (mo_l (mo_iload _ _)) (mo_l (mo_iload _ _))) (mo_d (mo_l (mo_ic _ _)) (mo_d (mo_l (mo_iushr _)) (mo_l (mo_ic _ _))))) (mo_d (mo_d (mo_l (mo_iand _)) (mo_l (mo_isub _))) (mo_d (mo_l (mo_istore _ _)) (mo_d (mo_l (mo_iload _ _)) (mo_l (mo_ic _ _)))))) (mo_d (mo_d (mo_d (mo_l (mo_iand _)) (mo_l (mo_iload _ _))) (mo_d (mo_l (mo_ic _ _)) (mo_d (mo_l (mo_iushr _)) (mo_l (mo_ic _ _))))) (mo_d (mo_d (mo_l (mo_iand _)) (mo_d (mo_l (mo_iadd _)) (mo_l (mo_istore _ _)))) (mo_d (mo_l (mo_iload _ _)) (mo_d (mo_l (mo_iload _ _)) (mo_l (mo_ic _ _))))))) (mo_d (mo_d (mo_d (mo_d (mo_l (mo_iushr _)) (mo_l (mo_iadd _))) (mo_d (mo_l (mo_ic _ _)) (mo_d (mo_l (mo_iand _)) (mo_l (mo_istore _ _))))) (mo_d (mo_d (mo_l (mo_iload _ _)) (mo_l (mo_iload _ _))) (mo_d (mo_l (mo_ic _ _)) (mo_d (mo_l (mo_iushr _)) (mo_l (mo_iadd _)))))) (mo_d (mo_d (mo_d (mo_l (mo_istore _ _)) (mo_l (mo_iload _ _))) (mo_d (mo_l (mo_iload _ _)) (mo_d (mo_l (mo_ic _ _)) (mo_l (mo_iushr _))))) (mo_d (mo_d (mo_l (mo_iadd _)) (mo_d (mo_l (mo_istore _ _)) (mo_l (mo_iload _ _)))) (mo_d (mo_l (mo_ic _ _)) (mo_d (mo_l (mo_iand _)) (mo_l (mo_rI))))))))
def zc_X11_cover (G : Nat × Nat) : Nat → zSem := fun pc =>
 znd pc 22
 (znd pc 11
 (znd pc 6
 (znd pc 1
 (zlf pc 0 (s_iload 1 1))
 (znd pc 3
 (zlf pc 1 (s_ic 8 3))
 (zlf pc 3 (s_cI zpS 12 2 [] zx0 6))))
 (znd pc 9
 (zlf pc 6 (s_cV zpS 13 1 [] zx0 9))
 (znd pc 10
 (zlf pc 9 (s_aload 0 10))
 (zlf pc 10 (s_iload 2 11)))))
 (znd pc 18
 (znd pc 14
 (zlf pc 11 (s_ifeq 25 14))
 (znd pc 15
 (zlf pc 14 (s_aload 0 15))
 (zlf pc 15 (s_gI 12 6 18))))
 (znd pc 20
 (znd pc 19
 (zlf pc 18 (s_ic 1 19))
 (zlf pc 19 (s_iload 1 20)))
 (znd pc 21
 (zlf pc 20 (s_ishl 21))
 (zlf pc 21 (s_ior 22))))))
 (znd pc 33
 (znd pc 29
 (znd pc 25
 (zlf pc 22 (s_goto 35))
 (znd pc 26
 (zlf pc 25 (s_aload 0 26))
 (zlf pc 26 (s_gI 12 6 29))))
 (znd pc 31
 (znd pc 30
 (zlf pc 29 (s_ic 1 30))
 (zlf pc 30 (s_iload 1 31)))
 (znd pc 32
 (zlf pc 31 (s_ishl 32))
 (zlf pc 32 (s_ic (-1) 33)))))
 (znd pc 38
 (znd pc 34
 (zlf pc 33 (s_ixor 34))
 (znd pc 35
 (zlf pc 34 (s_iand 35))
 (zlf pc 35 (s_pI 12 6 38))))
 (znd pc 42
 (znd pc 39
 (zlf pc 38 (s_aload 0 39))
 (zlf pc 39 (s_gI 12 6 42)))
 (znd pc 45
 (zlf pc 42 (s_cI zpS 175 1 [] zx0 45))
 (zlf pc 45 (s_rI))))))
theorem zm_X11_cover (G : Nat × Nat) (pc : Nat) : zMon (zc_X11_cover G pc) := (mo_d (mo_d (mo_d (mo_d (mo_l (mo_iload _ _)) (mo_d (mo_l (mo_ic _ _)) (mo_l (mo_cI _ _ _ _ zPre_S zHm_0)))) (mo_d (mo_l (mo_cV _ _ _ _ zPre_S zHm_0)) (mo_d (mo_l (mo_aload _ _)) (mo_l (mo_iload _ _))))) (mo_d (mo_d (mo_l (mo_ifeq _ _)) (mo_d (mo_l (mo_aload _ _)) (mo_l (mo_gI _ _ _)))) (mo_d (mo_d (mo_l (mo_ic _ _)) (mo_l (mo_iload _ _))) (mo_d (mo_l (mo_ishl _)) (mo_l (mo_ior _)))))) (mo_d (mo_d (mo_d (mo_l (mo_goto _)) (mo_d (mo_l (mo_aload _ _)) (mo_l (mo_gI _ _ _)))) (mo_d (mo_d (mo_l (mo_ic _ _)) (mo_l (mo_iload _ _))) (mo_d (mo_l (mo_ishl _)) (mo_l (mo_ic _ _))))) (mo_d (mo_d (mo_l (mo_ixor _)) (mo_d (mo_l (mo_iand _)) (mo_l (mo_pI _ _ _)))) (mo_d (mo_d (mo_l (mo_aload _ _)) (mo_l (mo_gI _ _ _))) (mo_d (mo_l (mo_cI _ _ _ _ zPre_S zHm_0)) (mo_l (mo_rI)))))))
def zc_L_cover (G : Nat × Nat) : Nat → zSem := fun pc =>
 znd pc 8
 (znd pc 3
 (znd pc 1
 (zlf pc 0 (s_aload 3 1))
 (znd pc 2
 (zlf pc 1 (s_ic 0 2))
 (zlf pc 2 (s_aload 0 3))))
 (znd pc 4
 (zlf pc 3 (s_iload 1 4))
 (znd pc 5
 (zlf pc 4 (s_iload 2 5))
 (zlf pc 5 (s_cI (zpV 12) 176 3 [] (zxc 4 [(0, 15)]) 8)))))
 (znd pc 15
 (znd pc 9
 (zlf pc 8 (s_i2l 9))
 (znd pc 10
 (zlf pc 9 (s_last 10))
 (zlf pc 10 (s_goto 17))))
 (znd pc 17
 (znd pc 16
 (zlf pc 15 (s_ic 1 16))
 (zlf pc 16 (s_rI)))
 (znd pc 18
 (zlf pc 17 (s_ic 0 18))
 (zlf pc 18 (s_rI)))))
theorem zm_L_cover (G : Nat × Nat) (pc : Nat) : zMon (zc_L_cover G pc) := (mo_d (mo_d (mo_d (mo_l (mo_aload _ _)) (mo_d (mo_l (mo_ic _ _)) (mo_l (mo_aload _ _)))) (mo_d (mo_l (mo_iload _ _)) (mo_d (mo_l (mo_iload _ _)) (mo_l (mo_cI _ _ _ _ (zPre_V _) (zHm_c _ _)))))) (mo_d (mo_d (mo_l (mo_i2l _)) (mo_d (mo_l (mo_last _)) (mo_l (mo_goto _)))) (mo_d (mo_d (mo_l (mo_ic _ _)) (mo_l (mo_rI))) (mo_d (mo_l (mo_ic _ _)) (mo_l (mo_rI))))))
def zc_X12_cover (G : Nat × Nat) : Nat → zSem := fun pc =>
 znd pc 31
 (znd pc 19
 (znd pc 8
 (znd pc 2
 (znd pc 1
 (zlf pc 0 (s_aload 0 1))
 (zlf pc 1 (s_iload 1 2)))
 (znd pc 5
 (zlf pc 2 (s_cI zpS 154 1 [] zx0 5))
 (zlf pc 5 (s_ifeq 12 8))))
 (znd pc 12
 (znd pc 9
 (zlf pc 8 (s_ic 0 9))
 (zlf pc 9 (s_goto 13)))
 (znd pc 13
 (zlf pc 12 (s_ic 1 13))
 (znd pc 16
 (zlf pc 13 (s_cI (zpV 13) 33 2 [] zx0 16))
 (zlf pc 16 (s_ifeq 21 19))))))
 (znd pc 26
 (znd pc 21
 (znd pc 20
 (zlf pc 19 (s_ic 0 20))
 (zlf pc 20 (s_rI)))
 (znd pc 22
 (zlf pc 21 (s_aload 0 22))
 (znd pc 25
 (zlf pc 22 (s_gR 13 33 25))
 (zlf pc 25 (s_iload 1 26)))))
 (znd pc 28
 (znd pc 27
 (zlf pc 26 (s_iload 2 27))
 (zlf pc 27 (s_zast 28)))
 (znd pc 29
 (zlf pc 28 (s_ic 0 29))
 (znd pc 30
 (zlf pc 29 (s_istore 3 30))
 (zlf pc 30 (s_ic 0 31)))))))
 (znd pc 48
 (znd pc 40
 (znd pc 35
 (znd pc 33
 (zlf pc 31 (s_istore 4 33))
 (zlf pc 33 (s_iload 4 35)))
 (znd pc 37
 (zlf pc 35 (s_ic 8 37))
 (zlf pc 37 (s_cmpge 64 40))))
 (znd pc 42
 (znd pc 41
 (zlf pc 40 (s_iload 3 41))
 (zlf pc 41 (s_aload 0 42)))
 (znd pc 45
 (zlf pc 42 (s_gR 13 33 45))
 (znd pc 47
 (zlf pc 45 (s_iload 4 47))
 (zlf pc 47 (s_zald 48))))))
 (znd pc 57
 (znd pc 52
 (znd pc 51
 (zlf pc 48 (s_ifeq 55 51))
 (zlf pc 51 (s_ic 1 52)))
 (znd pc 55
 (zlf pc 52 (s_goto 56))
 (znd pc 56
 (zlf pc 55 (s_ic 0 56))
 (zlf pc 56 (s_iadd 57)))))
 (znd pc 61
 (znd pc 58
 (zlf pc 57 (s_istore 3 58))
 (zlf pc 58 (s_iinc 4 1 61)))
 (znd pc 64
 (zlf pc 61 (s_goto 33))
 (znd pc 65
 (zlf pc 64 (s_iload 3 65))
 (zlf pc 65 (s_rI)))))))
theorem zm_X12_cover (G : Nat × Nat) (pc : Nat) : zMon (zc_X12_cover G pc) := (mo_d (mo_d (mo_d (mo_d (mo_d (mo_l (mo_aload _ _)) (mo_l (mo_iload _ _))) (mo_d (mo_l (mo_cI _ _ _ _ zPre_S zHm_0)) (mo_l (mo_ifeq _ _)))) (mo_d (mo_d (mo_l (mo_ic _ _)) (mo_l (mo_goto _))) (mo_d (mo_l (mo_ic _ _)) (mo_d (mo_l (mo_cI _ _ _ _ (zPre_V _) zHm_0)) (mo_l (mo_ifeq _ _)))))) (mo_d (mo_d (mo_d (mo_l (mo_ic _ _)) (mo_l (mo_rI))) (mo_d (mo_l (mo_aload _ _)) (mo_d (mo_l (mo_gR _ _ _)) (mo_l (mo_iload _ _))))) (mo_d (mo_d (mo_l (mo_iload _ _)) (mo_l (mo_zast _))) (mo_d (mo_l (mo_ic _ _)) (mo_d (mo_l (mo_istore _ _)) (mo_l (mo_ic _ _))))))) (mo_d (mo_d (mo_d (mo_d (mo_l (mo_istore _ _)) (mo_l (mo_iload _ _))) (mo_d (mo_l (mo_ic _ _)) (mo_l (mo_cmpge _ _)))) (mo_d (mo_d (mo_l (mo_iload _ _)) (mo_l (mo_aload _ _))) (mo_d (mo_l (mo_gR _ _ _)) (mo_d (mo_l (mo_iload _ _)) (mo_l (mo_zald _)))))) (mo_d (mo_d (mo_d (mo_l (mo_ifeq _ _)) (mo_l (mo_ic _ _))) (mo_d (mo_l (mo_goto _)) (mo_d (mo_l (mo_ic _ _)) (mo_l (mo_iadd _))))) (mo_d (mo_d (mo_l (mo_istore _ _)) (mo_l (mo_iinc _ _ _))) (mo_d (mo_l (mo_goto _)) (mo_d (mo_l (mo_iload _ _)) (mo_l (mo_rI))))))))
def zc_X0_findFaults (G : Nat × Nat) : Nat → zSem := fun pc =>
 znd pc 29
 (znd pc 9
 (znd pc 5
 (znd pc 1
 (zlf pc 0 (s_aload 0 1))
 (znd pc 2
 (zlf pc 1 (s_ic 1 2))
 (zlf pc 2 (s_pZ 1 1 5))))
 (znd pc 7
 (znd pc 6
 (zlf pc 5 (s_ic 0 6))
 (zlf pc 6 (s_istore 2 7)))
 (znd pc 8
 (zlf pc 7 (s_iload 2 8))
 (zlf pc 8 (s_aload 0 9)))))
 (znd pc 19
 (znd pc 15
 (znd pc 12
 (zlf pc 9 (s_gR 1 3 12))
 (zlf pc 12 (s_cI (zpV 0) 16 1 [] zx0 15)))
 (znd pc 18
 (zlf pc 15 (s_cmpge 56 18))
 (zlf pc 18 (s_aload 0 19))))
 (znd pc 23
 (znd pc 22
 (zlf pc 19 (s_gR 1 3 22))
 (zlf pc 22 (s_iload 2 23)))
 (znd pc 26
 (zlf pc 23 (s_cR (zpV 0) 44 2 [] zx0 26))
 (zlf pc 26 (s_cast 10 29))))))
 (znd pc 39
 (znd pc 33
 (znd pc 31
 (znd pc 30
 (zlf pc 29 (s_astore 3 30))
 (zlf pc 30 (s_iload 1 31)))
 (znd pc 32
 (zlf pc 31 (s_ic 1 32))
 (zlf pc 32 (s_iload 2 33))))
 (znd pc 35
 (znd pc 34
 (zlf pc 33 (s_ishl 34))
 (zlf pc 34 (s_iand 35)))
 (znd pc 38
 (zlf pc 35 (s_ifeq 50 38))
 (zlf pc 38 (s_aload 3 39)))))
 (znd pc 47
 (znd pc 45
 (znd pc 42
 (zlf pc 39 (s_gI 10 3 42))
 (zlf pc 42 (s_ifeq 50 45)))
 (znd pc 46
 (zlf pc 45 (s_aload 3 46))
 (zlf pc 46 (s_ic 1 47))))
 (znd pc 53
 (znd pc 50
 (zlf pc 47 (s_pZ 10 4 50))
 (zlf pc 50 (s_iinc 2 1 53)))
 (znd pc 56
 (zlf pc 53 (s_goto 7))
 (zlf pc 56 (s_rV))))))
theorem zm_X0_findFaults (G : Nat × Nat) (pc : Nat) : zMon (zc_X0_findFaults G pc) := (mo_d (mo_d (mo_d (mo_d (mo_l (mo_aload _ _)) (mo_d (mo_l (mo_ic _ _)) (mo_l (mo_pZ _ _ _)))) (mo_d (mo_d (mo_l (mo_ic _ _)) (mo_l (mo_istore _ _))) (mo_d (mo_l (mo_iload _ _)) (mo_l (mo_aload _ _))))) (mo_d (mo_d (mo_d (mo_l (mo_gR _ _ _)) (mo_l (mo_cI _ _ _ _ (zPre_V _) zHm_0))) (mo_d (mo_l (mo_cmpge _ _)) (mo_l (mo_aload _ _)))) (mo_d (mo_d (mo_l (mo_gR _ _ _)) (mo_l (mo_iload _ _))) (mo_d (mo_l (mo_cR _ _ _ _ (zPre_V _) zHm_0)) (mo_l (mo_cast _ _)))))) (mo_d (mo_d (mo_d (mo_d (mo_l (mo_astore _ _)) (mo_l (mo_iload _ _))) (mo_d (mo_l (mo_ic _ _)) (mo_l (mo_iload _ _)))) (mo_d (mo_d (mo_l (mo_ishl _)) (mo_l (mo_iand _))) (mo_d (mo_l (mo_ifeq _ _)) (mo_l (mo_aload _ _))))) (mo_d (mo_d (mo_d (mo_l (mo_gI _ _ _)) (mo_l (mo_ifeq _ _))) (mo_d (mo_l (mo_aload _ _)) (mo_l (mo_ic _ _)))) (mo_d (mo_d (mo_l (mo_pZ _ _ _)) (mo_l (mo_iinc _ _ _))) (mo_d (mo_l (mo_goto _)) (mo_l (mo_rV)))))))
def zc_X0_faultsFound (G : Nat × Nat) : Nat → zSem := fun pc =>
 znd pc 23
 (znd pc 6
 (znd pc 3
 (znd pc 1
 (zlf pc 0 (s_ic 0 1))
 (znd pc 2
 (zlf pc 1 (s_istore 2 2))
 (zlf pc 2 (s_ic 0 3))))
 (znd pc 4
 (zlf pc 3 (s_istore 3 4))
 (znd pc 5
 (zlf pc 4 (s_iload 3 5))
 (zlf pc 5 (s_aload 0 6)))))
 (znd pc 15
 (znd pc 9
 (zlf pc 6 (s_gR 1 3 9))
 (znd pc 12
 (zlf pc 9 (s_cI (zpV 0) 16 1 [] zx0 12))
 (zlf pc 12 (s_cmpge 54 15))))
 (znd pc 19
 (znd pc 16
 (zlf pc 15 (s_aload 0 16))
 (zlf pc 16 (s_gR 1 3 19)))
 (znd pc 20
 (zlf pc 19 (s_iload 3 20))
 (zlf pc 20 (s_cR (zpV 0) 44 2 [] zx0 23))))))
 (znd pc 41
 (znd pc 30
 (znd pc 26
 (zlf pc 23 (s_cast 10 26))
 (znd pc 28
 (zlf pc 26 (s_astore 4 28))
 (zlf pc 28 (s_aload 4 30))))
 (znd pc 36
 (znd pc 33
 (zlf pc 30 (s_gI 10 3 33))
 (zlf pc 33 (s_ifeq 48 36)))
 (znd pc 38
 (zlf pc 36 (s_aload 4 38))
 (zlf pc 38 (s_gI 10 4 41)))))
 (znd pc 48
 (znd pc 42
 (zlf pc 41 (s_iload 1 42))
 (znd pc 45
 (zlf pc 42 (s_cmpne 48 45))
 (zlf pc 45 (s_iinc 2 1 48))))
 (znd pc 54
 (znd pc 51
 (zlf pc 48 (s_iinc 3 1 51))
 (zlf pc 51 (s_goto 4)))
 (znd pc 55
 (zlf pc 54 (s_iload 2 55))
 (zlf pc 55 (s_rI))))))
theorem zm_X0_faultsFound (G : Nat × Nat) (pc : Nat) : zMon (zc_X0_faultsFound G pc) := (mo_d (mo_d (mo_d (mo_d (mo_l (mo_ic _ _)) (mo_d (mo_l (mo_istore _ _)) (mo_l (mo_ic _ _)))) (mo_d (mo_l (mo_istore _ _)) (mo_d (mo_l (mo_iload _ _)) (mo_l (mo_aload _ _))))) (mo_d (mo_d (mo_l (mo_gR _ _ _)) (mo_d (mo_l (mo_cI _ _ _ _ (zPre_V _) zHm_0)) (mo_l (mo_cmpge _ _)))) (mo_d (mo_d (mo_l (mo_aload _ _)) (mo_l (mo_gR _ _ _))) (mo_d (mo_l (mo_iload _ _)) (mo_l (mo_cR _ _ _ _ (zPre_V _) zHm_0)))))) (mo_d (mo_d (mo_d (mo_l (mo_cast _ _)) (mo_d (mo_l (mo_astore _ _)) (mo_l (mo_aload _ _)))) (mo_d (mo_d (mo_l (mo_gI _ _ _)) (mo_l (mo_ifeq _ _))) (mo_d (mo_l (mo_aload _ _)) (mo_l (mo_gI _ _ _))))) (mo_d (mo_d (mo_l (mo_iload _ _)) (mo_d (mo_l (mo_cmpne _ _)) (mo_l (mo_iinc _ _ _)))) (mo_d (mo_d (mo_l (mo_iinc _ _ _)) (mo_l (mo_goto _))) (mo_d (mo_l (mo_iload _ _)) (mo_l (mo_rI)))))))
def zc_X11_test (G : Nat × Nat) : Nat → zSem := fun pc =>
 znd pc 21
 (znd pc 7
 (znd pc 2
 (znd pc 1
 (zlf pc 0 (s_aload 0 1))
 (zlf pc 1 (s_iload 1 2)))
 (znd pc 5
 (zlf pc 2 (s_cR (zpV 12) 146 2 [] zx0 5))
 (znd pc 6
 (zlf pc 5 (s_astore 2 6))
 (zlf pc 6 (s_aload 2 7)))))
 (znd pc 14
 (znd pc 10
 (zlf pc 7 (s_gI 1 0 10))
 (znd pc 13
 (zlf pc 10 (s_ifeq 24 13))
 (zlf pc 13 (s_aload 2 14))))
 (znd pc 17
 (zlf pc 14 (s_gI 1 2 17))
 (znd pc 20
 (zlf pc 17 (s_ifne 24 20))
 (zlf pc 20 (s_ic 1 21))))))
 (znd pc 30
 (znd pc 25
 (znd pc 24
 (zlf pc 21 (s_goto 25))
 (zlf pc 24 (s_ic 0 25)))
 (znd pc 28
 (zlf pc 25 (s_cV zpS 17 1 [] zx0 28))
 (znd pc 29
 (zlf pc 28 (s_aload 2 29))
 (zlf pc 29 (s_aload 0 30)))))
 (znd pc 37
 (znd pc 33
 (zlf pc 30 (s_gI 12 6 33))
 (znd pc 36
 (zlf pc 33 (s_cV (zpV 1) 179 2 [zU, zU] zx0 36))
 (zlf pc 36 (s_aload 2 37))))
 (znd pc 38
 (zlf pc 37 (s_ic 1 38))
 (znd pc 41
 (zlf pc 38 (s_cI (zpV 1) 180 2 [zU, zU, zU] zx0 41))
 (zlf pc 41 (s_rI))))))
theorem zm_X11_test (G : Nat × Nat) (pc : Nat) : zMon (zc_X11_test G pc) := (mo_d (mo_d (mo_d (mo_d (mo_l (mo_aload _ _)) (mo_l (mo_iload _ _))) (mo_d (mo_l (mo_cR _ _ _ _ (zPre_V _) zHm_0)) (mo_d (mo_l (mo_astore _ _)) (mo_l (mo_aload _ _))))) (mo_d (mo_d (mo_l (mo_gI _ _ _)) (mo_d (mo_l (mo_ifeq _ _)) (mo_l (mo_aload _ _)))) (mo_d (mo_l (mo_gI _ _ _)) (mo_d (mo_l (mo_ifne _ _)) (mo_l (mo_ic _ _)))))) (mo_d (mo_d (mo_d (mo_l (mo_goto _)) (mo_l (mo_ic _ _))) (mo_d (mo_l (mo_cV _ _ _ _ zPre_S zHm_0)) (mo_d (mo_l (mo_aload _ _)) (mo_l (mo_aload _ _))))) (mo_d (mo_d (mo_l (mo_gI _ _ _)) (mo_d (mo_l (mo_cV _ _ _ _ (zPre_V _) zHm_0)) (mo_l (mo_aload _ _)))) (mo_d (mo_l (mo_ic _ _)) (mo_d (mo_l (mo_cI _ _ _ _ (zPre_V _) zHm_0)) (mo_l (mo_rI)))))))
def zc_L_test (G : Nat × Nat) : Nat → zSem := fun pc =>
 znd pc 9
 (znd pc 3
 (znd pc 1
 (zlf pc 0 (s_aload 2 1))
 (znd pc 2
 (zlf pc 1 (s_ic 0 2))
 (zlf pc 2 (s_aload 0 3))))
 (znd pc 7
 (znd pc 4
 (zlf pc 3 (s_iload 1 4))
 (zlf pc 4 (s_cI (zpV 12) 181 2 [zU] (zxc 3 [(0, 13), (2, 16)]) 7)))
 (znd pc 8
 (zlf pc 7 (s_i2l 8))
 (zlf pc 8 (s_last 9)))))
 (znd pc 16
 (znd pc 13
 (zlf pc 9 (s_goto 18))
 (znd pc 14
 (zlf pc 13 (s_ic 1 14))
 (zlf pc 14 (s_rI))))
 (znd pc 18
 (znd pc 17
 (zlf pc 16 (s_ic 2 17))
 (zlf pc 17 (s_rI)))
 (znd pc 19
 (zlf pc 18 (s_ic 0 19))
 (zlf pc 19 (s_rI)))))
theorem zm_L_test (G : Nat × Nat) (pc : Nat) : zMon (zc_L_test G pc) := (mo_d (mo_d (mo_d (mo_l (mo_aload _ _)) (mo_d (mo_l (mo_ic _ _)) (mo_l (mo_aload _ _)))) (mo_d (mo_d (mo_l (mo_iload _ _)) (mo_l (mo_cI _ _ _ _ (zPre_V _) (zHm_c _ _)))) (mo_d (mo_l (mo_i2l _)) (mo_l (mo_last _))))) (mo_d (mo_d (mo_l (mo_goto _)) (mo_d (mo_l (mo_ic _ _)) (mo_l (mo_rI)))) (mo_d (mo_d (mo_l (mo_ic _ _)) (mo_l (mo_rI))) (mo_d (mo_l (mo_ic _ _)) (mo_l (mo_rI))))))
def zc_X12_faults (G : Nat × Nat) : Nat → zSem := fun pc =>
 znd pc 27
 (znd pc 12
 (znd pc 5
 (znd pc 2
 (znd pc 1
 (zlf pc 0 (s_ic 0 1))
 (zlf pc 1 (s_istore 3 2)))
 (znd pc 4
 (zlf pc 2 (s_ic 8 4))
 (zlf pc 4 (s_iload 1 5))))
 (znd pc 8
 (znd pc 6
 (zlf pc 5 (s_imul 6))
 (zlf pc 6 (s_istore 4 8)))
 (znd pc 10
 (zlf pc 8 (s_iload 4 10))
 (zlf pc 10 (s_ic 8 12)))))
 (znd pc 17
 (znd pc 14
 (znd pc 13
 (zlf pc 12 (s_iload 1 13))
 (zlf pc 13 (s_imul 14)))
 (znd pc 16
 (zlf pc 14 (s_ic 8 16))
 (zlf pc 16 (s_iadd 17))))
 (znd pc 21
 (znd pc 20
 (zlf pc 17 (s_cmpge 55 20))
 (zlf pc 20 (s_iload 3 21)))
 (znd pc 22
 (zlf pc 21 (s_aload 0 22))
 (znd pc 25
 (zlf pc 22 (s_gR 13 41 25))
 (zlf pc 25 (s_iload 4 27)))))))
 (znd pc 42
 (znd pc 35
 (znd pc 31
 (znd pc 28
 (zlf pc 27 (s_iald 28))
 (zlf pc 28 (s_ifeq 46 31)))
 (znd pc 32
 (zlf pc 31 (s_aload 0 32))
 (zlf pc 32 (s_gR 13 42 35))))
 (znd pc 38
 (znd pc 37
 (zlf pc 35 (s_iload 4 37))
 (zlf pc 37 (s_zald 38)))
 (znd pc 39
 (zlf pc 38 (s_iload 2 39))
 (zlf pc 39 (s_cmpne 46 42)))))
 (znd pc 48
 (znd pc 46
 (znd pc 43
 (zlf pc 42 (s_ic 1 43))
 (zlf pc 43 (s_goto 47)))
 (znd pc 47
 (zlf pc 46 (s_ic 0 47))
 (zlf pc 47 (s_iadd 48))))
 (znd pc 52
 (znd pc 49
 (zlf pc 48 (s_istore 3 49))
 (zlf pc 49 (s_iinc 4 1 52)))
 (znd pc 55
 (zlf pc 52 (s_goto 8))
 (znd pc 56
 (zlf pc 55 (s_iload 3 56))
 (zlf pc 56 (s_rI)))))))
theorem zm_X12_faults (G : Nat × Nat) (pc : Nat) : zMon (zc_X12_faults G pc) := (mo_d (mo_d (mo_d (mo_d (mo_d (mo_l (mo_ic _ _)) (mo_l (mo_istore _ _))) (mo_d (mo_l (mo_ic _ _)) (mo_l (mo_iload _ _)))) (mo_d (mo_d (mo_l (mo_imul _)) (mo_l (mo_istore _ _))) (mo_d (mo_l (mo_iload _ _)) (mo_l (mo_ic _ _))))) (mo_d (mo_d (mo_d (mo_l (mo_iload _ _)) (mo_l (mo_imul _))) (mo_d (mo_l (mo_ic _ _)) (mo_l (mo_iadd _)))) (mo_d (mo_d (mo_l (mo_cmpge _ _)) (mo_l (mo_iload _ _))) (mo_d (mo_l (mo_aload _ _)) (mo_d (mo_l (mo_gR _ _ _)) (mo_l (mo_iload _ _))))))) (mo_d (mo_d (mo_d (mo_d (mo_l (mo_iald _)) (mo_l (mo_ifeq _ _))) (mo_d (mo_l (mo_aload _ _)) (mo_l (mo_gR _ _ _)))) (mo_d (mo_d (mo_l (mo_iload _ _)) (mo_l (mo_zald _))) (mo_d (mo_l (mo_iload _ _)) (mo_l (mo_cmpne _ _))))) (mo_d (mo_d (mo_d (mo_l (mo_ic _ _)) (mo_l (mo_goto _))) (mo_d (mo_l (mo_ic _ _)) (mo_l (mo_iadd _)))) (mo_d (mo_d (mo_l (mo_istore _ _)) (mo_l (mo_iinc _ _ _))) (mo_d (mo_l (mo_goto _)) (mo_d (mo_l (mo_iload _ _)) (mo_l (mo_rI))))))))
def zc_X12_test (G : Nat × Nat) : Nat → zSem := fun pc =>
 znd pc 59
 (znd pc 31
 (znd pc 14
 (znd pc 6
 (znd pc 2
 (znd pc 1
 (zlf pc 0 (s_aload 0 1))
 (zlf pc 1 (s_aload 0 2)))
 (znd pc 3
 (zlf pc 2 (s_iload 1 3))
 (zlf pc 3 (s_cI (zpV 13) 153 2 [] zx0 6))))
 (znd pc 10
 (znd pc 9
 (zlf pc 6 (s_ifne 13 9))
 (zlf pc 9 (s_ic 1 10)))
 (znd pc 13
 (zlf pc 10 (s_goto 36))
 (zlf pc 13 (s_aload 0 14)))))
 (znd pc 22
 (znd pc 18
 (znd pc 17
 (zlf pc 14 (s_gR 13 35 17))
 (zlf pc 17 (s_iload 1 18)))
 (znd pc 19
 (zlf pc 18 (s_zald 19))
 (zlf pc 19 (s_ifeq 31 22))))
 (znd pc 26
 (znd pc 23
 (zlf pc 22 (s_aload 0 23))
 (zlf pc 23 (s_gR 13 37 26)))
 (znd pc 27
 (zlf pc 26 (s_iload 1 27))
 (znd pc 28
 (zlf pc 27 (s_zald 28))
 (zlf pc 28 (s_ifeq 35 31)))))))
 (znd pc 45
 (znd pc 39
 (znd pc 35
 (znd pc 32
 (zlf pc 31 (s_ic 2 32))
 (zlf pc 32 (s_goto 36)))
 (znd pc 36
 (zlf pc 35 (s_ic 0 36))
 (zlf pc 36 (s_cI (zpV 13) 33 2 [] zx0 39))))
 (znd pc 43
 (znd pc 42
 (zlf pc 39 (s_ifeq 44 42))
 (zlf pc 42 (s_ic 0 43)))
 (znd pc 44
 (zlf pc 43 (s_rI))
 (zlf pc 44 (s_aload 0 45)))))
 (znd pc 51
 (znd pc 49
 (znd pc 48
 (zlf pc 45 (s_gR 13 36 48))
 (zlf pc 48 (s_iload 1 49)))
 (znd pc 50
 (zlf pc 49 (s_ic 1 50))
 (zlf pc 50 (s_zast 51))))
 (znd pc 53
 (znd pc 52
 (zlf pc 51 (s_ic 0 52))
 (zlf pc 52 (s_istore 2 53)))
 (znd pc 54
 (zlf pc 53 (s_iload 2 54))
 (znd pc 56
 (zlf pc 54 (s_ic 8 56))
 (zlf pc 56 (s_cmpge 110 59))))))))
 (znd pc 85
 (znd pc 70
 (znd pc 64
 (znd pc 62
 (znd pc 61
 (zlf pc 59 (s_ic 8 61))
 (zlf pc 61 (s_iload 1 62)))
 (znd pc 63
 (zlf pc 62 (s_imul 63))
 (zlf pc 63 (s_iload 2 64))))
 (znd pc 66
 (znd pc 65
 (zlf pc 64 (s_iadd 65))
 (zlf pc 65 (s_istore 3 66)))
 (znd pc 67
 (zlf pc 66 (s_aload 0 67))
 (zlf pc 67 (s_gR 13 42 70)))))
 (znd pc 76
 (znd pc 72
 (znd pc 71
 (zlf pc 70 (s_iload 3 71))
 (zlf pc 71 (s_aload 0 72)))
 (znd pc 75
 (zlf pc 72 (s_gR 13 42 75))
 (zlf pc 75 (s_iload 3 76))))
 (znd pc 80
 (znd pc 77
 (zlf pc 76 (s_zald 77))
 (zlf pc 77 (s_ifne 98 80)))
 (znd pc 81
 (zlf pc 80 (s_aload 0 81))
 (znd pc 84
 (zlf pc 81 (s_gR 13 33 84))
 (zlf pc 84 (s_iload 2 85)))))))
 (znd pc 102
 (znd pc 93
 (znd pc 89
 (znd pc 86
 (zlf pc 85 (s_zald 86))
 (zlf pc 86 (s_ifeq 102 89)))
 (znd pc 90
 (zlf pc 89 (s_aload 0 90))
 (zlf pc 90 (s_gR 13 41 93))))
 (znd pc 95
 (znd pc 94
 (zlf pc 93 (s_iload 3 94))
 (zlf pc 94 (s_iald 95)))
 (znd pc 98
 (zlf pc 95 (s_ifeq 102 98))
 (znd pc 99
 (zlf pc 98 (s_ic 1 99))
 (zlf pc 99 (s_goto 103))))))
 (znd pc 110
 (znd pc 104
 (znd pc 103
 (zlf pc 102 (s_ic 0 103))
 (zlf pc 103 (s_zast 104)))
 (znd pc 107
 (zlf pc 104 (s_iinc 2 1 107))
 (zlf pc 107 (s_goto 53))))
 (znd pc 112
 (znd pc 111
 (zlf pc 110 (s_aload 0 111))
 (zlf pc 111 (s_iload 1 112)))
 (znd pc 113
 (zlf pc 112 (s_ic 1 113))
 (znd pc 116
 (zlf pc 113 (s_cI (zpV 13) 183 3 [zU, zU] zx0 116))
 (zlf pc 116 (s_rI))))))))
theorem zm_X12_test (G : Nat × Nat) (pc : Nat) : zMon (zc_X12_test G pc) := (mo_d (mo_d (mo_d (mo_d (mo_d (mo_d (mo_l (mo_aload _ _)) (mo_l (mo_aload _ _))) (mo_d (mo_l (mo_iload _ _)) (mo_l (mo_cI _ _ _ _ (zPre_V _) zHm_0)))) (mo_d (mo_d (mo_l (mo_ifne _ _)) (mo_l (mo_ic _ _))) (mo_d (mo_l (mo_goto _)) (mo_l (mo_aload _ _))))) (mo_d (mo_d (mo_d (mo_l (mo_gR _ _ _)) (mo_l (mo_iload _ _))) (mo_d (mo_l (mo_zald _)) (mo_l (mo_ifeq _ _)))) (mo_d (mo_d (mo_l (mo_aload _ _)) (mo_l (mo_gR _ _ _))) (mo_d (mo_l (mo_iload _ _)) (mo_d (mo_l (mo_zald _)) (mo_l (mo_ifeq _ _))))))) (mo_d (mo_d (mo_d (mo_d (mo_l (mo_ic _ _)) (mo_l (mo_goto _))) (mo_d (mo_l (mo_ic _ _)) (mo_l (mo_cI _ _ _ _ (zPre_V _) zHm_0)))) (mo_d (mo_d (mo_l (mo_ifeq _ _)) (mo_l (mo_ic _ _))) (mo_d (mo_l (mo_rI)) (mo_l (mo_aload _ _))))) (mo_d (mo_d (mo_d (mo_l (mo_gR _ _ _)) (mo_l (mo_iload _ _))) (mo_d (mo_l (mo_ic _ _)) (mo_l (mo_zast _)))) (mo_d (mo_d (mo_l (mo_ic _ _)) (mo_l (mo_istore _ _))) (mo_d (mo_l (mo_iload _ _)) (mo_d (mo_l (mo_ic _ _)) (mo_l (mo_cmpge _ _)))))))) (mo_d (mo_d (mo_d (mo_d (mo_d (mo_l (mo_ic _ _)) (mo_l (mo_iload _ _))) (mo_d (mo_l (mo_imul _)) (mo_l (mo_iload _ _)))) (mo_d (mo_d (mo_l (mo_iadd _)) (mo_l (mo_istore _ _))) (mo_d (mo_l (mo_aload _ _)) (mo_l (mo_gR _ _ _))))) (mo_d (mo_d (mo_d (mo_l (mo_iload _ _)) (mo_l (mo_aload _ _))) (mo_d (mo_l (mo_gR _ _ _)) (mo_l (mo_iload _ _)))) (mo_d (mo_d (mo_l (mo_zald _)) (mo_l (mo_ifne _ _))) (mo_d (mo_l (mo_aload _ _)) (mo_d (mo_l (mo_gR _ _ _)) (mo_l (mo_iload _ _))))))) (mo_d (mo_d (mo_d (mo_d (mo_l (mo_zald _)) (mo_l (mo_ifeq _ _))) (mo_d (mo_l (mo_aload _ _)) (mo_l (mo_gR _ _ _)))) (mo_d (mo_d (mo_l (mo_iload _ _)) (mo_l (mo_iald _))) (mo_d (mo_l (mo_ifeq _ _)) (mo_d (mo_l (mo_ic _ _)) (mo_l (mo_goto _)))))) (mo_d (mo_d (mo_d (mo_l (mo_ic _ _)) (mo_l (mo_zast _))) (mo_d (mo_l (mo_iinc _ _ _)) (mo_l (mo_goto _)))) (mo_d (mo_d (mo_l (mo_aload _ _)) (mo_l (mo_iload _ _))) (mo_d (mo_l (mo_ic _ _)) (mo_d (mo_l (mo_cI _ _ _ _ (zPre_V _) zHm_0)) (mo_l (mo_rI)))))))))
def zc_X9_mend (G : Nat × Nat) : Nat → zSem := fun pc =>
 znd pc 7
 (znd pc 2
 (znd pc 1
 (zlf pc 0 (s_aload 0 1))
 (zlf pc 1 (s_ic 0 2)))
 (znd pc 5
 (zlf pc 2 (s_pI 10 3 5))
 (znd pc 6
 (zlf pc 5 (s_aload 0 6))
 (zlf pc 6 (s_ic 0 7)))))
 (znd pc 11
 (znd pc 10
 (zlf pc 7 (s_pZ 10 4 10))
 (zlf pc 10 (s_aload 0 11)))
 (znd pc 12
 (zlf pc 11 (s_ic 1 12))
 (znd pc 15
 (zlf pc 12 (s_pZ 10 5 15))
 (zlf pc 15 (s_rV)))))
theorem zm_X9_mend (G : Nat × Nat) (pc : Nat) : zMon (zc_X9_mend G pc) := (mo_d (mo_d (mo_d (mo_l (mo_aload _ _)) (mo_l (mo_ic _ _))) (mo_d (mo_l (mo_pI _ _ _)) (mo_d (mo_l (mo_aload _ _)) (mo_l (mo_ic _ _))))) (mo_d (mo_d (mo_l (mo_pZ _ _ _)) (mo_l (mo_aload _ _))) (mo_d (mo_l (mo_ic _ _)) (mo_d (mo_l (mo_pZ _ _ _)) (mo_l (mo_rV))))))
def zc_X11_repair (G : Nat × Nat) : Nat → zSem := fun pc =>
 znd pc 53
 (znd pc 22
 (znd pc 10
 (znd pc 5
 (znd pc 1
 (zlf pc 0 (s_aload 0 1))
 (znd pc 2
 (zlf pc 1 (s_iload 1 2))
 (zlf pc 2 (s_cR (zpV 12) 146 2 [] zx0 5))))
 (znd pc 7
 (zlf pc 5 (s_astore 4 7))
 (znd pc 9
 (zlf pc 7 (s_aload 4 9))
 (zlf pc 9 (s_iload 2 10)))))
 (znd pc 16
 (znd pc 13
 (zlf pc 10 (s_cR (zpV 1) 147 2 [] zx0 13))
 (znd pc 15
 (zlf pc 13 (s_astore 5 15))
 (zlf pc 15 (s_aload 0 16))))
 (znd pc 17
 (zlf pc 16 (s_iload 3 17))
 (znd pc 20
 (zlf pc 17 (s_cR (zpV 12) 130 2 [] zx0 20))
 (zlf pc 20 (s_astore 6 22))))))
 (znd pc 38
 (znd pc 30
 (znd pc 24
 (zlf pc 22 (s_aload 5 24))
 (znd pc 27
 (zlf pc 24 (s_gI 10 4 27))
 (zlf pc 27 (s_ifeq 42 30))))
 (znd pc 32
 (zlf pc 30 (s_aload 5 32))
 (znd pc 35
 (zlf pc 32 (s_gI 10 5 35))
 (zlf pc 35 (s_ifne 42 38)))))
 (znd pc 43
 (znd pc 39
 (zlf pc 38 (s_ic 1 39))
 (znd pc 42
 (zlf pc 39 (s_goto 43))
 (zlf pc 42 (s_ic 0 43))))
 (znd pc 48
 (znd pc 46
 (zlf pc 43 (s_cV zpS 17 1 [] zx0 46))
 (zlf pc 46 (s_aload 6 48)))
 (znd pc 51
 (zlf pc 48 (s_gI 8 0 51))
 (zlf pc 51 (s_aload 5 53)))))))
 (znd pc 82
 (znd pc 68
 (znd pc 61
 (znd pc 56
 (zlf pc 53 (s_gI 10 0 56))
 (znd pc 59
 (zlf pc 56 (s_cmpne 75 59))
 (zlf pc 59 (s_aload 6 61))))
 (znd pc 62
 (zlf pc 61 (s_aload 0 62))
 (znd pc 65
 (zlf pc 62 (s_gI 12 7 65))
 (zlf pc 65 (s_cI (zpV 8) 149 2 [] zx0 68)))))
 (znd pc 75
 (znd pc 71
 (zlf pc 68 (s_ifeq 75 71))
 (znd pc 72
 (zlf pc 71 (s_ic 1 72))
 (zlf pc 72 (s_goto 76))))
 (znd pc 79
 (znd pc 76
 (zlf pc 75 (s_ic 0 76))
 (zlf pc 76 (s_cV zpS 17 1 [] zx0 79)))
 (znd pc 81
 (zlf pc 79 (s_aload 5 81))
 (zlf pc 81 (s_iload 3 82))))))
 (znd pc 96
 (znd pc 88
 (znd pc 84
 (zlf pc 82 (s_aload 6 84))
 (znd pc 85
 (zlf pc 84 (s_aload 0 85))
 (zlf pc 85 (s_gI 12 7 88))))
 (znd pc 91
 (zlf pc 88 (s_cV (zpV 10) 150 4 [] zx0 91))
 (znd pc 93
 (zlf pc 91 (s_aload 5 93))
 (zlf pc 93 (s_cV (zpV 10) 185 1 [] zx0 96)))))
 (znd pc 102
 (znd pc 98
 (zlf pc 96 (s_aload 4 98))
 (znd pc 99
 (zlf pc 98 (s_ic 0 99))
 (zlf pc 99 (s_pZ 1 1 102))))
 (znd pc 105
 (znd pc 104
 (zlf pc 102 (s_aload 4 104))
 (zlf pc 104 (s_ic 1 105)))
 (znd pc 108
 (zlf pc 105 (s_cI (zpV 1) 180 2 [zU, zU, zU] zx0 108))
 (zlf pc 108 (s_rI)))))))
theorem zm_X11_repair (G : Nat × Nat) (pc : Nat) : zMon (zc_X11_repair G pc) := (mo_d (mo_d (mo_d (mo_d (mo_d (mo_l (mo_aload _ _)) (mo_d (mo_l (mo_iload _ _)) (mo_l (mo_cR _ _ _ _ (zPre_V _) zHm_0)))) (mo_d (mo_l (mo_astore _ _)) (mo_d (mo_l (mo_aload _ _)) (mo_l (mo_iload _ _))))) (mo_d (mo_d (mo_l (mo_cR _ _ _ _ (zPre_V _) zHm_0)) (mo_d (mo_l (mo_astore _ _)) (mo_l (mo_aload _ _)))) (mo_d (mo_l (mo_iload _ _)) (mo_d (mo_l (mo_cR _ _ _ _ (zPre_V _) zHm_0)) (mo_l (mo_astore _ _)))))) (mo_d (mo_d (mo_d (mo_l (mo_aload _ _)) (mo_d (mo_l (mo_gI _ _ _)) (mo_l (mo_ifeq _ _)))) (mo_d (mo_l (mo_aload _ _)) (mo_d (mo_l (mo_gI _ _ _)) (mo_l (mo_ifne _ _))))) (mo_d (mo_d (mo_l (mo_ic _ _)) (mo_d (mo_l (mo_goto _)) (mo_l (mo_ic _ _)))) (mo_d (mo_d (mo_l (mo_cV _ _ _ _ zPre_S zHm_0)) (mo_l (mo_aload _ _))) (mo_d (mo_l (mo_gI _ _ _)) (mo_l (mo_aload _ _))))))) (mo_d (mo_d (mo_d (mo_d (mo_l (mo_gI _ _ _)) (mo_d (mo_l (mo_cmpne _ _)) (mo_l (mo_aload _ _)))) (mo_d (mo_l (mo_aload _ _)) (mo_d (mo_l (mo_gI _ _ _)) (mo_l (mo_cI _ _ _ _ (zPre_V _) zHm_0))))) (mo_d (mo_d (mo_l (mo_ifeq _ _)) (mo_d (mo_l (mo_ic _ _)) (mo_l (mo_goto _)))) (mo_d (mo_d (mo_l (mo_ic _ _)) (mo_l (mo_cV _ _ _ _ zPre_S zHm_0))) (mo_d (mo_l (mo_aload _ _)) (mo_l (mo_iload _ _)))))) (mo_d (mo_d (mo_d (mo_l (mo_aload _ _)) (mo_d (mo_l (mo_aload _ _)) (mo_l (mo_gI _ _ _)))) (mo_d (mo_l (mo_cV _ _ _ _ (zPre_V _) zHm_0)) (mo_d (mo_l (mo_aload _ _)) (mo_l (mo_cV _ _ _ _ (zPre_V _) zHm_0))))) (mo_d (mo_d (mo_l (mo_aload _ _)) (mo_d (mo_l (mo_ic _ _)) (mo_l (mo_pZ _ _ _)))) (mo_d (mo_d (mo_l (mo_aload _ _)) (mo_l (mo_ic _ _))) (mo_d (mo_l (mo_cI _ _ _ _ (zPre_V _) zHm_0)) (mo_l (mo_rI))))))))
def zc_L_repair (G : Nat × Nat) : Nat → zSem := fun pc =>
 znd pc 11
 (znd pc 5
 (znd pc 3
 (znd pc 2
 (zlf pc 0 (s_aload 4 2))
 (zlf pc 2 (s_ic 0 3)))
 (znd pc 4
 (zlf pc 3 (s_aload 0 4))
 (zlf pc 4 (s_iload 1 5))))
 (znd pc 7
 (znd pc 6
 (zlf pc 5 (s_iload 2 6))
 (zlf pc 6 (s_iload 3 7)))
 (znd pc 10
 (zlf pc 7 (s_cI (zpV 12) 186 4 [zU, zU, zU] (zxc 5 [(0, 17), (2, 21)]) 10))
 (zlf pc 10 (s_i2l 11)))))
 (znd pc 21
 (znd pc 17
 (znd pc 12
 (zlf pc 11 (s_last 12))
 (zlf pc 12 (s_goto 23)))
 (znd pc 18
 (zlf pc 17 (s_ic 1 18))
 (zlf pc 18 (s_rI))))
 (znd pc 23
 (znd pc 22
 (zlf pc 21 (s_ic 2 22))
 (zlf pc 22 (s_rI)))
 (znd pc 24
 (zlf pc 23 (s_ic 0 24))
 (zlf pc 24 (s_rI)))))
theorem zm_L_repair (G : Nat × Nat) (pc : Nat) : zMon (zc_L_repair G pc) := (mo_d (mo_d (mo_d (mo_d (mo_l (mo_aload _ _)) (mo_l (mo_ic _ _))) (mo_d (mo_l (mo_aload _ _)) (mo_l (mo_iload _ _)))) (mo_d (mo_d (mo_l (mo_iload _ _)) (mo_l (mo_iload _ _))) (mo_d (mo_l (mo_cI _ _ _ _ (zPre_V _) (zHm_c _ _))) (mo_l (mo_i2l _))))) (mo_d (mo_d (mo_d (mo_l (mo_last _)) (mo_l (mo_goto _))) (mo_d (mo_l (mo_ic _ _)) (mo_l (mo_rI)))) (mo_d (mo_d (mo_l (mo_ic _ _)) (mo_l (mo_rI))) (mo_d (mo_l (mo_ic _ _)) (mo_l (mo_rI))))))
def zc_X12_repair (G : Nat × Nat) : Nat → zSem := fun pc =>
 znd pc 108
 (znd pc 53
 (znd pc 28
 (znd pc 15
 (znd pc 5
 (znd pc 1
 (zlf pc 0 (s_aload 0 1))
 (znd pc 2
 (zlf pc 1 (s_iload 1 2))
 (zlf pc 2 (s_cI (zpV 13) 153 2 [] zx0 5))))
 (znd pc 9
 (znd pc 8
 (zlf pc 5 (s_ifeq 27 8))
 (zlf pc 8 (s_iload 2 9)))
 (znd pc 12
 (zlf pc 9 (s_cI zpS 154 1 [] zx0 12))
 (zlf pc 12 (s_ifeq 27 15)))))
 (znd pc 20
 (znd pc 16
 (zlf pc 15 (s_aload 0 16))
 (znd pc 17
 (zlf pc 16 (s_iload 3 17))
 (zlf pc 17 (s_cI (zpV 13) 135 2 [] zx0 20))))
 (znd pc 24
 (znd pc 23
 (zlf pc 20 (s_ifeq 27 23))
 (zlf pc 23 (s_ic 1 24)))
 (znd pc 27
 (zlf pc 24 (s_goto 28))
 (zlf pc 27 (s_ic 0 28))))))
 (znd pc 40
 (znd pc 35
 (znd pc 30
 (zlf pc 28 (s_istore 4 30))
 (znd pc 32
 (zlf pc 30 (s_iload 4 32))
 (zlf pc 32 (s_ifeq 44 35))))
 (znd pc 38
 (znd pc 37
 (zlf pc 35 (s_ic 8 37))
 (zlf pc 37 (s_iload 1 38)))
 (znd pc 39
 (zlf pc 38 (s_imul 39))
 (zlf pc 39 (s_iload 2 40)))))
 (znd pc 45
 (znd pc 41
 (zlf pc 40 (s_iadd 41))
 (znd pc 44
 (zlf pc 41 (s_goto 45))
 (zlf pc 44 (s_ic 0 45))))
 (znd pc 49
 (znd pc 47
 (zlf pc 45 (s_istore 5 47))
 (zlf pc 47 (s_iload 4 49)))
 (znd pc 52
 (zlf pc 49 (s_ifeq 105 52))
 (zlf pc 52 (s_aload 0 53)))))))
 (znd pc 79
 (znd pc 68
 (znd pc 59
 (znd pc 56
 (zlf pc 53 (s_gR 13 42 56))
 (znd pc 58
 (zlf pc 56 (s_iload 5 58))
 (zlf pc 58 (s_zald 59))))
 (znd pc 63
 (znd pc 62
 (zlf pc 59 (s_ifeq 105 62))
 (zlf pc 62 (s_aload 0 63)))
 (znd pc 66
 (zlf pc 63 (s_gR 13 43 66))
 (zlf pc 66 (s_iload 5 68)))))
 (znd pc 73
 (znd pc 69
 (zlf pc 68 (s_zald 69))
 (znd pc 72
 (zlf pc 69 (s_ifne 105 72))
 (zlf pc 72 (s_aload 0 73))))
 (znd pc 77
 (znd pc 76
 (zlf pc 73 (s_gR 13 26 76))
 (zlf pc 76 (s_iload 3 77)))
 (znd pc 78
 (zlf pc 77 (s_iald 78))
 (zlf pc 78 (s_aload 0 79))))))
 (znd pc 93
 (znd pc 86
 (znd pc 82
 (zlf pc 79 (s_gR 13 26 82))
 (znd pc 83
 (zlf pc 82 (s_aload 0 83))
 (zlf pc 83 (s_gR 13 38 86))))
 (znd pc 89
 (znd pc 88
 (zlf pc 86 (s_iload 5 88))
 (zlf pc 88 (s_iald 89)))
 (znd pc 90
 (zlf pc 89 (s_iald 90))
 (zlf pc 90 (s_cmpne 105 93)))))
 (znd pc 101
 (znd pc 95
 (znd pc 94
 (zlf pc 93 (s_aload 0 94))
 (zlf pc 94 (s_iload 3 95)))
 (znd pc 98
 (zlf pc 95 (s_cI (zpV 13) 155 2 [] zx0 98))
 (zlf pc 98 (s_ifeq 105 101))))
 (znd pc 105
 (znd pc 102
 (zlf pc 101 (s_ic 1 102))
 (zlf pc 102 (s_goto 106)))
 (znd pc 106
 (zlf pc 105 (s_ic 0 106))
 (zlf pc 106 (s_istore 6 108))))))))
 (znd pc 161
 (znd pc 136
 (znd pc 123
 (znd pc 114
 (znd pc 109
 (zlf pc 108 (s_aload 0 109))
 (znd pc 111
 (zlf pc 109 (s_iload 4 111))
 (zlf pc 111 (s_ifne 118 114))))
 (znd pc 118
 (znd pc 115
 (zlf pc 114 (s_ic 1 115))
 (zlf pc 115 (s_goto 128)))
 (znd pc 120
 (zlf pc 118 (s_iload 6 120))
 (zlf pc 120 (s_ifeq 127 123)))))
 (znd pc 128
 (znd pc 124
 (zlf pc 123 (s_ic 0 124))
 (znd pc 127
 (zlf pc 124 (s_goto 128))
 (zlf pc 127 (s_ic 2 128))))
 (znd pc 134
 (znd pc 131
 (zlf pc 128 (s_cI (zpV 13) 33 2 [] zx0 131))
 (zlf pc 131 (s_ifeq 136 134)))
 (znd pc 135
 (zlf pc 134 (s_ic 0 135))
 (zlf pc 135 (s_rI))))))
 (znd pc 148
 (znd pc 142
 (znd pc 137
 (zlf pc 136 (s_aload 0 137))
 (znd pc 140
 (zlf pc 137 (s_gR 13 38 140))
 (zlf pc 140 (s_iload 5 142))))
 (znd pc 144
 (znd pc 143
 (zlf pc 142 (s_iload 3 143))
 (zlf pc 143 (s_iast 144)))
 (znd pc 145
 (zlf pc 144 (s_aload 0 145))
 (zlf pc 145 (s_gR 13 39 148)))))
 (znd pc 155
 (znd pc 151
 (znd pc 150
 (zlf pc 148 (s_iload 5 150))
 (zlf pc 150 (s_aload 0 151)))
 (znd pc 154
 (zlf pc 151 (s_gI 13 24 154))
 (zlf pc 154 (s_iast 155))))
 (znd pc 159
 (znd pc 156
 (zlf pc 155 (s_aload 0 156))
 (zlf pc 156 (s_gR 13 27 159)))
 (znd pc 160
 (zlf pc 159 (s_iload 3 160))
 (zlf pc 160 (s_dup2 161)))))))
 (znd pc 181
 (znd pc 171
 (znd pc 164
 (znd pc 162
 (zlf pc 161 (s_iald 162))
 (znd pc 163
 (zlf pc 162 (s_ic 1 163))
 (zlf pc 163 (s_isub 164))))
 (znd pc 166
 (znd pc 165
 (zlf pc 164 (s_iast 165))
 (zlf pc 165 (s_aload 0 166)))
 (znd pc 169
 (zlf pc 166 (s_gR 13 41 169))
 (zlf pc 169 (s_iload 5 171)))))
 (znd pc 174
 (znd pc 172
 (zlf pc 171 (s_ic 0 172))
 (znd pc 173
 (zlf pc 172 (s_iast 173))
 (zlf pc 173 (s_aload 0 174))))
 (znd pc 179
 (znd pc 177
 (zlf pc 174 (s_gR 13 42 177))
 (zlf pc 177 (s_iload 5 179)))
 (znd pc 180
 (zlf pc 179 (s_ic 0 180))
 (zlf pc 180 (s_zast 181))))))
 (znd pc 193
 (znd pc 187
 (znd pc 182
 (zlf pc 181 (s_aload 0 182))
 (znd pc 185
 (zlf pc 182 (s_gR 13 43 185))
 (zlf pc 185 (s_iload 5 187))))
 (znd pc 189
 (znd pc 188
 (zlf pc 187 (s_ic 1 188))
 (zlf pc 188 (s_zast 189)))
 (znd pc 190
 (zlf pc 189 (s_aload 0 190))
 (zlf pc 190 (s_gR 13 36 193)))))
 (znd pc 197
 (znd pc 195
 (znd pc 194
 (zlf pc 193 (s_iload 1 194))
 (zlf pc 194 (s_ic 0 195)))
 (znd pc 196
 (zlf pc 195 (s_zast 196))
 (zlf pc 196 (s_aload 0 197))))
 (znd pc 199
 (znd pc 198
 (zlf pc 197 (s_iload 1 198))
 (zlf pc 198 (s_ic 1 199)))
 (znd pc 202
 (zlf pc 199 (s_cI (zpV 13) 183 3 [zU, zU] zx0 202))
 (zlf pc 202 (s_rI))))))))
theorem zm_X12_repair (G : Nat × Nat) (pc : Nat) : zMon (zc_X12_repair G pc) := (mo_d (mo_d (mo_d (mo_d (mo_d (mo_d (mo_l (mo_aload _ _)) (mo_d (mo_l (mo_iload _ _)) (mo_l (mo_cI _ _ _ _ (zPre_V _) zHm_0)))) (mo_d (mo_d (mo_l (mo_ifeq _ _)) (mo_l (mo_iload _ _))) (mo_d (mo_l (mo_cI _ _ _ _ zPre_S zHm_0)) (mo_l (mo_ifeq _ _))))) (mo_d (mo_d (mo_l (mo_aload _ _)) (mo_d (mo_l (mo_iload _ _)) (mo_l (mo_cI _ _ _ _ (zPre_V _) zHm_0)))) (mo_d (mo_d (mo_l (mo_ifeq _ _)) (mo_l (mo_ic _ _))) (mo_d (mo_l (mo_goto _)) (mo_l (mo_ic _ _)))))) (mo_d (mo_d (mo_d (mo_l (mo_istore _ _)) (mo_d (mo_l (mo_iload _ _)) (mo_l (mo_ifeq _ _)))) (mo_d (mo_d (mo_l (mo_ic _ _)) (mo_l (mo_iload _ _))) (mo_d (mo_l (mo_imul _)) (mo_l (mo_iload _ _))))) (mo_d (mo_d (mo_l (mo_iadd _)) (mo_d (mo_l (mo_goto _)) (mo_l (mo_ic _ _)))) (mo_d (mo_d (mo_l (mo_istore _ _)) (mo_l (mo_iload _ _))) (mo_d (mo_l (mo_ifeq _ _)) (mo_l (mo_aload _ _))))))) (mo_d (mo_d (mo_d (mo_d (mo_l (mo_gR _ _ _)) (mo_d (mo_l (mo_iload _ _)) (mo_l (mo_zald _)))) (mo_d (mo_d (mo_l (mo_ifeq _ _)) (mo_l (mo_aload _ _))) (mo_d (mo_l (mo_gR _ _ _)) (mo_l (mo_iload _ _))))) (mo_d (mo_d (mo_l (mo_zald _)) (mo_d (mo_l (mo_ifne _ _)) (mo_l (mo_aload _ _)))) (mo_d (mo_d (mo_l (mo_gR _ _ _)) (mo_l (mo_iload _ _))) (mo_d (mo_l (mo_iald _)) (mo_l (mo_aload _ _)))))) (mo_d (mo_d (mo_d (mo_l (mo_gR _ _ _)) (mo_d (mo_l (mo_aload _ _)) (mo_l (mo_gR _ _ _)))) (mo_d (mo_d (mo_l (mo_iload _ _)) (mo_l (mo_iald _))) (mo_d (mo_l (mo_iald _)) (mo_l (mo_cmpne _ _))))) (mo_d (mo_d (mo_d (mo_l (mo_aload _ _)) (mo_l (mo_iload _ _))) (mo_d (mo_l (mo_cI _ _ _ _ (zPre_V _) zHm_0)) (mo_l (mo_ifeq _ _)))) (mo_d (mo_d (mo_l (mo_ic _ _)) (mo_l (mo_goto _))) (mo_d (mo_l (mo_ic _ _)) (mo_l (mo_istore _ _)))))))) (mo_d (mo_d (mo_d (mo_d (mo_d (mo_l (mo_aload _ _)) (mo_d (mo_l (mo_iload _ _)) (mo_l (mo_ifne _ _)))) (mo_d (mo_d (mo_l (mo_ic _ _)) (mo_l (mo_goto _))) (mo_d (mo_l (mo_iload _ _)) (mo_l (mo_ifeq _ _))))) (mo_d (mo_d (mo_l (mo_ic _ _)) (mo_d (mo_l (mo_goto _)) (mo_l (mo_ic _ _)))) (mo_d (mo_d (mo_l (mo_cI _ _ _ _ (zPre_V _) zHm_0)) (mo_l (mo_ifeq _ _))) (mo_d (mo_l (mo_ic _ _)) (mo_l (mo_rI)))))) (mo_d (mo_d (mo_d (mo_l (mo_aload _ _)) (mo_d (mo_l (mo_gR _ _ _)) (mo_l (mo_iload _ _)))) (mo_d (mo_d (mo_l (mo_iload _ _)) (mo_l (mo_iast _))) (mo_d (mo_l (mo_aload _ _)) (mo_l (mo_gR _ _ _))))) (mo_d (mo_d (mo_d (mo_l (mo_iload _ _)) (mo_l (mo_aload _ _))) (mo_d (mo_l (mo_gI _ _ _)) (mo_l (mo_iast _)))) (mo_d (mo_d (mo_l (mo_aload _ _)) (mo_l (mo_gR _ _ _))) (mo_d (mo_l (mo_iload _ _)) (mo_l (mo_dup2 _))))))) (mo_d (mo_d (mo_d (mo_d (mo_l (mo_iald _)) (mo_d (mo_l (mo_ic _ _)) (mo_l (mo_isub _)))) (mo_d (mo_d (mo_l (mo_iast _)) (mo_l (mo_aload _ _))) (mo_d (mo_l (mo_gR _ _ _)) (mo_l (mo_iload _ _))))) (mo_d (mo_d (mo_l (mo_ic _ _)) (mo_d (mo_l (mo_iast _)) (mo_l (mo_aload _ _)))) (mo_d (mo_d (mo_l (mo_gR _ _ _)) (mo_l (mo_iload _ _))) (mo_d (mo_l (mo_ic _ _)) (mo_l (mo_zast _)))))) (mo_d (mo_d (mo_d (mo_l (mo_aload _ _)) (mo_d (mo_l (mo_gR _ _ _)) (mo_l (mo_iload _ _)))) (mo_d (mo_d (mo_l (mo_ic _ _)) (mo_l (mo_zast _))) (mo_d (mo_l (mo_aload _ _)) (mo_l (mo_gR _ _ _))))) (mo_d (mo_d (mo_d (mo_l (mo_iload _ _)) (mo_l (mo_ic _ _))) (mo_d (mo_l (mo_zast _)) (mo_l (mo_aload _ _)))) (mo_d (mo_d (mo_l (mo_iload _ _)) (mo_l (mo_ic _ _))) (mo_d (mo_l (mo_cI _ _ _ _ (zPre_V _) zHm_0)) (mo_l (mo_rI)))))))))
def zc_X11_ship (G : Nat × Nat) : Nat → zSem := fun pc =>
 znd pc 22
 (znd pc 10
 (znd pc 5
 (znd pc 1
 (zlf pc 0 (s_aload 0 1))
 (znd pc 2
 (zlf pc 1 (s_iload 1 2))
 (zlf pc 2 (s_cR (zpV 12) 146 2 [] zx0 5))))
 (znd pc 6
 (zlf pc 5 (s_astore 2 6))
 (znd pc 7
 (zlf pc 6 (s_aload 2 7))
 (zlf pc 7 (s_gI 1 2 10)))))
 (znd pc 17
 (znd pc 13
 (zlf pc 10 (s_ifne 32 13))
 (znd pc 14
 (zlf pc 13 (s_aload 2 14))
 (zlf pc 14 (s_gI 1 1 17))))
 (znd pc 20
 (zlf pc 17 (s_ifeq 32 20))
 (znd pc 21
 (zlf pc 20 (s_aload 2 21))
 (zlf pc 21 (s_ic 1 22))))))
 (znd pc 36
 (znd pc 29
 (znd pc 25
 (zlf pc 22 (s_cI (zpV 1) 180 2 [zU, zU, zU] zx0 25))
 (znd pc 28
 (zlf pc 25 (s_ifne 32 28))
 (zlf pc 28 (s_ic 1 29))))
 (znd pc 32
 (zlf pc 29 (s_goto 33))
 (znd pc 33
 (zlf pc 32 (s_ic 0 33))
 (zlf pc 33 (s_cV zpS 17 1 [] zx0 36)))))
 (znd pc 41
 (znd pc 37
 (zlf pc 36 (s_aload 2 37))
 (znd pc 38
 (zlf pc 37 (s_ic 1 38))
 (zlf pc 38 (s_pZ 1 2 41))))
 (znd pc 43
 (znd pc 42
 (zlf pc 41 (s_aload 2 42))
 (zlf pc 42 (s_ic 0 43)))
 (znd pc 46
 (zlf pc 43 (s_cI (zpV 1) 180 2 [zU, zU, zU] zx0 46))
 (zlf pc 46 (s_rI))))))
theorem zm_X11_ship (G : Nat × Nat) (pc : Nat) : zMon (zc_X11_ship G pc) := (mo_d (mo_d (mo_d (mo_d (mo_l (mo_aload _ _)) (mo_d (mo_l (mo_iload _ _)) (mo_l (mo_cR _ _ _ _ (zPre_V _) zHm_0)))) (mo_d (mo_l (mo_astore _ _)) (mo_d (mo_l (mo_aload _ _)) (mo_l (mo_gI _ _ _))))) (mo_d (mo_d (mo_l (mo_ifne _ _)) (mo_d (mo_l (mo_aload _ _)) (mo_l (mo_gI _ _ _)))) (mo_d (mo_l (mo_ifeq _ _)) (mo_d (mo_l (mo_aload _ _)) (mo_l (mo_ic _ _)))))) (mo_d (mo_d (mo_d (mo_l (mo_cI _ _ _ _ (zPre_V _) zHm_0)) (mo_d (mo_l (mo_ifne _ _)) (mo_l (mo_ic _ _)))) (mo_d (mo_l (mo_goto _)) (mo_d (mo_l (mo_ic _ _)) (mo_l (mo_cV _ _ _ _ zPre_S zHm_0))))) (mo_d (mo_d (mo_l (mo_aload _ _)) (mo_d (mo_l (mo_ic _ _)) (mo_l (mo_pZ _ _ _)))) (mo_d (mo_d (mo_l (mo_aload _ _)) (mo_l (mo_ic _ _))) (mo_d (mo_l (mo_cI _ _ _ _ (zPre_V _) zHm_0)) (mo_l (mo_rI)))))))
def zc_L_ship (G : Nat × Nat) : Nat → zSem := fun pc =>
 znd pc 9
 (znd pc 3
 (znd pc 1
 (zlf pc 0 (s_aload 2 1))
 (znd pc 2
 (zlf pc 1 (s_ic 0 2))
 (zlf pc 2 (s_aload 0 3))))
 (znd pc 7
 (znd pc 4
 (zlf pc 3 (s_iload 1 4))
 (zlf pc 4 (s_cI (zpV 12) 189 2 [zU] (zxc 3 [(0, 13), (2, 16)]) 7)))
 (znd pc 8
 (zlf pc 7 (s_i2l 8))
 (zlf pc 8 (s_last 9)))))
 (znd pc 16
 (znd pc 13
 (zlf pc 9 (s_goto 18))
 (znd pc 14
 (zlf pc 13 (s_ic 1 14))
 (zlf pc 14 (s_rI))))
 (znd pc 18
 (znd pc 17
 (zlf pc 16 (s_ic 2 17))
 (zlf pc 17 (s_rI)))
 (znd pc 19
 (zlf pc 18 (s_ic 0 19))
 (zlf pc 19 (s_rI)))))
theorem zm_L_ship (G : Nat × Nat) (pc : Nat) : zMon (zc_L_ship G pc) := (mo_d (mo_d (mo_d (mo_l (mo_aload _ _)) (mo_d (mo_l (mo_ic _ _)) (mo_l (mo_aload _ _)))) (mo_d (mo_d (mo_l (mo_iload _ _)) (mo_l (mo_cI _ _ _ _ (zPre_V _) (zHm_c _ _)))) (mo_d (mo_l (mo_i2l _)) (mo_l (mo_last _))))) (mo_d (mo_d (mo_l (mo_goto _)) (mo_d (mo_l (mo_ic _ _)) (mo_l (mo_rI)))) (mo_d (mo_d (mo_l (mo_ic _ _)) (mo_l (mo_rI))) (mo_d (mo_l (mo_ic _ _)) (mo_l (mo_rI))))))
def zc_X12_ship (G : Nat × Nat) : Nat → zSem := fun pc =>
 znd pc 33
 (znd pc 17
 (znd pc 6
 (znd pc 2
 (znd pc 1
 (zlf pc 0 (s_aload 0 1))
 (zlf pc 1 (s_aload 0 2)))
 (znd pc 3
 (zlf pc 2 (s_iload 1 3))
 (zlf pc 3 (s_cI (zpV 13) 153 2 [] zx0 6))))
 (znd pc 10
 (znd pc 9
 (zlf pc 6 (s_ifne 13 9))
 (zlf pc 9 (s_ic 1 10)))
 (znd pc 13
 (zlf pc 10 (s_goto 45))
 (znd pc 14
 (zlf pc 13 (s_aload 0 14))
 (zlf pc 14 (s_gR 13 37 17))))))
 (znd pc 26
 (znd pc 19
 (znd pc 18
 (zlf pc 17 (s_iload 1 18))
 (zlf pc 18 (s_zald 19)))
 (znd pc 22
 (zlf pc 19 (s_ifne 40 22))
 (znd pc 23
 (zlf pc 22 (s_aload 0 23))
 (zlf pc 23 (s_gR 13 36 26)))))
 (znd pc 28
 (znd pc 27
 (zlf pc 26 (s_iload 1 27))
 (zlf pc 27 (s_zald 28)))
 (znd pc 31
 (zlf pc 28 (s_ifeq 40 31))
 (znd pc 32
 (zlf pc 31 (s_aload 0 32))
 (zlf pc 32 (s_iload 1 33)))))))
 (znd pc 53
 (znd pc 44
 (znd pc 37
 (znd pc 34
 (zlf pc 33 (s_ic 1 34))
 (zlf pc 34 (s_cI (zpV 13) 183 3 [zU, zU] zx0 37)))
 (znd pc 40
 (zlf pc 37 (s_ifle 44 40))
 (znd pc 41
 (zlf pc 40 (s_ic 2 41))
 (zlf pc 41 (s_goto 45)))))
 (znd pc 48
 (znd pc 45
 (zlf pc 44 (s_ic 0 45))
 (zlf pc 45 (s_cI (zpV 13) 33 2 [] zx0 48)))
 (znd pc 51
 (zlf pc 48 (s_ifeq 53 51))
 (znd pc 52
 (zlf pc 51 (s_ic 0 52))
 (zlf pc 52 (s_rI))))))
 (znd pc 60
 (znd pc 57
 (znd pc 54
 (zlf pc 53 (s_aload 0 54))
 (zlf pc 54 (s_gR 13 37 57)))
 (znd pc 58
 (zlf pc 57 (s_iload 1 58))
 (znd pc 59
 (zlf pc 58 (s_ic 1 59))
 (zlf pc 59 (s_zast 60)))))
 (znd pc 62
 (znd pc 61
 (zlf pc 60 (s_aload 0 61))
 (zlf pc 61 (s_iload 1 62)))
 (znd pc 63
 (zlf pc 62 (s_ic 0 63))
 (znd pc 66
 (zlf pc 63 (s_cI (zpV 13) 183 3 [zU, zU] zx0 66))
 (zlf pc 66 (s_rI)))))))
theorem zm_X12_ship (G : Nat × Nat) (pc : Nat) : zMon (zc_X12_ship G pc) := (mo_d (mo_d (mo_d (mo_d (mo_d (mo_l (mo_aload _ _)) (mo_l (mo_aload _ _))) (mo_d (mo_l (mo_iload _ _)) (mo_l (mo_cI _ _ _ _ (zPre_V _) zHm_0)))) (mo_d (mo_d (mo_l (mo_ifne _ _)) (mo_l (mo_ic _ _))) (mo_d (mo_l (mo_goto _)) (mo_d (mo_l (mo_aload _ _)) (mo_l (mo_gR _ _ _)))))) (mo_d (mo_d (mo_d (mo_l (mo_iload _ _)) (mo_l (mo_zald _))) (mo_d (mo_l (mo_ifne _ _)) (mo_d (mo_l (mo_aload _ _)) (mo_l (mo_gR _ _ _))))) (mo_d (mo_d (mo_l (mo_iload _ _)) (mo_l (mo_zald _))) (mo_d (mo_l (mo_ifeq _ _)) (mo_d (mo_l (mo_aload _ _)) (mo_l (mo_iload _ _))))))) (mo_d (mo_d (mo_d (mo_d (mo_l (mo_ic _ _)) (mo_l (mo_cI _ _ _ _ (zPre_V _) zHm_0))) (mo_d (mo_l (mo_ifle _ _)) (mo_d (mo_l (mo_ic _ _)) (mo_l (mo_goto _))))) (mo_d (mo_d (mo_l (mo_ic _ _)) (mo_l (mo_cI _ _ _ _ (zPre_V _) zHm_0))) (mo_d (mo_l (mo_ifeq _ _)) (mo_d (mo_l (mo_ic _ _)) (mo_l (mo_rI)))))) (mo_d (mo_d (mo_d (mo_l (mo_aload _ _)) (mo_l (mo_gR _ _ _))) (mo_d (mo_l (mo_iload _ _)) (mo_d (mo_l (mo_ic _ _)) (mo_l (mo_zast _))))) (mo_d (mo_d (mo_l (mo_aload _ _)) (mo_l (mo_iload _ _))) (mo_d (mo_l (mo_ic _ _)) (mo_d (mo_l (mo_cI _ _ _ _ (zPre_V _) zHm_0)) (mo_l (mo_rI))))))))
def zc_X11_pass (G : Nat × Nat) : Nat → zSem := fun pc =>
 znd pc 24
 (znd pc 12
 (znd pc 5
 (znd pc 1
 (zlf pc 0 (s_iload 1 1))
 (znd pc 2
 (zlf pc 1 (s_ic 1 2))
 (zlf pc 2 (s_ic 999 5))))
 (znd pc 8
 (zlf pc 5 (s_cI zpS 14 3 [] zx0 8))
 (znd pc 11
 (zlf pc 8 (s_cV zpS 15 1 [] zx0 11))
 (zlf pc 11 (s_aload 0 12)))))
 (znd pc 17
 (znd pc 15
 (zlf pc 12 (s_gI 12 7 15))
 (znd pc 16
 (zlf pc 15 (s_iload 1 16))
 (zlf pc 16 (s_iadd 17))))
 (znd pc 20
 (zlf pc 17 (s_ic 9999 20))
 (znd pc 23
 (zlf pc 20 (s_cmpgt 27 23))
 (zlf pc 23 (s_ic 1 24))))))
 (znd pc 36
 (znd pc 31
 (znd pc 27
 (zlf pc 24 (s_goto 28))
 (znd pc 28
 (zlf pc 27 (s_ic 0 28))
 (zlf pc 28 (s_cV zpS 17 1 [] zx0 31))))
 (znd pc 32
 (zlf pc 31 (s_aload 0 32))
 (znd pc 33
 (zlf pc 32 (s_dup 33))
 (zlf pc 33 (s_gI 12 7 36)))))
 (znd pc 41
 (znd pc 37
 (zlf pc 36 (s_iload 1 37))
 (znd pc 38
 (zlf pc 37 (s_iadd 38))
 (zlf pc 38 (s_pI 12 7 41))))
 (znd pc 42
 (zlf pc 41 (s_aload 0 42))
 (znd pc 45
 (zlf pc 42 (s_gI 12 7 45))
 (zlf pc 45 (s_rI))))))
theorem zm_X11_pass (G : Nat × Nat) (pc : Nat) : zMon (zc_X11_pass G pc) := (mo_d (mo_d (mo_d (mo_d (mo_l (mo_iload _ _)) (mo_d (mo_l (mo_ic _ _)) (mo_l (mo_ic _ _)))) (mo_d (mo_l (mo_cI _ _ _ _ zPre_S zHm_0)) (mo_d (mo_l (mo_cV _ _ _ _ zPre_S zHm_0)) (mo_l (mo_aload _ _))))) (mo_d (mo_d (mo_l (mo_gI _ _ _)) (mo_d (mo_l (mo_iload _ _)) (mo_l (mo_iadd _)))) (mo_d (mo_l (mo_ic _ _)) (mo_d (mo_l (mo_cmpgt _ _)) (mo_l (mo_ic _ _)))))) (mo_d (mo_d (mo_d (mo_l (mo_goto _)) (mo_d (mo_l (mo_ic _ _)) (mo_l (mo_cV _ _ _ _ zPre_S zHm_0)))) (mo_d (mo_l (mo_aload _ _)) (mo_d (mo_l (mo_dup _)) (mo_l (mo_gI _ _ _))))) (mo_d (mo_d (mo_l (mo_iload _ _)) (mo_d (mo_l (mo_iadd _)) (mo_l (mo_pI _ _ _)))) (mo_d (mo_l (mo_aload _ _)) (mo_d (mo_l (mo_gI _ _ _)) (mo_l (mo_rI)))))))
def zc_L_pass (G : Nat × Nat) : Nat → zSem := fun pc =>
 znd pc 9
 (znd pc 3
 (znd pc 1
 (zlf pc 0 (s_aload 2 1))
 (znd pc 2
 (zlf pc 1 (s_ic 0 2))
 (zlf pc 2 (s_aload 0 3))))
 (znd pc 7
 (znd pc 4
 (zlf pc 3 (s_iload 1 4))
 (zlf pc 4 (s_cI (zpV 12) 192 2 [] (zxc 3 [(1, 13), (2, 16)]) 7)))
 (znd pc 8
 (zlf pc 7 (s_i2l 8))
 (zlf pc 8 (s_last 9)))))
 (znd pc 16
 (znd pc 13
 (zlf pc 9 (s_goto 18))
 (znd pc 14
 (zlf pc 13 (s_ic 1 14))
 (zlf pc 14 (s_rI))))
 (znd pc 18
 (znd pc 17
 (zlf pc 16 (s_ic 2 17))
 (zlf pc 17 (s_rI)))
 (znd pc 19
 (zlf pc 18 (s_ic 0 19))
 (zlf pc 19 (s_rI)))))
theorem zm_L_pass (G : Nat × Nat) (pc : Nat) : zMon (zc_L_pass G pc) := (mo_d (mo_d (mo_d (mo_l (mo_aload _ _)) (mo_d (mo_l (mo_ic _ _)) (mo_l (mo_aload _ _)))) (mo_d (mo_d (mo_l (mo_iload _ _)) (mo_l (mo_cI _ _ _ _ (zPre_V _) (zHm_c _ _)))) (mo_d (mo_l (mo_i2l _)) (mo_l (mo_last _))))) (mo_d (mo_d (mo_l (mo_goto _)) (mo_d (mo_l (mo_ic _ _)) (mo_l (mo_rI)))) (mo_d (mo_d (mo_l (mo_ic _ _)) (mo_l (mo_rI))) (mo_d (mo_l (mo_ic _ _)) (mo_l (mo_rI))))))
def zc_X12_pass (G : Nat × Nat) : Nat → zSem := fun pc =>
 znd pc 29
 (znd pc 13
 (znd pc 3
 (znd pc 1
 (zlf pc 0 (s_aload 0 1))
 (znd pc 2
 (zlf pc 1 (s_iload 1 2))
 (zlf pc 2 (s_ic 1 3))))
 (znd pc 9
 (znd pc 6
 (zlf pc 3 (s_ic 999 6))
 (zlf pc 6 (s_cI zpS 31 3 [] zx0 9)))
 (znd pc 12
 (zlf pc 9 (s_ifne 16 12))
 (zlf pc 12 (s_ic 1 13)))))
 (znd pc 21
 (znd pc 17
 (znd pc 16
 (zlf pc 13 (s_goto 33))
 (zlf pc 16 (s_aload 0 17)))
 (znd pc 20
 (zlf pc 17 (s_gI 13 24 20))
 (zlf pc 20 (s_iload 1 21))))
 (znd pc 25
 (znd pc 22
 (zlf pc 21 (s_iadd 22))
 (zlf pc 22 (s_ic 9999 25)))
 (znd pc 28
 (zlf pc 25 (s_cmple 32 28))
 (zlf pc 28 (s_ic 2 29))))))
 (znd pc 42
 (znd pc 36
 (znd pc 32
 (zlf pc 29 (s_goto 33))
 (znd pc 33
 (zlf pc 32 (s_ic 0 33))
 (zlf pc 33 (s_cI (zpV 13) 33 2 [] zx0 36))))
 (znd pc 40
 (znd pc 39
 (zlf pc 36 (s_ifeq 41 39))
 (zlf pc 39 (s_ic 0 40)))
 (znd pc 41
 (zlf pc 40 (s_rI))
 (zlf pc 41 (s_aload 0 42)))))
 (znd pc 48
 (znd pc 46
 (znd pc 43
 (zlf pc 42 (s_dup 43))
 (zlf pc 43 (s_gI 13 24 46)))
 (znd pc 47
 (zlf pc 46 (s_iload 1 47))
 (zlf pc 47 (s_iadd 48))))
 (znd pc 52
 (znd pc 51
 (zlf pc 48 (s_pI 13 24 51))
 (zlf pc 51 (s_aload 0 52)))
 (znd pc 55
 (zlf pc 52 (s_gI 13 24 55))
 (zlf pc 55 (s_rI))))))
theorem zm_X12_pass (G : Nat × Nat) (pc : Nat) : zMon (zc_X12_pass G pc) := (mo_d (mo_d (mo_d (mo_d (mo_l (mo_aload _ _)) (mo_d (mo_l (mo_iload _ _)) (mo_l (mo_ic _ _)))) (mo_d (mo_d (mo_l (mo_ic _ _)) (mo_l (mo_cI _ _ _ _ zPre_S zHm_0))) (mo_d (mo_l (mo_ifne _ _)) (mo_l (mo_ic _ _))))) (mo_d (mo_d (mo_d (mo_l (mo_goto _)) (mo_l (mo_aload _ _))) (mo_d (mo_l (mo_gI _ _ _)) (mo_l (mo_iload _ _)))) (mo_d (mo_d (mo_l (mo_iadd _)) (mo_l (mo_ic _ _))) (mo_d (mo_l (mo_cmple _ _)) (mo_l (mo_ic _ _)))))) (mo_d (mo_d (mo_d (mo_l (mo_goto _)) (mo_d (mo_l (mo_ic _ _)) (mo_l (mo_cI _ _ _ _ (zPre_V _) zHm_0)))) (mo_d (mo_d (mo_l (mo_ifeq _ _)) (mo_l (mo_ic _ _))) (mo_d (mo_l (mo_rI)) (mo_l (mo_aload _ _))))) (mo_d (mo_d (mo_d (mo_l (mo_dup _)) (mo_l (mo_gI _ _ _))) (mo_d (mo_l (mo_iload _ _)) (mo_l (mo_iadd _)))) (mo_d (mo_d (mo_l (mo_pI _ _ _)) (mo_l (mo_aload _ _))) (mo_d (mo_l (mo_gI _ _ _)) (mo_l (mo_rI)))))))
def zc_X11_ofSlot (G : Nat × Nat) : Nat → zSem := fun pc =>
 znd pc 37
 (znd pc 17
 (znd pc 9
 (znd pc 2
 (znd pc 1
 (zlf pc 0 (s_aload 0 1))
 (zlf pc 1 (s_iload 1 2)))
 (znd pc 5
 (zlf pc 2 (s_cR (zpV 12) 146 2 [] zx0 5))
 (znd pc 6
 (zlf pc 5 (s_iload 2 6))
 (zlf pc 6 (s_cR (zpV 1) 147 2 [] zx0 9)))))
 (znd pc 12
 (znd pc 11
 (zlf pc 9 (s_astore 4 11))
 (zlf pc 11 (s_iload 3 12)))
 (znd pc 13
 (zlf pc 12 (s_ic 0 13))
 (znd pc 14
 (zlf pc 13 (s_ic 3 14))
 (zlf pc 14 (s_cI zpS 14 3 [] zx0 17))))))
 (znd pc 29
 (znd pc 21
 (znd pc 20
 (zlf pc 17 (s_cV zpS 13 1 [] zx0 20))
 (zlf pc 20 (s_iload 3 21)))
 (znd pc 24
 (zlf pc 21 (s_ifne 30 24))
 (znd pc 26
 (zlf pc 24 (s_aload 4 26))
 (zlf pc 26 (s_gI 10 1 29)))))
 (znd pc 31
 (znd pc 30
 (zlf pc 29 (s_rI))
 (zlf pc 30 (s_iload 3 31)))
 (znd pc 32
 (zlf pc 31 (s_ic 1 32))
 (znd pc 35
 (zlf pc 32 (s_cmpne 41 35))
 (zlf pc 35 (s_aload 4 37)))))))
 (znd pc 59
 (znd pc 46
 (znd pc 41
 (znd pc 40
 (zlf pc 37 (s_gI 10 2 40))
 (zlf pc 40 (s_rI)))
 (znd pc 42
 (zlf pc 41 (s_iload 3 42))
 (znd pc 43
 (zlf pc 42 (s_ic 2 43))
 (zlf pc 43 (s_cmpne 64 46)))))
 (znd pc 51
 (znd pc 48
 (zlf pc 46 (s_aload 4 48))
 (zlf pc 48 (s_gI 10 4 51)))
 (znd pc 54
 (zlf pc 51 (s_ifeq 62 54))
 (znd pc 56
 (zlf pc 54 (s_aload 4 56))
 (zlf pc 56 (s_gI 10 3 59))))))
 (znd pc 69
 (znd pc 63
 (znd pc 62
 (zlf pc 59 (s_goto 63))
 (zlf pc 62 (s_ic 0 63)))
 (znd pc 64
 (zlf pc 63 (s_rI))
 (znd pc 66
 (zlf pc 64 (s_aload 4 66))
 (zlf pc 66 (s_gI 10 5 69)))))
 (znd pc 73
 (znd pc 72
 (zlf pc 69 (s_ifeq 76 72))
 (zlf pc 72 (s_ic 1 73)))
 (znd pc 76
 (zlf pc 73 (s_goto 77))
 (znd pc 77
 (zlf pc 76 (s_ic 0 77))
 (zlf pc 77 (s_rI)))))))
theorem zm_X11_ofSlot (G : Nat × Nat) (pc : Nat) : zMon (zc_X11_ofSlot G pc) := (mo_d (mo_d (mo_d (mo_d (mo_d (mo_l (mo_aload _ _)) (mo_l (mo_iload _ _))) (mo_d (mo_l (mo_cR _ _ _ _ (zPre_V _) zHm_0)) (mo_d (mo_l (mo_iload _ _)) (mo_l (mo_cR _ _ _ _ (zPre_V _) zHm_0))))) (mo_d (mo_d (mo_l (mo_astore _ _)) (mo_l (mo_iload _ _))) (mo_d (mo_l (mo_ic _ _)) (mo_d (mo_l (mo_ic _ _)) (mo_l (mo_cI _ _ _ _ zPre_S zHm_0)))))) (mo_d (mo_d (mo_d (mo_l (mo_cV _ _ _ _ zPre_S zHm_0)) (mo_l (mo_iload _ _))) (mo_d (mo_l (mo_ifne _ _)) (mo_d (mo_l (mo_aload _ _)) (mo_l (mo_gI _ _ _))))) (mo_d (mo_d (mo_l (mo_rI)) (mo_l (mo_iload _ _))) (mo_d (mo_l (mo_ic _ _)) (mo_d (mo_l (mo_cmpne _ _)) (mo_l (mo_aload _ _))))))) (mo_d (mo_d (mo_d (mo_d (mo_l (mo_gI _ _ _)) (mo_l (mo_rI))) (mo_d (mo_l (mo_iload _ _)) (mo_d (mo_l (mo_ic _ _)) (mo_l (mo_cmpne _ _))))) (mo_d (mo_d (mo_l (mo_aload _ _)) (mo_l (mo_gI _ _ _))) (mo_d (mo_l (mo_ifeq _ _)) (mo_d (mo_l (mo_aload _ _)) (mo_l (mo_gI _ _ _)))))) (mo_d (mo_d (mo_d (mo_l (mo_goto _)) (mo_l (mo_ic _ _))) (mo_d (mo_l (mo_rI)) (mo_d (mo_l (mo_aload _ _)) (mo_l (mo_gI _ _ _))))) (mo_d (mo_d (mo_l (mo_ifeq _ _)) (mo_l (mo_ic _ _))) (mo_d (mo_l (mo_goto _)) (mo_d (mo_l (mo_ic _ _)) (mo_l (mo_rI))))))))
def zc_L_ofSlot (G : Nat × Nat) : Nat → zSem := fun pc =>
 znd pc 10
 (znd pc 4
 (znd pc 2
 (zlf pc 0 (s_aload 4 2))
 (znd pc 3
 (zlf pc 2 (s_ic 0 3))
 (zlf pc 3 (s_aload 0 4))))
 (znd pc 6
 (znd pc 5
 (zlf pc 4 (s_iload 1 5))
 (zlf pc 5 (s_iload 2 6)))
 (znd pc 7
 (zlf pc 6 (s_iload 3 7))
 (zlf pc 7 (s_cI (zpV 12) 195 4 [zU] (zxc 5 [(0, 17)]) 10)))))
 (znd pc 17
 (znd pc 11
 (zlf pc 10 (s_i2l 11))
 (znd pc 12
 (zlf pc 11 (s_last 12))
 (zlf pc 12 (s_goto 19))))
 (znd pc 19
 (znd pc 18
 (zlf pc 17 (s_ic 1 18))
 (zlf pc 18 (s_rI)))
 (znd pc 20
 (zlf pc 19 (s_ic 0 20))
 (zlf pc 20 (s_rI)))))
theorem zm_L_ofSlot (G : Nat × Nat) (pc : Nat) : zMon (zc_L_ofSlot G pc) := (mo_d (mo_d (mo_d (mo_l (mo_aload _ _)) (mo_d (mo_l (mo_ic _ _)) (mo_l (mo_aload _ _)))) (mo_d (mo_d (mo_l (mo_iload _ _)) (mo_l (mo_iload _ _))) (mo_d (mo_l (mo_iload _ _)) (mo_l (mo_cI _ _ _ _ (zPre_V _) (zHm_c _ _)))))) (mo_d (mo_d (mo_l (mo_i2l _)) (mo_d (mo_l (mo_last _)) (mo_l (mo_goto _)))) (mo_d (mo_d (mo_l (mo_ic _ _)) (mo_l (mo_rI))) (mo_d (mo_l (mo_ic _ _)) (mo_l (mo_rI))))))
def zc_X12_ofSlot (G : Nat × Nat) : Nat → zSem := fun pc =>
 znd pc 57
 (znd pc 30
 (znd pc 16
 (znd pc 6
 (znd pc 2
 (znd pc 1
 (zlf pc 0 (s_aload 0 1))
 (zlf pc 1 (s_aload 0 2)))
 (znd pc 3
 (zlf pc 2 (s_iload 1 3))
 (zlf pc 3 (s_cI (zpV 13) 153 2 [] zx0 6))))
 (znd pc 10
 (znd pc 9
 (zlf pc 6 (s_ifeq 29 9))
 (zlf pc 9 (s_iload 2 10)))
 (znd pc 13
 (zlf pc 10 (s_cI zpS 154 1 [] zx0 13))
 (zlf pc 13 (s_ifeq 29 16)))))
 (znd pc 22
 (znd pc 18
 (znd pc 17
 (zlf pc 16 (s_iload 3 17))
 (zlf pc 17 (s_ic 0 18)))
 (znd pc 19
 (zlf pc 18 (s_ic 3 19))
 (zlf pc 19 (s_cI zpS 31 3 [] zx0 22))))
 (znd pc 26
 (znd pc 25
 (zlf pc 22 (s_ifeq 29 25))
 (zlf pc 25 (s_ic 0 26)))
 (znd pc 29
 (zlf pc 26 (s_goto 30))
 (zlf pc 29 (s_ic 1 30))))))
 (znd pc 43
 (znd pc 38
 (znd pc 36
 (znd pc 33
 (zlf pc 30 (s_cI (zpV 13) 33 2 [] zx0 33))
 (zlf pc 33 (s_ifeq 38 36)))
 (znd pc 37
 (zlf pc 36 (s_ic 0 37))
 (zlf pc 37 (s_rI))))
 (znd pc 41
 (znd pc 40
 (zlf pc 38 (s_ic 8 40))
 (zlf pc 40 (s_iload 1 41)))
 (znd pc 42
 (zlf pc 41 (s_imul 42))
 (zlf pc 42 (s_iload 2 43)))))
 (znd pc 50
 (znd pc 46
 (znd pc 44
 (zlf pc 43 (s_iadd 44))
 (zlf pc 44 (s_istore 4 46)))
 (znd pc 47
 (zlf pc 46 (s_iload 3 47))
 (zlf pc 47 (s_ifne 60 50))))
 (znd pc 54
 (znd pc 51
 (zlf pc 50 (s_aload 0 51))
 (zlf pc 51 (s_gR 13 38 54)))
 (znd pc 56
 (zlf pc 54 (s_iload 4 56))
 (zlf pc 56 (s_iald 57)))))))
 (znd pc 87
 (znd pc 72
 (znd pc 65
 (znd pc 61
 (znd pc 60
 (zlf pc 57 (s_goto 119))
 (zlf pc 60 (s_iload 3 61)))
 (znd pc 62
 (zlf pc 61 (s_ic 1 62))
 (zlf pc 62 (s_cmpne 75 65))))
 (znd pc 69
 (znd pc 66
 (zlf pc 65 (s_aload 0 66))
 (zlf pc 66 (s_gR 13 39 69)))
 (znd pc 71
 (zlf pc 69 (s_iload 4 71))
 (zlf pc 71 (s_iald 72)))))
 (znd pc 80
 (znd pc 76
 (znd pc 75
 (zlf pc 72 (s_goto 119))
 (zlf pc 75 (s_iload 3 76)))
 (znd pc 77
 (zlf pc 76 (s_ic 2 77))
 (zlf pc 77 (s_cmpne 104 80))))
 (znd pc 84
 (znd pc 81
 (zlf pc 80 (s_aload 0 81))
 (zlf pc 81 (s_gR 13 42 84)))
 (znd pc 86
 (zlf pc 84 (s_iload 4 86))
 (zlf pc 86 (s_zald 87))))))
 (znd pc 104
 (znd pc 96
 (znd pc 91
 (znd pc 90
 (zlf pc 87 (s_ifeq 100 90))
 (zlf pc 90 (s_aload 0 91)))
 (znd pc 94
 (zlf pc 91 (s_gR 13 41 94))
 (zlf pc 94 (s_iload 4 96))))
 (znd pc 100
 (znd pc 97
 (zlf pc 96 (s_iald 97))
 (zlf pc 97 (s_goto 119)))
 (znd pc 101
 (zlf pc 100 (s_ic 0 101))
 (zlf pc 101 (s_goto 119)))))
 (znd pc 111
 (znd pc 108
 (znd pc 105
 (zlf pc 104 (s_aload 0 105))
 (zlf pc 105 (s_gR 13 43 108)))
 (znd pc 110
 (zlf pc 108 (s_iload 4 110))
 (zlf pc 110 (s_zald 111))))
 (znd pc 115
 (znd pc 114
 (zlf pc 111 (s_ifeq 118 114))
 (zlf pc 114 (s_ic 1 115)))
 (znd pc 118
 (zlf pc 115 (s_goto 119))
 (znd pc 119
 (zlf pc 118 (s_ic 0 119))
 (zlf pc 119 (s_rI))))))))
theorem zm_X12_ofSlot (G : Nat × Nat) (pc : Nat) : zMon (zc_X12_ofSlot G pc) := (mo_d (mo_d (mo_d (mo_d (mo_d (mo_d (mo_l (mo_aload _ _)) (mo_l (mo_aload _ _))) (mo_d (mo_l (mo_iload _ _)) (mo_l (mo_cI _ _ _ _ (zPre_V _) zHm_0)))) (mo_d (mo_d (mo_l (mo_ifeq _ _)) (mo_l (mo_iload _ _))) (mo_d (mo_l (mo_cI _ _ _ _ zPre_S zHm_0)) (mo_l (mo_ifeq _ _))))) (mo_d (mo_d (mo_d (mo_l (mo_iload _ _)) (mo_l (mo_ic _ _))) (mo_d (mo_l (mo_ic _ _)) (mo_l (mo_cI _ _ _ _ zPre_S zHm_0)))) (mo_d (mo_d (mo_l (mo_ifeq _ _)) (mo_l (mo_ic _ _))) (mo_d (mo_l (mo_goto _)) (mo_l (mo_ic _ _)))))) (mo_d (mo_d (mo_d (mo_d (mo_l (mo_cI _ _ _ _ (zPre_V _) zHm_0)) (mo_l (mo_ifeq _ _))) (mo_d (mo_l (mo_ic _ _)) (mo_l (mo_rI)))) (mo_d (mo_d (mo_l (mo_ic _ _)) (mo_l (mo_iload _ _))) (mo_d (mo_l (mo_imul _)) (mo_l (mo_iload _ _))))) (mo_d (mo_d (mo_d (mo_l (mo_iadd _)) (mo_l (mo_istore _ _))) (mo_d (mo_l (mo_iload _ _)) (mo_l (mo_ifne _ _)))) (mo_d (mo_d (mo_l (mo_aload _ _)) (mo_l (mo_gR _ _ _))) (mo_d (mo_l (mo_iload _ _)) (mo_l (mo_iald _))))))) (mo_d (mo_d (mo_d (mo_d (mo_d (mo_l (mo_goto _)) (mo_l (mo_iload _ _))) (mo_d (mo_l (mo_ic _ _)) (mo_l (mo_cmpne _ _)))) (mo_d (mo_d (mo_l (mo_aload _ _)) (mo_l (mo_gR _ _ _))) (mo_d (mo_l (mo_iload _ _)) (mo_l (mo_iald _))))) (mo_d (mo_d (mo_d (mo_l (mo_goto _)) (mo_l (mo_iload _ _))) (mo_d (mo_l (mo_ic _ _)) (mo_l (mo_cmpne _ _)))) (mo_d (mo_d (mo_l (mo_aload _ _)) (mo_l (mo_gR _ _ _))) (mo_d (mo_l (mo_iload _ _)) (mo_l (mo_zald _)))))) (mo_d (mo_d (mo_d (mo_d (mo_l (mo_ifeq _ _)) (mo_l (mo_aload _ _))) (mo_d (mo_l (mo_gR _ _ _)) (mo_l (mo_iload _ _)))) (mo_d (mo_d (mo_l (mo_iald _)) (mo_l (mo_goto _))) (mo_d (mo_l (mo_ic _ _)) (mo_l (mo_goto _))))) (mo_d (mo_d (mo_d (mo_l (mo_aload _ _)) (mo_l (mo_gR _ _ _))) (mo_d (mo_l (mo_iload _ _)) (mo_l (mo_zald _)))) (mo_d (mo_d (mo_l (mo_ifeq _ _)) (mo_l (mo_ic _ _))) (mo_d (mo_l (mo_goto _)) (mo_d (mo_l (mo_ic _ _)) (mo_l (mo_rI)))))))))
def zc_X11_jointAnew (G : Nat × Nat) : Nat → zSem := fun pc =>
 znd pc 17
 (znd pc 7
 (znd pc 2
 (znd pc 1
 (zlf pc 0 (s_aload 0 1))
 (zlf pc 1 (s_iload 1 2)))
 (znd pc 5
 (zlf pc 2 (s_cR (zpV 12) 146 2 [] zx0 5))
 (znd pc 6
 (zlf pc 5 (s_astore 3 6))
 (zlf pc 6 (s_aload 3 7)))))
 (znd pc 11
 (znd pc 8
 (zlf pc 7 (s_iload 2 8))
 (zlf pc 8 (s_cR (zpV 1) 147 2 [] zx0 11)))
 (znd pc 13
 (zlf pc 11 (s_astore 4 13))
 (znd pc 14
 (zlf pc 13 (s_aload 3 14))
 (zlf pc 14 (s_gI 1 0 17))))))
 (znd pc 30
 (znd pc 22
 (znd pc 20
 (zlf pc 17 (s_ifeq 40 20))
 (zlf pc 20 (s_aload 4 22)))
 (znd pc 25
 (zlf pc 22 (s_cI (zpV 10) 148 1 [] zx0 25))
 (znd pc 28
 (zlf pc 25 (s_ifeq 40 28))
 (zlf pc 28 (s_aload 4 30)))))
 (znd pc 37
 (znd pc 31
 (zlf pc 30 (s_aload 3 31))
 (znd pc 34
 (zlf pc 31 (s_cI (zpV 1) 163 1 [] zx0 34))
 (zlf pc 34 (s_cI (zpV 10) 164 2 [] zx0 37))))
 (znd pc 40
 (zlf pc 37 (s_goto 41))
 (znd pc 41
 (zlf pc 40 (s_ic (-1) 41))
 (zlf pc 41 (s_rI))))))
theorem zm_X11_jointAnew (G : Nat × Nat) (pc : Nat) : zMon (zc_X11_jointAnew G pc) := (mo_d (mo_d (mo_d (mo_d (mo_l (mo_aload _ _)) (mo_l (mo_iload _ _))) (mo_d (mo_l (mo_cR _ _ _ _ (zPre_V _) zHm_0)) (mo_d (mo_l (mo_astore _ _)) (mo_l (mo_aload _ _))))) (mo_d (mo_d (mo_l (mo_iload _ _)) (mo_l (mo_cR _ _ _ _ (zPre_V _) zHm_0))) (mo_d (mo_l (mo_astore _ _)) (mo_d (mo_l (mo_aload _ _)) (mo_l (mo_gI _ _ _)))))) (mo_d (mo_d (mo_d (mo_l (mo_ifeq _ _)) (mo_l (mo_aload _ _))) (mo_d (mo_l (mo_cI _ _ _ _ (zPre_V _) zHm_0)) (mo_d (mo_l (mo_ifeq _ _)) (mo_l (mo_aload _ _))))) (mo_d (mo_d (mo_l (mo_aload _ _)) (mo_d (mo_l (mo_cI _ _ _ _ (zPre_V _) zHm_0)) (mo_l (mo_cI _ _ _ _ (zPre_V _) zHm_0)))) (mo_d (mo_l (mo_goto _)) (mo_d (mo_l (mo_ic _ _)) (mo_l (mo_rI)))))))
def zc_L_jointAnew (G : Nat × Nat) : Nat → zSem := fun pc =>
 znd pc 8
 (znd pc 3
 (znd pc 1
 (zlf pc 0 (s_aload 3 1))
 (znd pc 2
 (zlf pc 1 (s_ic 0 2))
 (zlf pc 2 (s_aload 0 3))))
 (znd pc 4
 (zlf pc 3 (s_iload 1 4))
 (znd pc 5
 (zlf pc 4 (s_iload 2 5))
 (zlf pc 5 (s_cI (zpV 12) 198 3 [zU, zU] (zxc 4 [(0, 15)]) 8)))))
 (znd pc 15
 (znd pc 9
 (zlf pc 8 (s_i2l 9))
 (znd pc 10
 (zlf pc 9 (s_last 10))
 (zlf pc 10 (s_goto 17))))
 (znd pc 17
 (znd pc 16
 (zlf pc 15 (s_ic 1 16))
 (zlf pc 16 (s_rI)))
 (znd pc 18
 (zlf pc 17 (s_ic 0 18))
 (zlf pc 18 (s_rI)))))
theorem zm_L_jointAnew (G : Nat × Nat) (pc : Nat) : zMon (zc_L_jointAnew G pc) := (mo_d (mo_d (mo_d (mo_l (mo_aload _ _)) (mo_d (mo_l (mo_ic _ _)) (mo_l (mo_aload _ _)))) (mo_d (mo_l (mo_iload _ _)) (mo_d (mo_l (mo_iload _ _)) (mo_l (mo_cI _ _ _ _ (zPre_V _) (zHm_c _ _)))))) (mo_d (mo_d (mo_l (mo_i2l _)) (mo_d (mo_l (mo_last _)) (mo_l (mo_goto _)))) (mo_d (mo_d (mo_l (mo_ic _ _)) (mo_l (mo_rI))) (mo_d (mo_l (mo_ic _ _)) (mo_l (mo_rI))))))
def zc_X12_jointAnew (G : Nat × Nat) : Nat → zSem := fun pc =>
 znd pc 24
 (znd pc 10
 (znd pc 3
 (znd pc 1
 (zlf pc 0 (s_aload 0 1))
 (znd pc 2
 (zlf pc 1 (s_aload 0 2))
 (zlf pc 2 (s_iload 1 3))))
 (znd pc 6
 (zlf pc 3 (s_cI (zpV 13) 153 2 [] zx0 6))
 (znd pc 9
 (zlf pc 6 (s_ifeq 20 9))
 (zlf pc 9 (s_iload 2 10)))))
 (znd pc 17
 (znd pc 13
 (zlf pc 10 (s_cI zpS 154 1 [] zx0 13))
 (znd pc 16
 (zlf pc 13 (s_ifeq 20 16))
 (zlf pc 16 (s_ic 0 17))))
 (znd pc 20
 (zlf pc 17 (s_goto 21))
 (znd pc 21
 (zlf pc 20 (s_ic 1 21))
 (zlf pc 21 (s_cI (zpV 13) 33 2 [] zx0 24))))))
 (znd pc 37
 (znd pc 31
 (znd pc 27
 (zlf pc 24 (s_ifeq 31 27))
 (znd pc 28
 (zlf pc 27 (s_ic 0 28))
 (zlf pc 28 (s_goto 42))))
 (znd pc 32
 (zlf pc 31 (s_aload 0 32))
 (znd pc 35
 (zlf pc 32 (s_gR 13 40 35))
 (zlf pc 35 (s_ic 8 37)))))
 (znd pc 40
 (znd pc 38
 (zlf pc 37 (s_iload 1 38))
 (znd pc 39
 (zlf pc 38 (s_imul 39))
 (zlf pc 39 (s_iload 2 40))))
 (znd pc 41
 (zlf pc 40 (s_iadd 41))
 (znd pc 42
 (zlf pc 41 (s_iald 42))
 (zlf pc 42 (s_rI))))))
theorem zm_X12_jointAnew (G : Nat × Nat) (pc : Nat) : zMon (zc_X12_jointAnew G pc) := (mo_d (mo_d (mo_d (mo_d (mo_l (mo_aload _ _)) (mo_d (mo_l (mo_aload _ _)) (mo_l (mo_iload _ _)))) (mo_d (mo_l (mo_cI _ _ _ _ (zPre_V _) zHm_0)) (mo_d (mo_l (mo_ifeq _ _)) (mo_l (mo_iload _ _))))) (mo_d (mo_d (mo_l (mo_cI _ _ _ _ zPre_S zHm_0)) (mo_d (mo_l (mo_ifeq _ _)) (mo_l (mo_ic _ _)))) (mo_d (mo_l (mo_goto _)) (mo_d (mo_l (mo_ic _ _)) (mo_l (mo_cI _ _ _ _ (zPre_V _) zHm_0)))))) (mo_d (mo_d (mo_d (mo_l (mo_ifeq _ _)) (mo_d (mo_l (mo_ic _ _)) (mo_l (mo_goto _)))) (mo_d (mo_l (mo_aload _ _)) (mo_d (mo_l (mo_gR _ _ _)) (mo_l (mo_ic _ _))))) (mo_d (mo_d (mo_l (mo_iload _ _)) (mo_d (mo_l (mo_imul _)) (mo_l (mo_iload _ _)))) (mo_d (mo_l (mo_iadd _)) (mo_d (mo_l (mo_iald _)) (mo_l (mo_rI)))))))
def zc_X0_hasPartOf (G : Nat × Nat) : Nat → zSem := fun pc =>
 znd pc 18
 (znd pc 7
 (znd pc 2
 (znd pc 1
 (zlf pc 0 (s_ic 0 1))
 (zlf pc 1 (s_istore 2 2)))
 (znd pc 3
 (zlf pc 2 (s_iload 2 3))
 (znd pc 4
 (zlf pc 3 (s_aload 0 4))
 (zlf pc 4 (s_gR 1 3 7)))))
 (znd pc 13
 (znd pc 10
 (zlf pc 7 (s_cI (zpV 0) 16 1 [] zx0 10))
 (zlf pc 10 (s_cmpge 39 13)))
 (znd pc 14
 (zlf pc 13 (s_aload 0 14))
 (znd pc 17
 (zlf pc 14 (s_gR 1 3 17))
 (zlf pc 17 (s_iload 2 18))))))
 (znd pc 31
 (znd pc 24
 (znd pc 21
 (zlf pc 18 (s_cR (zpV 0) 44 2 [] zx0 21))
 (zlf pc 21 (s_cast 10 24)))
 (znd pc 27
 (zlf pc 24 (s_gI 10 1 27))
 (znd pc 28
 (zlf pc 27 (s_iload 1 28))
 (zlf pc 28 (s_cmpne 33 31)))))
 (znd pc 36
 (znd pc 32
 (zlf pc 31 (s_ic 1 32))
 (znd pc 33
 (zlf pc 32 (s_rZ))
 (zlf pc 33 (s_iinc 2 1 36))))
 (znd pc 39
 (zlf pc 36 (s_goto 2))
 (znd pc 40
 (zlf pc 39 (s_ic 0 40))
 (zlf pc 40 (s_rZ))))))
theorem zm_X0_hasPartOf (G : Nat × Nat) (pc : Nat) : zMon (zc_X0_hasPartOf G pc) := (mo_d (mo_d (mo_d (mo_d (mo_l (mo_ic _ _)) (mo_l (mo_istore _ _))) (mo_d (mo_l (mo_iload _ _)) (mo_d (mo_l (mo_aload _ _)) (mo_l (mo_gR _ _ _))))) (mo_d (mo_d (mo_l (mo_cI _ _ _ _ (zPre_V _) zHm_0)) (mo_l (mo_cmpge _ _))) (mo_d (mo_l (mo_aload _ _)) (mo_d (mo_l (mo_gR _ _ _)) (mo_l (mo_iload _ _)))))) (mo_d (mo_d (mo_d (mo_l (mo_cR _ _ _ _ (zPre_V _) zHm_0)) (mo_l (mo_cast _ _))) (mo_d (mo_l (mo_gI _ _ _)) (mo_d (mo_l (mo_iload _ _)) (mo_l (mo_cmpne _ _))))) (mo_d (mo_d (mo_l (mo_ic _ _)) (mo_d (mo_l (mo_rZ)) (mo_l (mo_iinc _ _ _)))) (mo_d (mo_l (mo_goto _)) (mo_d (mo_l (mo_ic _ _)) (mo_l (mo_rZ)))))))
def zc_X11_recall (G : Nat × Nat) : Nat → zSem := fun pc =>
 znd pc 30
 (znd pc 16
 (znd pc 8
 (znd pc 2
 (znd pc 1
 (zlf pc 0 (s_iload 1 1))
 (zlf pc 1 (s_aload 0 2)))
 (znd pc 5
 (zlf pc 2 (s_gR 12 4 5))
 (zlf pc 5 (s_cI (zpV 0) 16 1 [] zx0 8))))
 (znd pc 14
 (znd pc 11
 (zlf pc 8 (s_cI zpS 12 2 [] zx0 11))
 (zlf pc 11 (s_cV zpS 13 1 [] zx0 14)))
 (znd pc 15
 (zlf pc 14 (s_ic 0 15))
 (zlf pc 15 (s_istore 2 16)))))
 (znd pc 20
 (znd pc 18
 (znd pc 17
 (zlf pc 16 (s_ic 0 17))
 (zlf pc 17 (s_istore 3 18)))
 (znd pc 19
 (zlf pc 18 (s_iload 3 19))
 (zlf pc 19 (s_aload 0 20))))
 (znd pc 26
 (znd pc 23
 (zlf pc 20 (s_gR 12 5 23))
 (zlf pc 23 (s_cI (zpV 0) 16 1 [] zx0 26)))
 (znd pc 29
 (zlf pc 26 (s_cmpge 68 29))
 (zlf pc 29 (s_aload 0 30))))))
 (znd pc 50
 (znd pc 40
 (znd pc 34
 (znd pc 33
 (zlf pc 30 (s_gR 12 5 33))
 (zlf pc 33 (s_iload 3 34)))
 (znd pc 37
 (zlf pc 34 (s_cR (zpV 0) 44 2 [] zx0 37))
 (zlf pc 37 (s_cast 1 40))))
 (znd pc 44
 (znd pc 42
 (zlf pc 40 (s_astore 4 42))
 (zlf pc 42 (s_aload 4 44)))
 (znd pc 47
 (zlf pc 44 (s_gI 1 2 47))
 (zlf pc 47 (s_ifeq 62 50)))))
 (znd pc 59
 (znd pc 53
 (znd pc 52
 (zlf pc 50 (s_aload 4 52))
 (zlf pc 52 (s_iload 1 53)))
 (znd pc 56
 (zlf pc 53 (s_cI (zpV 1) 201 2 [zU] zx0 56))
 (zlf pc 56 (s_ifeq 62 59))))
 (znd pc 65
 (znd pc 62
 (zlf pc 59 (s_iinc 2 1 62))
 (zlf pc 62 (s_iinc 3 1 65)))
 (znd pc 68
 (zlf pc 65 (s_goto 18))
 (znd pc 69
 (zlf pc 68 (s_iload 2 69))
 (zlf pc 69 (s_rI)))))))
theorem zm_X11_recall (G : Nat × Nat) (pc : Nat) : zMon (zc_X11_recall G pc) := (mo_d (mo_d (mo_d (mo_d (mo_d (mo_l (mo_iload _ _)) (mo_l (mo_aload _ _))) (mo_d (mo_l (mo_gR _ _ _)) (mo_l (mo_cI _ _ _ _ (zPre_V _) zHm_0)))) (mo_d (mo_d (mo_l (mo_cI _ _ _ _ zPre_S zHm_0)) (mo_l (mo_cV _ _ _ _ zPre_S zHm_0))) (mo_d (mo_l (mo_ic _ _)) (mo_l (mo_istore _ _))))) (mo_d (mo_d (mo_d (mo_l (mo_ic _ _)) (mo_l (mo_istore _ _))) (mo_d (mo_l (mo_iload _ _)) (mo_l (mo_aload _ _)))) (mo_d (mo_d (mo_l (mo_gR _ _ _)) (mo_l (mo_cI _ _ _ _ (zPre_V _) zHm_0))) (mo_d (mo_l (mo_cmpge _ _)) (mo_l (mo_aload _ _)))))) (mo_d (mo_d (mo_d (mo_d (mo_l (mo_gR _ _ _)) (mo_l (mo_iload _ _))) (mo_d (mo_l (mo_cR _ _ _ _ (zPre_V _) zHm_0)) (mo_l (mo_cast _ _)))) (mo_d (mo_d (mo_l (mo_astore _ _)) (mo_l (mo_aload _ _))) (mo_d (mo_l (mo_gI _ _ _)) (mo_l (mo_ifeq _ _))))) (mo_d (mo_d (mo_d (mo_l (mo_aload _ _)) (mo_l (mo_iload _ _))) (mo_d (mo_l (mo_cI _ _ _ _ (zPre_V _) zHm_0)) (mo_l (mo_ifeq _ _)))) (mo_d (mo_d (mo_l (mo_iinc _ _ _)) (mo_l (mo_iinc _ _ _))) (mo_d (mo_l (mo_goto _)) (mo_d (mo_l (mo_iload _ _)) (mo_l (mo_rI))))))))
def zc_L_recall (G : Nat × Nat) : Nat → zSem := fun pc =>
 znd pc 8
 (znd pc 3
 (znd pc 1
 (zlf pc 0 (s_aload 2 1))
 (znd pc 2
 (zlf pc 1 (s_ic 0 2))
 (zlf pc 2 (s_aload 0 3))))
 (znd pc 4
 (zlf pc 3 (s_iload 1 4))
 (znd pc 7
 (zlf pc 4 (s_cI (zpV 12) 202 2 [zU, zU, zU] (zxc 3 [(0, 13)]) 7))
 (zlf pc 7 (s_i2l 8)))))
 (znd pc 14
 (znd pc 9
 (zlf pc 8 (s_last 9))
 (znd pc 13
 (zlf pc 9 (s_goto 15))
 (zlf pc 13 (s_ic 1 14))))
 (znd pc 15
 (zlf pc 14 (s_rI))
 (znd pc 16
 (zlf pc 15 (s_ic 0 16))
 (zlf pc 16 (s_rI)))))
theorem zm_L_recall (G : Nat × Nat) (pc : Nat) : zMon (zc_L_recall G pc) := (mo_d (mo_d (mo_d (mo_l (mo_aload _ _)) (mo_d (mo_l (mo_ic _ _)) (mo_l (mo_aload _ _)))) (mo_d (mo_l (mo_iload _ _)) (mo_d (mo_l (mo_cI _ _ _ _ (zPre_V _) (zHm_c _ _))) (mo_l (mo_i2l _))))) (mo_d (mo_d (mo_l (mo_last _)) (mo_d (mo_l (mo_goto _)) (mo_l (mo_ic _ _)))) (mo_d (mo_l (mo_rI)) (mo_d (mo_l (mo_ic _ _)) (mo_l (mo_rI))))))
def zc_X12_recall (G : Nat × Nat) : Nat → zSem := fun pc =>
 znd pc 52
 (znd pc 26
 (znd pc 14
 (znd pc 6
 (znd pc 2
 (znd pc 1
 (zlf pc 0 (s_aload 0 1))
 (zlf pc 1 (s_aload 0 2)))
 (znd pc 3
 (zlf pc 2 (s_iload 1 3))
 (zlf pc 3 (s_cI (zpV 13) 135 2 [] zx0 6))))
 (znd pc 10
 (znd pc 9
 (zlf pc 6 (s_ifeq 13 9))
 (zlf pc 9 (s_ic 0 10)))
 (znd pc 13
 (zlf pc 10 (s_goto 14))
 (zlf pc 13 (s_ic 1 14)))))
 (znd pc 22
 (znd pc 20
 (znd pc 17
 (zlf pc 14 (s_cI (zpV 13) 33 2 [] zx0 17))
 (zlf pc 17 (s_ifeq 22 20)))
 (znd pc 21
 (zlf pc 20 (s_ic 0 21))
 (zlf pc 21 (s_rI))))
 (znd pc 24
 (znd pc 23
 (zlf pc 22 (s_ic 0 23))
 (zlf pc 23 (s_istore 2 24)))
 (znd pc 25
 (zlf pc 24 (s_ic 0 25))
 (zlf pc 25 (s_istore 3 26))))))
 (znd pc 40
 (znd pc 34
 (znd pc 28
 (znd pc 27
 (zlf pc 26 (s_iload 3 27))
 (zlf pc 27 (s_aload 0 28)))
 (znd pc 31
 (zlf pc 28 (s_gI 13 34 31))
 (zlf pc 31 (s_cmpge 112 34))))
 (znd pc 37
 (znd pc 35
 (zlf pc 34 (s_ic 0 35))
 (zlf pc 35 (s_istore 4 37)))
 (znd pc 39
 (zlf pc 37 (s_ic 8 39))
 (zlf pc 39 (s_iload 3 40)))))
 (znd pc 47
 (znd pc 43
 (znd pc 41
 (zlf pc 40 (s_imul 41))
 (zlf pc 41 (s_istore 5 43)))
 (znd pc 45
 (zlf pc 43 (s_iload 5 45))
 (zlf pc 45 (s_ic 8 47))))
 (znd pc 49
 (znd pc 48
 (zlf pc 47 (s_iload 3 48))
 (zlf pc 48 (s_imul 49)))
 (znd pc 51
 (zlf pc 49 (s_ic 8 51))
 (zlf pc 51 (s_iadd 52)))))))
 (znd pc 85
 (znd pc 68
 (znd pc 61
 (znd pc 57
 (znd pc 55
 (zlf pc 52 (s_cmpge 84 55))
 (zlf pc 55 (s_iload 4 57)))
 (znd pc 60
 (zlf pc 57 (s_ifne 71 60))
 (zlf pc 60 (s_aload 0 61))))
 (znd pc 66
 (znd pc 64
 (zlf pc 61 (s_gR 13 38 64))
 (zlf pc 64 (s_iload 5 66)))
 (znd pc 67
 (zlf pc 66 (s_iald 67))
 (zlf pc 67 (s_iload 1 68)))))
 (znd pc 76
 (znd pc 72
 (znd pc 71
 (zlf pc 68 (s_cmpne 75 71))
 (zlf pc 71 (s_ic 1 72)))
 (znd pc 75
 (zlf pc 72 (s_goto 76))
 (zlf pc 75 (s_ic 0 76))))
 (znd pc 81
 (znd pc 78
 (zlf pc 76 (s_istore 4 78))
 (zlf pc 78 (s_iinc 5 1 81)))
 (znd pc 84
 (zlf pc 81 (s_goto 43))
 (zlf pc 84 (s_iload 2 85))))))
 (znd pc 100
 (znd pc 94
 (znd pc 90
 (znd pc 87
 (zlf pc 85 (s_iload 4 87))
 (zlf pc 87 (s_ifeq 103 90)))
 (znd pc 91
 (zlf pc 90 (s_aload 0 91))
 (zlf pc 91 (s_gR 13 37 94))))
 (znd pc 96
 (znd pc 95
 (zlf pc 94 (s_iload 3 95))
 (zlf pc 95 (s_zald 96)))
 (znd pc 99
 (zlf pc 96 (s_ifeq 103 99))
 (zlf pc 99 (s_ic 1 100)))))
 (znd pc 106
 (znd pc 104
 (znd pc 103
 (zlf pc 100 (s_goto 104))
 (zlf pc 103 (s_ic 0 104)))
 (znd pc 105
 (zlf pc 104 (s_iadd 105))
 (zlf pc 105 (s_istore 2 106))))
 (znd pc 112
 (znd pc 109
 (zlf pc 106 (s_iinc 3 1 109))
 (zlf pc 109 (s_goto 26)))
 (znd pc 113
 (zlf pc 112 (s_iload 2 113))
 (zlf pc 113 (s_rI)))))))
theorem zm_X12_recall (G : Nat × Nat) (pc : Nat) : zMon (zc_X12_recall G pc) := (mo_d (mo_d (mo_d (mo_d (mo_d (mo_d (mo_l (mo_aload _ _)) (mo_l (mo_aload _ _))) (mo_d (mo_l (mo_iload _ _)) (mo_l (mo_cI _ _ _ _ (zPre_V _) zHm_0)))) (mo_d (mo_d (mo_l (mo_ifeq _ _)) (mo_l (mo_ic _ _))) (mo_d (mo_l (mo_goto _)) (mo_l (mo_ic _ _))))) (mo_d (mo_d (mo_d (mo_l (mo_cI _ _ _ _ (zPre_V _) zHm_0)) (mo_l (mo_ifeq _ _))) (mo_d (mo_l (mo_ic _ _)) (mo_l (mo_rI)))) (mo_d (mo_d (mo_l (mo_ic _ _)) (mo_l (mo_istore _ _))) (mo_d (mo_l (mo_ic _ _)) (mo_l (mo_istore _ _)))))) (mo_d (mo_d (mo_d (mo_d (mo_l (mo_iload _ _)) (mo_l (mo_aload _ _))) (mo_d (mo_l (mo_gI _ _ _)) (mo_l (mo_cmpge _ _)))) (mo_d (mo_d (mo_l (mo_ic _ _)) (mo_l (mo_istore _ _))) (mo_d (mo_l (mo_ic _ _)) (mo_l (mo_iload _ _))))) (mo_d (mo_d (mo_d (mo_l (mo_imul _)) (mo_l (mo_istore _ _))) (mo_d (mo_l (mo_iload _ _)) (mo_l (mo_ic _ _)))) (mo_d (mo_d (mo_l (mo_iload _ _)) (mo_l (mo_imul _))) (mo_d (mo_l (mo_ic _ _)) (mo_l (mo_iadd _))))))) (mo_d (mo_d (mo_d (mo_d (mo_d (mo_l (mo_cmpge _ _)) (mo_l (mo_iload _ _))) (mo_d (mo_l (mo_ifne _ _)) (mo_l (mo_aload _ _)))) (mo_d (mo_d (mo_l (mo_gR _ _ _)) (mo_l (mo_iload _ _))) (mo_d (mo_l (mo_iald _)) (mo_l (mo_iload _ _))))) (mo_d (mo_d (mo_d (mo_l (mo_cmpne _ _)) (mo_l (mo_ic _ _))) (mo_d (mo_l (mo_goto _)) (mo_l (mo_ic _ _)))) (mo_d (mo_d (mo_l (mo_istore _ _)) (mo_l (mo_iinc _ _ _))) (mo_d (mo_l (mo_goto _)) (mo_l (mo_iload _ _)))))) (mo_d (mo_d (mo_d (mo_d (mo_l (mo_iload _ _)) (mo_l (mo_ifeq _ _))) (mo_d (mo_l (mo_aload _ _)) (mo_l (mo_gR _ _ _)))) (mo_d (mo_d (mo_l (mo_iload _ _)) (mo_l (mo_zald _))) (mo_d (mo_l (mo_ifeq _ _)) (mo_l (mo_ic _ _))))) (mo_d (mo_d (mo_d (mo_l (mo_goto _)) (mo_l (mo_ic _ _))) (mo_d (mo_l (mo_iadd _)) (mo_l (mo_istore _ _)))) (mo_d (mo_d (mo_l (mo_iinc _ _ _)) (mo_l (mo_goto _))) (mo_d (mo_l (mo_iload _ _)) (mo_l (mo_rI))))))))
def zc_L_law (G : Nat × Nat) : Nat → zSem := fun pc =>
 znd pc 1096
 (znd pc 594
 (znd pc 360
 (znd pc 245
 (znd pc 186
 (znd pc 34
 (znd pc 19
 (znd pc 11
 (znd pc 4
 (znd pc 3
 (zlf pc 0 (s_new 12 8 [.null, .null, .null, .null, .null, .null, .int 0, .int 0] 3))
 (zlf pc 3 (s_dup 4)))
 (znd pc 7
 (zlf pc 4 (s_cV zpI 10 1 [] (zxc 0 []) 7))
 (znd pc 8
 (zlf pc 7 (s_astore 1 8))
 (zlf pc 8 (s_new 13 45 [.int 0, .null, .null, .null, .null, .int 0, .null, .null, .null, .null, .int 0, .null, .null, .null, .null, .null, .null, .int 0, .null, .null, .null, .int 0, .int 0, .null, .int 0, .int 0, .null, .null, .null, .null, .null, .null, .null, .null, .int 0, .null, .null, .null, .null, .null, .null, .null, .null, .null, .int 0] 11)))))
 (znd pc 15
 (znd pc 12
 (zlf pc 11 (s_dup 12))
 (zlf pc 12 (s_cV zpI 11 1 [zU] (zxc 0 []) 15)))
 (znd pc 16
 (zlf pc 15 (s_astore 2 16))
 (znd pc 17
 (zlf pc 16 (s_ic 1 17))
 (zlf pc 17 (s_nal 19))))))
 (znd pc 26
 (znd pc 21
 (znd pc 20
 (zlf pc 19 (s_astore 3 20))
 (zlf pc 20 (s_ic 0 21)))
 (znd pc 23
 (zlf pc 21 (s_istore 4 23))
 (znd pc 25
 (zlf pc 23 (s_iload 4 25))
 (zlf pc 25 (s_aload 0 26)))))
 (znd pc 29
 (znd pc 27
 (zlf pc 26 (s_alen 27))
 (zlf pc 27 (s_ic 6 29)))
 (znd pc 30
 (zlf pc 29 (s_isub 30))
 (znd pc 33
 (zlf pc 30 (s_cmpgt 2081 33))
 (zlf pc 33 (s_aload 0 34)))))))
 (znd pc 174
 (znd pc 168
 (znd pc 37
 (znd pc 36
 (zlf pc 34 (s_iload 4 36))
 (zlf pc 36 (s_iald 37)))
 (znd pc 39
 (zlf pc 37 (s_ic 31 39))
 (znd pc 40
 (zlf pc 39 (s_iand 40))
 (zlf pc 40 (s_sw 0 [168, 260, 340, 408, 512, 568, 636, 692, 760, 816, 872, 935, 991, 1071, 1155, 1223, 1267, 1347, 1435, 1491, 1539, 1623, 1679, 1759, 1815, 1871, 1951, 2019] 2075)))))
 (znd pc 170
 (znd pc 169
 (zlf pc 168 (s_aload 1 169))
 (zlf pc 169 (s_aload 0 170)))
 (znd pc 172
 (zlf pc 170 (s_iload 4 172))
 (znd pc 173
 (zlf pc 172 (s_ic 1 173))
 (zlf pc 173 (s_iadd 174))))))
 (znd pc 180
 (znd pc 176
 (znd pc 175
 (zlf pc 174 (s_iald 175))
 (zlf pc 175 (s_aload 0 176)))
 (znd pc 178
 (zlf pc 176 (s_iload 4 178))
 (znd pc 179
 (zlf pc 178 (s_ic 2 179))
 (zlf pc 179 (s_iadd 180)))))
 (znd pc 182
 (znd pc 181
 (zlf pc 180 (s_iald 181))
 (zlf pc 181 (s_aload 0 182)))
 (znd pc 184
 (zlf pc 182 (s_iload 4 184))
 (znd pc 185
 (zlf pc 184 (s_ic 3 185))
 (zlf pc 185 (s_iadd 186))))))))
 (znd pc 212
 (znd pc 200
 (znd pc 192
 (znd pc 188
 (znd pc 187
 (zlf pc 186 (s_iald 187))
 (zlf pc 187 (s_aload 0 188)))
 (znd pc 190
 (zlf pc 188 (s_iload 4 190))
 (znd pc 191
 (zlf pc 190 (s_ic 4 191))
 (zlf pc 191 (s_iadd 192)))))
 (znd pc 194
 (znd pc 193
 (zlf pc 192 (s_iald 193))
 (zlf pc 193 (s_aload 3 194)))
 (znd pc 197
 (zlf pc 194 (s_cI zpS 30 6 [zU] (zxc 0 []) 197))
 (znd pc 199
 (zlf pc 197 (s_istore 5 199))
 (zlf pc 199 (s_aload 2 200))))))
 (znd pc 206
 (znd pc 203
 (znd pc 201
 (zlf pc 200 (s_aload 0 201))
 (zlf pc 201 (s_iload 4 203)))
 (znd pc 204
 (zlf pc 203 (s_ic 1 204))
 (znd pc 205
 (zlf pc 204 (s_iadd 205))
 (zlf pc 205 (s_iald 206)))))
 (znd pc 209
 (znd pc 207
 (zlf pc 206 (s_aload 0 207))
 (zlf pc 207 (s_iload 4 209)))
 (znd pc 210
 (zlf pc 209 (s_ic 2 210))
 (znd pc 211
 (zlf pc 210 (s_iadd 211))
 (zlf pc 211 (s_iald 212)))))))
 (znd pc 224
 (znd pc 218
 (znd pc 215
 (znd pc 213
 (zlf pc 212 (s_aload 0 213))
 (zlf pc 213 (s_iload 4 215)))
 (znd pc 216
 (zlf pc 215 (s_ic 3 216))
 (znd pc 217
 (zlf pc 216 (s_iadd 217))
 (zlf pc 217 (s_iald 218)))))
 (znd pc 221
 (znd pc 219
 (zlf pc 218 (s_aload 0 219))
 (zlf pc 219 (s_iload 4 221)))
 (znd pc 222
 (zlf pc 221 (s_ic 4 222))
 (znd pc 223
 (zlf pc 222 (s_iadd 223))
 (zlf pc 223 (s_iald 224))))))
 (znd pc 235
 (znd pc 229
 (znd pc 227
 (zlf pc 224 (s_cI (zpV 13) 34 5 [zU, zU] (zxc 0 []) 227))
 (zlf pc 227 (s_istore 6 229)))
 (znd pc 230
 (zlf pc 229 (s_aload 2 230))
 (znd pc 233
 (zlf pc 230 (s_cI (zpV 13) 35 1 [] (zxc 0 []) 233))
 (zlf pc 233 (s_iload 5 235)))))
 (znd pc 239
 (znd pc 238
 (zlf pc 235 (s_cmpeq 240 238))
 (zlf pc 238 (s_ic 0 239)))
 (znd pc 240
 (zlf pc 239 (s_rZ))
 (znd pc 242
 (zlf pc 240 (s_iload 5 242))
 (zlf pc 242 (s_ifne 257 245)))))))))
 (znd pc 298
 (znd pc 272
 (znd pc 260
 (znd pc 251
 (znd pc 247
 (znd pc 246
 (zlf pc 245 (s_aload 3 246))
 (zlf pc 246 (s_ic 0 247)))
 (znd pc 248
 (zlf pc 247 (s_lald 248))
 (znd pc 250
 (zlf pc 248 (s_iload 6 250))
 (zlf pc 250 (s_i2l 251)))))
 (znd pc 255
 (znd pc 252
 (zlf pc 251 (s_lcmp 252))
 (zlf pc 252 (s_ifeq 257 255)))
 (znd pc 256
 (zlf pc 255 (s_ic 0 256))
 (znd pc 257
 (zlf pc 256 (s_rZ))
 (zlf pc 257 (s_goto 2075))))))
 (znd pc 266
 (znd pc 262
 (znd pc 261
 (zlf pc 260 (s_aload 1 261))
 (zlf pc 261 (s_aload 0 262)))
 (znd pc 264
 (zlf pc 262 (s_iload 4 264))
 (znd pc 265
 (zlf pc 264 (s_ic 1 265))
 (zlf pc 265 (s_iadd 266)))))
 (znd pc 268
 (znd pc 267
 (zlf pc 266 (s_iald 267))
 (zlf pc 267 (s_aload 0 268)))
 (znd pc 270
 (zlf pc 268 (s_iload 4 270))
 (znd pc 271
 (zlf pc 270 (s_ic 2 271))
 (zlf pc 271 (s_iadd 272)))))))
 (znd pc 286
 (znd pc 278
 (znd pc 274
 (znd pc 273
 (zlf pc 272 (s_iald 273))
 (zlf pc 273 (s_aload 0 274)))
 (znd pc 276
 (zlf pc 274 (s_iload 4 276))
 (znd pc 277
 (zlf pc 276 (s_ic 3 277))
 (zlf pc 277 (s_iadd 278)))))
 (znd pc 280
 (znd pc 279
 (zlf pc 278 (s_iald 279))
 (zlf pc 279 (s_aload 3 280)))
 (znd pc 283
 (zlf pc 280 (s_cI zpS 39 5 [zU] (zxc 0 []) 283))
 (znd pc 285
 (zlf pc 283 (s_istore 5 285))
 (zlf pc 285 (s_aload 2 286))))))
 (znd pc 292
 (znd pc 289
 (znd pc 287
 (zlf pc 286 (s_aload 0 287))
 (zlf pc 287 (s_iload 4 289)))
 (znd pc 290
 (zlf pc 289 (s_ic 1 290))
 (znd pc 291
 (zlf pc 290 (s_iadd 291))
 (zlf pc 291 (s_iald 292)))))
 (znd pc 295
 (znd pc 293
 (zlf pc 292 (s_aload 0 293))
 (zlf pc 293 (s_iload 4 295)))
 (znd pc 296
 (zlf pc 295 (s_ic 2 296))
 (znd pc 297
 (zlf pc 296 (s_iadd 297))
 (zlf pc 297 (s_iald 298))))))))
 (znd pc 331
 (znd pc 315
 (znd pc 304
 (znd pc 301
 (znd pc 299
 (zlf pc 298 (s_aload 0 299))
 (zlf pc 299 (s_iload 4 301)))
 (znd pc 302
 (zlf pc 301 (s_ic 3 302))
 (znd pc 303
 (zlf pc 302 (s_iadd 303))
 (zlf pc 303 (s_iald 304)))))
 (znd pc 309
 (znd pc 307
 (zlf pc 304 (s_cI (zpV 13) 40 4 [zU] (zxc 0 []) 307))
 (zlf pc 307 (s_istore 6 309)))
 (znd pc 310
 (zlf pc 309 (s_aload 2 310))
 (znd pc 313
 (zlf pc 310 (s_cI (zpV 13) 35 1 [] (zxc 0 []) 313))
 (zlf pc 313 (s_iload 5 315))))))
 (znd pc 325
 (znd pc 319
 (znd pc 318
 (zlf pc 315 (s_cmpeq 320 318))
 (zlf pc 318 (s_ic 0 319)))
 (znd pc 320
 (zlf pc 319 (s_rZ))
 (znd pc 322
 (zlf pc 320 (s_iload 5 322))
 (zlf pc 322 (s_ifne 337 325)))))
 (znd pc 327
 (znd pc 326
 (zlf pc 325 (s_aload 3 326))
 (zlf pc 326 (s_ic 0 327)))
 (znd pc 328
 (zlf pc 327 (s_lald 328))
 (znd pc 330
 (zlf pc 328 (s_iload 6 330))
 (zlf pc 330 (s_i2l 331)))))))
 (znd pc 346
 (znd pc 340
 (znd pc 335
 (znd pc 332
 (zlf pc 331 (s_lcmp 332))
 (zlf pc 332 (s_ifeq 337 335)))
 (znd pc 336
 (zlf pc 335 (s_ic 0 336))
 (znd pc 337
 (zlf pc 336 (s_rZ))
 (zlf pc 337 (s_goto 2075)))))
 (znd pc 342
 (znd pc 341
 (zlf pc 340 (s_aload 1 341))
 (zlf pc 341 (s_aload 0 342)))
 (znd pc 344
 (zlf pc 342 (s_iload 4 344))
 (znd pc 345
 (zlf pc 344 (s_ic 1 345))
 (zlf pc 345 (s_iadd 346))))))
 (znd pc 352
 (znd pc 348
 (znd pc 347
 (zlf pc 346 (s_iald 347))
 (zlf pc 347 (s_aload 0 348)))
 (znd pc 350
 (zlf pc 348 (s_iload 4 350))
 (znd pc 351
 (zlf pc 350 (s_ic 2 351))
 (zlf pc 351 (s_iadd 352)))))
 (znd pc 354
 (znd pc 353
 (zlf pc 352 (s_iald 353))
 (zlf pc 353 (s_aload 3 354)))
 (znd pc 357
 (zlf pc 354 (s_cI zpS 49 4 [zU] (zxc 0 []) 357))
 (znd pc 359
 (zlf pc 357 (s_istore 5 359))
 (zlf pc 359 (s_aload 2 360))))))))))
 (znd pc 470
 (znd pc 420
 (znd pc 393
 (znd pc 372
 (znd pc 366
 (znd pc 363
 (znd pc 361
 (zlf pc 360 (s_aload 0 361))
 (zlf pc 361 (s_iload 4 363)))
 (znd pc 364
 (zlf pc 363 (s_ic 1 364))
 (znd pc 365
 (zlf pc 364 (s_iadd 365))
 (zlf pc 365 (s_iald 366)))))
 (znd pc 369
 (znd pc 367
 (zlf pc 366 (s_aload 0 367))
 (zlf pc 367 (s_iload 4 369)))
 (znd pc 370
 (zlf pc 369 (s_ic 2 370))
 (znd pc 371
 (zlf pc 370 (s_iadd 371))
 (zlf pc 371 (s_iald 372))))))
 (znd pc 383
 (znd pc 377
 (znd pc 375
 (zlf pc 372 (s_cI (zpV 13) 52 3 [zU, zU, zU, zU] (zxc 0 []) 375))
 (zlf pc 375 (s_istore 6 377)))
 (znd pc 378
 (zlf pc 377 (s_aload 2 378))
 (znd pc 381
 (zlf pc 378 (s_cI (zpV 13) 35 1 [] (zxc 0 []) 381))
 (zlf pc 381 (s_iload 5 383)))))
 (znd pc 387
 (znd pc 386
 (zlf pc 383 (s_cmpeq 388 386))
 (zlf pc 386 (s_ic 0 387)))
 (znd pc 388
 (zlf pc 387 (s_rZ))
 (znd pc 390
 (zlf pc 388 (s_iload 5 390))
 (zlf pc 390 (s_ifne 405 393)))))))
 (znd pc 408
 (znd pc 399
 (znd pc 395
 (znd pc 394
 (zlf pc 393 (s_aload 3 394))
 (zlf pc 394 (s_ic 0 395)))
 (znd pc 396
 (zlf pc 395 (s_lald 396))
 (znd pc 398
 (zlf pc 396 (s_iload 6 398))
 (zlf pc 398 (s_i2l 399)))))
 (znd pc 403
 (znd pc 400
 (zlf pc 399 (s_lcmp 400))
 (zlf pc 400 (s_ifeq 405 403)))
 (znd pc 404
 (zlf pc 403 (s_ic 0 404))
 (znd pc 405
 (zlf pc 404 (s_rZ))
 (zlf pc 405 (s_goto 2075))))))
 (znd pc 414
 (znd pc 410
 (znd pc 409
 (zlf pc 408 (s_aload 1 409))
 (zlf pc 409 (s_aload 0 410)))
 (znd pc 412
 (zlf pc 410 (s_iload 4 412))
 (znd pc 413
 (zlf pc 412 (s_ic 1 413))
 (zlf pc 413 (s_iadd 414)))))
 (znd pc 416
 (znd pc 415
 (zlf pc 414 (s_iald 415))
 (zlf pc 415 (s_aload 0 416)))
 (znd pc 418
 (zlf pc 416 (s_iload 4 418))
 (znd pc 419
 (zlf pc 418 (s_ic 2 419))
 (zlf pc 419 (s_iadd 420))))))))
 (znd pc 446
 (znd pc 432
 (znd pc 426
 (znd pc 422
 (znd pc 421
 (zlf pc 420 (s_iald 421))
 (zlf pc 421 (s_aload 0 422)))
 (znd pc 424
 (zlf pc 422 (s_iload 4 424))
 (znd pc 425
 (zlf pc 424 (s_ic 3 425))
 (zlf pc 425 (s_iadd 426)))))
 (znd pc 428
 (znd pc 427
 (zlf pc 426 (s_iald 427))
 (zlf pc 427 (s_aload 0 428)))
 (znd pc 430
 (zlf pc 428 (s_iload 4 430))
 (znd pc 431
 (zlf pc 430 (s_ic 4 431))
 (zlf pc 431 (s_iadd 432))))))
 (znd pc 438
 (znd pc 434
 (znd pc 433
 (zlf pc 432 (s_iald 433))
 (zlf pc 433 (s_aload 0 434)))
 (znd pc 436
 (zlf pc 434 (s_iload 4 436))
 (znd pc 437
 (zlf pc 436 (s_ic 5 437))
 (zlf pc 437 (s_iadd 438)))))
 (znd pc 440
 (znd pc 439
 (zlf pc 438 (s_iald 439))
 (zlf pc 439 (s_aload 3 440)))
 (znd pc 443
 (zlf pc 440 (s_cI zpS 68 7 [zU] (zxc 0 []) 443))
 (znd pc 445
 (zlf pc 443 (s_istore 5 445))
 (zlf pc 445 (s_aload 2 446)))))))
 (znd pc 458
 (znd pc 452
 (znd pc 449
 (znd pc 447
 (zlf pc 446 (s_aload 0 447))
 (zlf pc 447 (s_iload 4 449)))
 (znd pc 450
 (zlf pc 449 (s_ic 1 450))
 (znd pc 451
 (zlf pc 450 (s_iadd 451))
 (zlf pc 451 (s_iald 452)))))
 (znd pc 455
 (znd pc 453
 (zlf pc 452 (s_aload 0 453))
 (zlf pc 453 (s_iload 4 455)))
 (znd pc 456
 (zlf pc 455 (s_ic 2 456))
 (znd pc 457
 (zlf pc 456 (s_iadd 457))
 (zlf pc 457 (s_iald 458))))))
 (znd pc 464
 (znd pc 461
 (znd pc 459
 (zlf pc 458 (s_aload 0 459))
 (zlf pc 459 (s_iload 4 461)))
 (znd pc 462
 (zlf pc 461 (s_ic 3 462))
 (znd pc 463
 (zlf pc 462 (s_iadd 463))
 (zlf pc 463 (s_iald 464)))))
 (znd pc 467
 (znd pc 465
 (zlf pc 464 (s_aload 0 465))
 (zlf pc 465 (s_iload 4 467)))
 (znd pc 468
 (zlf pc 467 (s_ic 4 468))
 (znd pc 469
 (zlf pc 468 (s_iadd 469))
 (zlf pc 469 (s_iald 470)))))))))
 (znd pc 532
 (znd pc 503
 (znd pc 487
 (znd pc 476
 (znd pc 473
 (znd pc 471
 (zlf pc 470 (s_aload 0 471))
 (zlf pc 471 (s_iload 4 473)))
 (znd pc 474
 (zlf pc 473 (s_ic 5 474))
 (znd pc 475
 (zlf pc 474 (s_iadd 475))
 (zlf pc 475 (s_iald 476)))))
 (znd pc 481
 (znd pc 479
 (zlf pc 476 (s_cI (zpV 13) 75 6 [zU, zU, zU, zU] (zxc 0 []) 479))
 (zlf pc 479 (s_istore 6 481)))
 (znd pc 482
 (zlf pc 481 (s_aload 2 482))
 (znd pc 485
 (zlf pc 482 (s_cI (zpV 13) 35 1 [] (zxc 0 []) 485))
 (zlf pc 485 (s_iload 5 487))))))
 (znd pc 497
 (znd pc 491
 (znd pc 490
 (zlf pc 487 (s_cmpeq 492 490))
 (zlf pc 490 (s_ic 0 491)))
 (znd pc 492
 (zlf pc 491 (s_rZ))
 (znd pc 494
 (zlf pc 492 (s_iload 5 494))
 (zlf pc 494 (s_ifne 509 497)))))
 (znd pc 499
 (znd pc 498
 (zlf pc 497 (s_aload 3 498))
 (zlf pc 498 (s_ic 0 499)))
 (znd pc 500
 (zlf pc 499 (s_lald 500))
 (znd pc 502
 (zlf pc 500 (s_iload 6 502))
 (zlf pc 502 (s_i2l 503)))))))
 (znd pc 518
 (znd pc 512
 (znd pc 507
 (znd pc 504
 (zlf pc 503 (s_lcmp 504))
 (zlf pc 504 (s_ifeq 509 507)))
 (znd pc 508
 (zlf pc 507 (s_ic 0 508))
 (znd pc 509
 (zlf pc 508 (s_rZ))
 (zlf pc 509 (s_goto 2075)))))
 (znd pc 514
 (znd pc 513
 (zlf pc 512 (s_aload 1 513))
 (zlf pc 513 (s_aload 0 514)))
 (znd pc 516
 (zlf pc 514 (s_iload 4 516))
 (znd pc 517
 (zlf pc 516 (s_ic 1 517))
 (zlf pc 517 (s_iadd 518))))))
 (znd pc 526
 (znd pc 520
 (znd pc 519
 (zlf pc 518 (s_iald 519))
 (zlf pc 519 (s_aload 3 520)))
 (znd pc 523
 (zlf pc 520 (s_cI zpS 80 3 [zU] (zxc 0 []) 523))
 (znd pc 525
 (zlf pc 523 (s_istore 5 525))
 (zlf pc 525 (s_aload 2 526)))))
 (znd pc 529
 (znd pc 527
 (zlf pc 526 (s_aload 0 527))
 (zlf pc 527 (s_iload 4 529)))
 (znd pc 530
 (zlf pc 529 (s_ic 1 530))
 (znd pc 531
 (zlf pc 530 (s_iadd 531))
 (zlf pc 531 (s_iald 532))))))))
 (znd pc 568
 (znd pc 553
 (znd pc 543
 (znd pc 537
 (znd pc 535
 (zlf pc 532 (s_cI (zpV 13) 83 2 [zU, zU] (zxc 0 []) 535))
 (zlf pc 535 (s_istore 6 537)))
 (znd pc 538
 (zlf pc 537 (s_aload 2 538))
 (znd pc 541
 (zlf pc 538 (s_cI (zpV 13) 35 1 [] (zxc 0 []) 541))
 (zlf pc 541 (s_iload 5 543)))))
 (znd pc 547
 (znd pc 546
 (zlf pc 543 (s_cmpeq 548 546))
 (zlf pc 546 (s_ic 0 547)))
 (znd pc 548
 (zlf pc 547 (s_rZ))
 (znd pc 550
 (zlf pc 548 (s_iload 5 550))
 (zlf pc 550 (s_ifne 565 553))))))
 (znd pc 559
 (znd pc 555
 (znd pc 554
 (zlf pc 553 (s_aload 3 554))
 (zlf pc 554 (s_ic 0 555)))
 (znd pc 556
 (zlf pc 555 (s_lald 556))
 (znd pc 558
 (zlf pc 556 (s_iload 6 558))
 (zlf pc 558 (s_i2l 559)))))
 (znd pc 563
 (znd pc 560
 (zlf pc 559 (s_lcmp 560))
 (zlf pc 560 (s_ifeq 565 563)))
 (znd pc 564
 (zlf pc 563 (s_ic 0 564))
 (znd pc 565
 (zlf pc 564 (s_rZ))
 (zlf pc 565 (s_goto 2075)))))))
 (znd pc 580
 (znd pc 574
 (znd pc 570
 (znd pc 569
 (zlf pc 568 (s_aload 1 569))
 (zlf pc 569 (s_aload 0 570)))
 (znd pc 572
 (zlf pc 570 (s_iload 4 572))
 (znd pc 573
 (zlf pc 572 (s_ic 1 573))
 (zlf pc 573 (s_iadd 574)))))
 (znd pc 576
 (znd pc 575
 (zlf pc 574 (s_iald 575))
 (zlf pc 575 (s_aload 0 576)))
 (znd pc 578
 (zlf pc 576 (s_iload 4 578))
 (znd pc 579
 (zlf pc 578 (s_ic 2 579))
 (zlf pc 579 (s_iadd 580))))))
 (znd pc 588
 (znd pc 582
 (znd pc 581
 (zlf pc 580 (s_iald 581))
 (zlf pc 581 (s_aload 3 582)))
 (znd pc 585
 (zlf pc 582 (s_cI zpS 86 4 [zU] (zxc 0 []) 585))
 (znd pc 587
 (zlf pc 585 (s_istore 5 587))
 (zlf pc 587 (s_aload 2 588)))))
 (znd pc 591
 (znd pc 589
 (zlf pc 588 (s_aload 0 589))
 (zlf pc 589 (s_iload 4 591)))
 (znd pc 592
 (zlf pc 591 (s_ic 1 592))
 (znd pc 593
 (zlf pc 592 (s_iadd 593))
 (zlf pc 593 (s_iald 594)))))))))))
 (znd pc 847
 (znd pc 718
 (znd pc 656
 (znd pc 627
 (znd pc 611
 (znd pc 600
 (znd pc 597
 (znd pc 595
 (zlf pc 594 (s_aload 0 595))
 (zlf pc 595 (s_iload 4 597)))
 (znd pc 598
 (zlf pc 597 (s_ic 2 598))
 (znd pc 599
 (zlf pc 598 (s_iadd 599))
 (zlf pc 599 (s_iald 600)))))
 (znd pc 605
 (znd pc 603
 (zlf pc 600 (s_cI (zpV 13) 87 3 [] (zxc 0 []) 603))
 (zlf pc 603 (s_istore 6 605)))
 (znd pc 606
 (zlf pc 605 (s_aload 2 606))
 (znd pc 609
 (zlf pc 606 (s_cI (zpV 13) 35 1 [] (zxc 0 []) 609))
 (zlf pc 609 (s_iload 5 611))))))
 (znd pc 621
 (znd pc 615
 (znd pc 614
 (zlf pc 611 (s_cmpeq 616 614))
 (zlf pc 614 (s_ic 0 615)))
 (znd pc 616
 (zlf pc 615 (s_rZ))
 (znd pc 618
 (zlf pc 616 (s_iload 5 618))
 (zlf pc 618 (s_ifne 633 621)))))
 (znd pc 623
 (znd pc 622
 (zlf pc 621 (s_aload 3 622))
 (zlf pc 622 (s_ic 0 623)))
 (znd pc 624
 (zlf pc 623 (s_lald 624))
 (znd pc 626
 (zlf pc 624 (s_iload 6 626))
 (zlf pc 626 (s_i2l 627)))))))
 (znd pc 642
 (znd pc 636
 (znd pc 631
 (znd pc 628
 (zlf pc 627 (s_lcmp 628))
 (zlf pc 628 (s_ifeq 633 631)))
 (znd pc 632
 (zlf pc 631 (s_ic 0 632))
 (znd pc 633
 (zlf pc 632 (s_rZ))
 (zlf pc 633 (s_goto 2075)))))
 (znd pc 638
 (znd pc 637
 (zlf pc 636 (s_aload 1 637))
 (zlf pc 637 (s_aload 0 638)))
 (znd pc 640
 (zlf pc 638 (s_iload 4 640))
 (znd pc 641
 (zlf pc 640 (s_ic 1 641))
 (zlf pc 641 (s_iadd 642))))))
 (znd pc 650
 (znd pc 644
 (znd pc 643
 (zlf pc 642 (s_iald 643))
 (zlf pc 643 (s_aload 3 644)))
 (znd pc 647
 (zlf pc 644 (s_cI zpS 90 3 [zU] (zxc 0 []) 647))
 (znd pc 649
 (zlf pc 647 (s_istore 5 649))
 (zlf pc 649 (s_aload 2 650)))))
 (znd pc 653
 (znd pc 651
 (zlf pc 650 (s_aload 0 651))
 (zlf pc 651 (s_iload 4 653)))
 (znd pc 654
 (zlf pc 653 (s_ic 1 654))
 (znd pc 655
 (zlf pc 654 (s_iadd 655))
 (zlf pc 655 (s_iald 656))))))))
 (znd pc 692
 (znd pc 677
 (znd pc 667
 (znd pc 661
 (znd pc 659
 (zlf pc 656 (s_cI (zpV 13) 93 2 [] (zxc 0 []) 659))
 (zlf pc 659 (s_istore 6 661)))
 (znd pc 662
 (zlf pc 661 (s_aload 2 662))
 (znd pc 665
 (zlf pc 662 (s_cI (zpV 13) 35 1 [] (zxc 0 []) 665))
 (zlf pc 665 (s_iload 5 667)))))
 (znd pc 671
 (znd pc 670
 (zlf pc 667 (s_cmpeq 672 670))
 (zlf pc 670 (s_ic 0 671)))
 (znd pc 672
 (zlf pc 671 (s_rZ))
 (znd pc 674
 (zlf pc 672 (s_iload 5 674))
 (zlf pc 674 (s_ifne 689 677))))))
 (znd pc 683
 (znd pc 679
 (znd pc 678
 (zlf pc 677 (s_aload 3 678))
 (zlf pc 678 (s_ic 0 679)))
 (znd pc 680
 (zlf pc 679 (s_lald 680))
 (znd pc 682
 (zlf pc 680 (s_iload 6 682))
 (zlf pc 682 (s_i2l 683)))))
 (znd pc 687
 (znd pc 684
 (zlf pc 683 (s_lcmp 684))
 (zlf pc 684 (s_ifeq 689 687)))
 (znd pc 688
 (zlf pc 687 (s_ic 0 688))
 (znd pc 689
 (zlf pc 688 (s_rZ))
 (zlf pc 689 (s_goto 2075)))))))
 (znd pc 704
 (znd pc 698
 (znd pc 694
 (znd pc 693
 (zlf pc 692 (s_aload 1 693))
 (zlf pc 693 (s_aload 0 694)))
 (znd pc 696
 (zlf pc 694 (s_iload 4 696))
 (znd pc 697
 (zlf pc 696 (s_ic 1 697))
 (zlf pc 697 (s_iadd 698)))))
 (znd pc 700
 (znd pc 699
 (zlf pc 698 (s_iald 699))
 (zlf pc 699 (s_aload 0 700)))
 (znd pc 702
 (zlf pc 700 (s_iload 4 702))
 (znd pc 703
 (zlf pc 702 (s_ic 2 703))
 (zlf pc 703 (s_iadd 704))))))
 (znd pc 712
 (znd pc 706
 (znd pc 705
 (zlf pc 704 (s_iald 705))
 (zlf pc 705 (s_aload 3 706)))
 (znd pc 709
 (zlf pc 706 (s_cI zpS 96 4 [zU] (zxc 0 []) 709))
 (znd pc 711
 (zlf pc 709 (s_istore 5 711))
 (zlf pc 711 (s_aload 2 712)))))
 (znd pc 715
 (znd pc 713
 (zlf pc 712 (s_aload 0 713))
 (zlf pc 713 (s_iload 4 715)))
 (znd pc 716
 (zlf pc 715 (s_ic 1 716))
 (znd pc 717
 (zlf pc 716 (s_iadd 717))
 (zlf pc 717 (s_iald 718)))))))))
 (znd pc 780
 (znd pc 751
 (znd pc 735
 (znd pc 724
 (znd pc 721
 (znd pc 719
 (zlf pc 718 (s_aload 0 719))
 (zlf pc 719 (s_iload 4 721)))
 (znd pc 722
 (zlf pc 721 (s_ic 2 722))
 (znd pc 723
 (zlf pc 722 (s_iadd 723))
 (zlf pc 723 (s_iald 724)))))
 (znd pc 729
 (znd pc 727
 (zlf pc 724 (s_cI (zpV 13) 97 3 [zU] (zxc 0 []) 727))
 (zlf pc 727 (s_istore 6 729)))
 (znd pc 730
 (zlf pc 729 (s_aload 2 730))
 (znd pc 733
 (zlf pc 730 (s_cI (zpV 13) 35 1 [] (zxc 0 []) 733))
 (zlf pc 733 (s_iload 5 735))))))
 (znd pc 745
 (znd pc 739
 (znd pc 738
 (zlf pc 735 (s_cmpeq 740 738))
 (zlf pc 738 (s_ic 0 739)))
 (znd pc 740
 (zlf pc 739 (s_rZ))
 (znd pc 742
 (zlf pc 740 (s_iload 5 742))
 (zlf pc 742 (s_ifne 757 745)))))
 (znd pc 747
 (znd pc 746
 (zlf pc 745 (s_aload 3 746))
 (zlf pc 746 (s_ic 0 747)))
 (znd pc 748
 (zlf pc 747 (s_lald 748))
 (znd pc 750
 (zlf pc 748 (s_iload 6 750))
 (zlf pc 750 (s_i2l 751)))))))
 (znd pc 766
 (znd pc 760
 (znd pc 755
 (znd pc 752
 (zlf pc 751 (s_lcmp 752))
 (zlf pc 752 (s_ifeq 757 755)))
 (znd pc 756
 (zlf pc 755 (s_ic 0 756))
 (znd pc 757
 (zlf pc 756 (s_rZ))
 (zlf pc 757 (s_goto 2075)))))
 (znd pc 762
 (znd pc 761
 (zlf pc 760 (s_aload 1 761))
 (zlf pc 761 (s_aload 0 762)))
 (znd pc 764
 (zlf pc 762 (s_iload 4 764))
 (znd pc 765
 (zlf pc 764 (s_ic 1 765))
 (zlf pc 765 (s_iadd 766))))))
 (znd pc 774
 (znd pc 768
 (znd pc 767
 (zlf pc 766 (s_iald 767))
 (zlf pc 767 (s_aload 3 768)))
 (znd pc 771
 (zlf pc 768 (s_cI zpS 104 3 [zU] (zxc 0 []) 771))
 (znd pc 773
 (zlf pc 771 (s_istore 5 773))
 (zlf pc 773 (s_aload 2 774)))))
 (znd pc 777
 (znd pc 775
 (zlf pc 774 (s_aload 0 775))
 (zlf pc 775 (s_iload 4 777)))
 (znd pc 778
 (zlf pc 777 (s_ic 1 778))
 (znd pc 779
 (zlf pc 778 (s_iadd 779))
 (zlf pc 779 (s_iald 780))))))))
 (znd pc 816
 (znd pc 801
 (znd pc 791
 (znd pc 785
 (znd pc 783
 (zlf pc 780 (s_cI (zpV 13) 107 2 [] (zxc 0 []) 783))
 (zlf pc 783 (s_istore 6 785)))
 (znd pc 786
 (zlf pc 785 (s_aload 2 786))
 (znd pc 789
 (zlf pc 786 (s_cI (zpV 13) 35 1 [] (zxc 0 []) 789))
 (zlf pc 789 (s_iload 5 791)))))
 (znd pc 795
 (znd pc 794
 (zlf pc 791 (s_cmpeq 796 794))
 (zlf pc 794 (s_ic 0 795)))
 (znd pc 796
 (zlf pc 795 (s_rZ))
 (znd pc 798
 (zlf pc 796 (s_iload 5 798))
 (zlf pc 798 (s_ifne 813 801))))))
 (znd pc 807
 (znd pc 803
 (znd pc 802
 (zlf pc 801 (s_aload 3 802))
 (zlf pc 802 (s_ic 0 803)))
 (znd pc 804
 (zlf pc 803 (s_lald 804))
 (znd pc 806
 (zlf pc 804 (s_iload 6 806))
 (zlf pc 806 (s_i2l 807)))))
 (znd pc 811
 (znd pc 808
 (zlf pc 807 (s_lcmp 808))
 (zlf pc 808 (s_ifeq 813 811)))
 (znd pc 812
 (zlf pc 811 (s_ic 0 812))
 (znd pc 813
 (zlf pc 812 (s_rZ))
 (zlf pc 813 (s_goto 2075)))))))
 (znd pc 830
 (znd pc 822
 (znd pc 818
 (znd pc 817
 (zlf pc 816 (s_aload 1 817))
 (zlf pc 817 (s_aload 0 818)))
 (znd pc 820
 (zlf pc 818 (s_iload 4 820))
 (znd pc 821
 (zlf pc 820 (s_ic 1 821))
 (zlf pc 821 (s_iadd 822)))))
 (znd pc 824
 (znd pc 823
 (zlf pc 822 (s_iald 823))
 (zlf pc 823 (s_aload 3 824)))
 (znd pc 827
 (zlf pc 824 (s_cI zpS 112 3 [zU] (zxc 0 []) 827))
 (znd pc 829
 (zlf pc 827 (s_istore 5 829))
 (zlf pc 829 (s_aload 2 830))))))
 (znd pc 836
 (znd pc 833
 (znd pc 831
 (zlf pc 830 (s_aload 0 831))
 (zlf pc 831 (s_iload 4 833)))
 (znd pc 834
 (zlf pc 833 (s_ic 1 834))
 (znd pc 835
 (zlf pc 834 (s_iadd 835))
 (zlf pc 835 (s_iald 836)))))
 (znd pc 841
 (znd pc 839
 (zlf pc 836 (s_cI (zpV 13) 113 2 [] (zxc 0 []) 839))
 (zlf pc 839 (s_istore 6 841)))
 (znd pc 842
 (zlf pc 841 (s_aload 2 842))
 (znd pc 845
 (zlf pc 842 (s_cI (zpV 13) 35 1 [] (zxc 0 []) 845))
 (zlf pc 845 (s_iload 5 847))))))))))
 (znd pc 978
 (znd pc 913
 (znd pc 878
 (znd pc 863
 (znd pc 857
 (znd pc 851
 (znd pc 850
 (zlf pc 847 (s_cmpeq 852 850))
 (zlf pc 850 (s_ic 0 851)))
 (znd pc 852
 (zlf pc 851 (s_rZ))
 (znd pc 854
 (zlf pc 852 (s_iload 5 854))
 (zlf pc 854 (s_ifne 869 857)))))
 (znd pc 859
 (znd pc 858
 (zlf pc 857 (s_aload 3 858))
 (zlf pc 858 (s_ic 0 859)))
 (znd pc 860
 (zlf pc 859 (s_lald 860))
 (znd pc 862
 (zlf pc 860 (s_iload 6 862))
 (zlf pc 862 (s_i2l 863))))))
 (znd pc 872
 (znd pc 867
 (znd pc 864
 (zlf pc 863 (s_lcmp 864))
 (zlf pc 864 (s_ifeq 869 867)))
 (znd pc 868
 (zlf pc 867 (s_ic 0 868))
 (znd pc 869
 (zlf pc 868 (s_rZ))
 (zlf pc 869 (s_goto 2075)))))
 (znd pc 874
 (znd pc 873
 (zlf pc 872 (s_aload 1 873))
 (zlf pc 873 (s_aload 0 874)))
 (znd pc 876
 (zlf pc 874 (s_iload 4 876))
 (znd pc 877
 (zlf pc 876 (s_ic 1 877))
 (zlf pc 877 (s_iadd 878)))))))
 (znd pc 892
 (znd pc 886
 (znd pc 880
 (znd pc 879
 (zlf pc 878 (s_iald 879))
 (zlf pc 879 (s_aload 3 880)))
 (znd pc 883
 (zlf pc 880 (s_cI zpS 120 3 [zU] (zxc 0 []) 883))
 (znd pc 885
 (zlf pc 883 (s_istore 5 885))
 (zlf pc 885 (s_aload 2 886)))))
 (znd pc 889
 (znd pc 887
 (zlf pc 886 (s_aload 0 887))
 (zlf pc 887 (s_iload 4 889)))
 (znd pc 890
 (zlf pc 889 (s_ic 1 890))
 (znd pc 891
 (zlf pc 890 (s_iadd 891))
 (zlf pc 891 (s_iald 892))))))
 (znd pc 903
 (znd pc 897
 (znd pc 895
 (zlf pc 892 (s_cI (zpV 13) 122 2 [zU, zU] (zxc 0 []) 895))
 (zlf pc 895 (s_istore 6 897)))
 (znd pc 898
 (zlf pc 897 (s_aload 2 898))
 (znd pc 901
 (zlf pc 898 (s_cI (zpV 13) 35 1 [] (zxc 0 []) 901))
 (zlf pc 901 (s_iload 5 903)))))
 (znd pc 907
 (znd pc 906
 (zlf pc 903 (s_cmpeq 908 906))
 (zlf pc 906 (s_ic 0 907)))
 (znd pc 908
 (zlf pc 907 (s_rZ))
 (znd pc 910
 (zlf pc 908 (s_iload 5 910))
 (zlf pc 910 (s_ifne 932 913))))))))
 (znd pc 943
 (znd pc 930
 (znd pc 921
 (znd pc 915
 (znd pc 914
 (zlf pc 913 (s_aload 3 914))
 (zlf pc 914 (s_ic 0 915)))
 (znd pc 916
 (zlf pc 915 (s_lald 916))
 (znd pc 918
 (zlf pc 916 (s_iload 6 918))
 (zlf pc 918 (s_ifeq 925 921)))))
 (znd pc 925
 (znd pc 922
 (zlf pc 921 (s_lc 1 922))
 (zlf pc 922 (s_goto 926)))
 (znd pc 926
 (zlf pc 925 (s_lc 0 926))
 (znd pc 927
 (zlf pc 926 (s_lcmp 927))
 (zlf pc 927 (s_ifeq 932 930))))))
 (znd pc 937
 (znd pc 932
 (znd pc 931
 (zlf pc 930 (s_ic 0 931))
 (zlf pc 931 (s_rZ)))
 (znd pc 935
 (zlf pc 932 (s_goto 2075))
 (znd pc 936
 (zlf pc 935 (s_aload 1 936))
 (zlf pc 936 (s_aload 0 937)))))
 (znd pc 940
 (znd pc 939
 (zlf pc 937 (s_iload 4 939))
 (zlf pc 939 (s_ic 1 940)))
 (znd pc 941
 (zlf pc 940 (s_iadd 941))
 (znd pc 942
 (zlf pc 941 (s_iald 942))
 (zlf pc 942 (s_aload 3 943)))))))
 (znd pc 960
 (znd pc 952
 (znd pc 948
 (znd pc 946
 (zlf pc 943 (s_cI zpS 124 3 [zU] (zxc 0 []) 946))
 (zlf pc 946 (s_istore 5 948)))
 (znd pc 949
 (zlf pc 948 (s_aload 2 949))
 (znd pc 950
 (zlf pc 949 (s_aload 0 950))
 (zlf pc 950 (s_iload 4 952)))))
 (znd pc 954
 (znd pc 953
 (zlf pc 952 (s_ic 1 953))
 (zlf pc 953 (s_iadd 954)))
 (znd pc 955
 (zlf pc 954 (s_iald 955))
 (znd pc 958
 (zlf pc 955 (s_cI (zpV 13) 125 2 [] (zxc 0 []) 958))
 (zlf pc 958 (s_istore 6 960))))))
 (znd pc 970
 (znd pc 964
 (znd pc 961
 (zlf pc 960 (s_aload 2 961))
 (zlf pc 961 (s_cI (zpV 13) 35 1 [] (zxc 0 []) 964)))
 (znd pc 966
 (zlf pc 964 (s_iload 5 966))
 (znd pc 969
 (zlf pc 966 (s_cmpeq 971 969))
 (zlf pc 969 (s_ic 0 970)))))
 (znd pc 973
 (znd pc 971
 (zlf pc 970 (s_rZ))
 (zlf pc 971 (s_iload 5 973)))
 (znd pc 976
 (zlf pc 973 (s_ifne 988 976))
 (znd pc 977
 (zlf pc 976 (s_aload 3 977))
 (zlf pc 977 (s_ic 0 978)))))))))
 (znd pc 1032
 (znd pc 1005
 (znd pc 993
 (znd pc 986
 (znd pc 981
 (znd pc 979
 (zlf pc 978 (s_lald 979))
 (zlf pc 979 (s_iload 6 981)))
 (znd pc 982
 (zlf pc 981 (s_i2l 982))
 (znd pc 983
 (zlf pc 982 (s_lcmp 983))
 (zlf pc 983 (s_ifeq 988 986)))))
 (znd pc 988
 (znd pc 987
 (zlf pc 986 (s_ic 0 987))
 (zlf pc 987 (s_rZ)))
 (znd pc 991
 (zlf pc 988 (s_goto 2075))
 (znd pc 992
 (zlf pc 991 (s_aload 1 992))
 (zlf pc 992 (s_aload 0 993))))))
 (znd pc 999
 (znd pc 996
 (znd pc 995
 (zlf pc 993 (s_iload 4 995))
 (zlf pc 995 (s_ic 1 996)))
 (znd pc 997
 (zlf pc 996 (s_iadd 997))
 (znd pc 998
 (zlf pc 997 (s_iald 998))
 (zlf pc 998 (s_aload 0 999)))))
 (znd pc 1002
 (znd pc 1001
 (zlf pc 999 (s_iload 4 1001))
 (zlf pc 1001 (s_ic 2 1002)))
 (znd pc 1003
 (zlf pc 1002 (s_iadd 1003))
 (znd pc 1004
 (zlf pc 1003 (s_iald 1004))
 (zlf pc 1004 (s_aload 0 1005)))))))
 (znd pc 1020
 (znd pc 1011
 (znd pc 1008
 (znd pc 1007
 (zlf pc 1005 (s_iload 4 1007))
 (zlf pc 1007 (s_ic 3 1008)))
 (znd pc 1009
 (zlf pc 1008 (s_iadd 1009))
 (znd pc 1010
 (zlf pc 1009 (s_iald 1010))
 (zlf pc 1010 (s_aload 3 1011)))))
 (znd pc 1016
 (znd pc 1014
 (zlf pc 1011 (s_cI zpS 128 5 [zU] (zxc 0 []) 1014))
 (zlf pc 1014 (s_istore 5 1016)))
 (znd pc 1017
 (zlf pc 1016 (s_aload 2 1017))
 (znd pc 1018
 (zlf pc 1017 (s_aload 0 1018))
 (zlf pc 1018 (s_iload 4 1020))))))
 (znd pc 1026
 (znd pc 1022
 (znd pc 1021
 (zlf pc 1020 (s_ic 1 1021))
 (zlf pc 1021 (s_iadd 1022)))
 (znd pc 1023
 (zlf pc 1022 (s_iald 1023))
 (znd pc 1024
 (zlf pc 1023 (s_aload 0 1024))
 (zlf pc 1024 (s_iload 4 1026)))))
 (znd pc 1028
 (znd pc 1027
 (zlf pc 1026 (s_ic 2 1027))
 (zlf pc 1027 (s_iadd 1028)))
 (znd pc 1029
 (zlf pc 1028 (s_iald 1029))
 (znd pc 1030
 (zlf pc 1029 (s_aload 0 1030))
 (zlf pc 1030 (s_iload 4 1032))))))))
 (znd pc 1066
 (znd pc 1050
 (znd pc 1040
 (znd pc 1034
 (znd pc 1033
 (zlf pc 1032 (s_ic 3 1033))
 (zlf pc 1033 (s_iadd 1034)))
 (znd pc 1035
 (zlf pc 1034 (s_iald 1035))
 (znd pc 1038
 (zlf pc 1035 (s_cI (zpV 13) 129 4 [zU] (zxc 0 []) 1038))
 (zlf pc 1038 (s_istore 6 1040)))))
 (znd pc 1044
 (znd pc 1041
 (zlf pc 1040 (s_aload 2 1041))
 (zlf pc 1041 (s_cI (zpV 13) 35 1 [] (zxc 0 []) 1044)))
 (znd pc 1046
 (zlf pc 1044 (s_iload 5 1046))
 (znd pc 1049
 (zlf pc 1046 (s_cmpeq 1051 1049))
 (zlf pc 1049 (s_ic 0 1050))))))
 (znd pc 1058
 (znd pc 1053
 (znd pc 1051
 (zlf pc 1050 (s_rZ))
 (zlf pc 1051 (s_iload 5 1053)))
 (znd pc 1056
 (zlf pc 1053 (s_ifne 1068 1056))
 (znd pc 1057
 (zlf pc 1056 (s_aload 3 1057))
 (zlf pc 1057 (s_ic 0 1058)))))
 (znd pc 1061
 (znd pc 1059
 (zlf pc 1058 (s_lald 1059))
 (zlf pc 1059 (s_iload 6 1061)))
 (znd pc 1062
 (zlf pc 1061 (s_i2l 1062))
 (znd pc 1063
 (zlf pc 1062 (s_lcmp 1063))
 (zlf pc 1063 (s_ifeq 1068 1066)))))))
 (znd pc 1079
 (znd pc 1073
 (znd pc 1068
 (znd pc 1067
 (zlf pc 1066 (s_ic 0 1067))
 (zlf pc 1067 (s_rZ)))
 (znd pc 1071
 (zlf pc 1068 (s_goto 2075))
 (znd pc 1072
 (zlf pc 1071 (s_aload 1 1072))
 (zlf pc 1072 (s_aload 0 1073)))))
 (znd pc 1076
 (znd pc 1075
 (zlf pc 1073 (s_iload 4 1075))
 (zlf pc 1075 (s_ic 1 1076)))
 (znd pc 1077
 (zlf pc 1076 (s_iadd 1077))
 (znd pc 1078
 (zlf pc 1077 (s_iald 1078))
 (zlf pc 1078 (s_aload 0 1079))))))
 (znd pc 1087
 (znd pc 1082
 (znd pc 1081
 (zlf pc 1079 (s_iload 4 1081))
 (zlf pc 1081 (s_ic 2 1082)))
 (znd pc 1083
 (zlf pc 1082 (s_iadd 1083))
 (znd pc 1084
 (zlf pc 1083 (s_iald 1084))
 (zlf pc 1084 (s_ifeq 1091 1087)))))
 (znd pc 1091
 (znd pc 1088
 (zlf pc 1087 (s_ic 1 1088))
 (zlf pc 1088 (s_goto 1092)))
 (znd pc 1092
 (zlf pc 1091 (s_ic 0 1092))
 (znd pc 1093
 (zlf pc 1092 (s_aload 3 1093))
 (zlf pc 1093 (s_cI zpS 134 4 [zU] (zxc 0 []) 1096))))))))))))
 (znd pc 1586
 (znd pc 1344
 (znd pc 1220
 (znd pc 1160
 (znd pc 1128
 (znd pc 1109
 (znd pc 1103
 (znd pc 1099
 (znd pc 1098
 (zlf pc 1096 (s_istore 5 1098))
 (zlf pc 1098 (s_aload 2 1099)))
 (znd pc 1100
 (zlf pc 1099 (s_aload 0 1100))
 (znd pc 1102
 (zlf pc 1100 (s_iload 4 1102))
 (zlf pc 1102 (s_ic 1 1103)))))
 (znd pc 1105
 (znd pc 1104
 (zlf pc 1103 (s_iadd 1104))
 (zlf pc 1104 (s_iald 1105)))
 (znd pc 1106
 (zlf pc 1105 (s_aload 0 1106))
 (znd pc 1108
 (zlf pc 1106 (s_iload 4 1108))
 (zlf pc 1108 (s_ic 2 1109))))))
 (znd pc 1118
 (znd pc 1111
 (znd pc 1110
 (zlf pc 1109 (s_iadd 1110))
 (zlf pc 1110 (s_iald 1111)))
 (znd pc 1114
 (zlf pc 1111 (s_ifeq 1118 1114))
 (znd pc 1115
 (zlf pc 1114 (s_ic 1 1115))
 (zlf pc 1115 (s_goto 1119)))))
 (znd pc 1122
 (znd pc 1119
 (zlf pc 1118 (s_ic 0 1119))
 (zlf pc 1119 (s_cI (zpV 13) 137 3 [] (zxc 0 []) 1122)))
 (znd pc 1124
 (zlf pc 1122 (s_istore 6 1124))
 (znd pc 1125
 (zlf pc 1124 (s_aload 2 1125))
 (zlf pc 1125 (s_cI (zpV 13) 35 1 [] (zxc 0 []) 1128)))))))
 (znd pc 1145
 (znd pc 1137
 (znd pc 1133
 (znd pc 1130
 (zlf pc 1128 (s_iload 5 1130))
 (zlf pc 1130 (s_cmpeq 1135 1133)))
 (znd pc 1134
 (zlf pc 1133 (s_ic 0 1134))
 (znd pc 1135
 (zlf pc 1134 (s_rZ))
 (zlf pc 1135 (s_iload 5 1137)))))
 (znd pc 1141
 (znd pc 1140
 (zlf pc 1137 (s_ifne 1152 1140))
 (zlf pc 1140 (s_aload 3 1141)))
 (znd pc 1142
 (zlf pc 1141 (s_ic 0 1142))
 (znd pc 1143
 (zlf pc 1142 (s_lald 1143))
 (zlf pc 1143 (s_iload 6 1145))))))
 (znd pc 1152
 (znd pc 1147
 (znd pc 1146
 (zlf pc 1145 (s_i2l 1146))
 (zlf pc 1146 (s_lcmp 1147)))
 (znd pc 1150
 (zlf pc 1147 (s_ifeq 1152 1150))
 (znd pc 1151
 (zlf pc 1150 (s_ic 0 1151))
 (zlf pc 1151 (s_rZ)))))
 (znd pc 1156
 (znd pc 1155
 (zlf pc 1152 (s_goto 2075))
 (zlf pc 1155 (s_aload 1 1156)))
 (znd pc 1157
 (zlf pc 1156 (s_aload 0 1157))
 (znd pc 1159
 (zlf pc 1157 (s_iload 4 1159))
 (zlf pc 1159 (s_ic 1 1160))))))))
 (znd pc 1186
 (znd pc 1174
 (znd pc 1166
 (znd pc 1162
 (znd pc 1161
 (zlf pc 1160 (s_iadd 1161))
 (zlf pc 1161 (s_iald 1162)))
 (znd pc 1163
 (zlf pc 1162 (s_aload 0 1163))
 (znd pc 1165
 (zlf pc 1163 (s_iload 4 1165))
 (zlf pc 1165 (s_ic 2 1166)))))
 (znd pc 1168
 (znd pc 1167
 (zlf pc 1166 (s_iadd 1167))
 (zlf pc 1167 (s_iald 1168)))
 (znd pc 1169
 (zlf pc 1168 (s_aload 3 1169))
 (znd pc 1172
 (zlf pc 1169 (s_cI zpS 139 4 [zU] (zxc 0 []) 1172))
 (zlf pc 1172 (s_istore 5 1174))))))
 (znd pc 1180
 (znd pc 1176
 (znd pc 1175
 (zlf pc 1174 (s_aload 2 1175))
 (zlf pc 1175 (s_aload 0 1176)))
 (znd pc 1178
 (zlf pc 1176 (s_iload 4 1178))
 (znd pc 1179
 (zlf pc 1178 (s_ic 1 1179))
 (zlf pc 1179 (s_iadd 1180)))))
 (znd pc 1182
 (znd pc 1181
 (zlf pc 1180 (s_iald 1181))
 (zlf pc 1181 (s_aload 0 1182)))
 (znd pc 1184
 (zlf pc 1182 (s_iload 4 1184))
 (znd pc 1185
 (zlf pc 1184 (s_ic 2 1185))
 (zlf pc 1185 (s_iadd 1186)))))))
 (znd pc 1205
 (znd pc 1196
 (znd pc 1190
 (znd pc 1187
 (zlf pc 1186 (s_iald 1187))
 (zlf pc 1187 (s_cI (zpV 13) 140 3 [] (zxc 0 []) 1190)))
 (znd pc 1192
 (zlf pc 1190 (s_istore 6 1192))
 (znd pc 1193
 (zlf pc 1192 (s_aload 2 1193))
 (zlf pc 1193 (s_cI (zpV 13) 35 1 [] (zxc 0 []) 1196)))))
 (znd pc 1201
 (znd pc 1198
 (zlf pc 1196 (s_iload 5 1198))
 (zlf pc 1198 (s_cmpeq 1203 1201)))
 (znd pc 1202
 (zlf pc 1201 (s_ic 0 1202))
 (znd pc 1203
 (zlf pc 1202 (s_rZ))
 (zlf pc 1203 (s_iload 5 1205))))))
 (znd pc 1213
 (znd pc 1209
 (znd pc 1208
 (zlf pc 1205 (s_ifne 1220 1208))
 (zlf pc 1208 (s_aload 3 1209)))
 (znd pc 1210
 (zlf pc 1209 (s_ic 0 1210))
 (znd pc 1211
 (zlf pc 1210 (s_lald 1211))
 (zlf pc 1211 (s_iload 6 1213)))))
 (znd pc 1215
 (znd pc 1214
 (zlf pc 1213 (s_i2l 1214))
 (zlf pc 1214 (s_lcmp 1215)))
 (znd pc 1218
 (zlf pc 1215 (s_ifeq 1220 1218))
 (znd pc 1219
 (zlf pc 1218 (s_ic 0 1219))
 (zlf pc 1219 (s_rZ)))))))))
 (znd pc 1284
 (znd pc 1257
 (znd pc 1240
 (znd pc 1230
 (znd pc 1224
 (znd pc 1223
 (zlf pc 1220 (s_goto 2075))
 (zlf pc 1223 (s_aload 1 1224)))
 (znd pc 1225
 (zlf pc 1224 (s_aload 3 1225))
 (znd pc 1228
 (zlf pc 1225 (s_cI zpS 144 2 [zU] (zxc 0 []) 1228))
 (zlf pc 1228 (s_istore 5 1230)))))
 (znd pc 1234
 (znd pc 1231
 (zlf pc 1230 (s_aload 2 1231))
 (zlf pc 1231 (s_cI (zpV 13) 145 1 [] (zxc 0 []) 1234)))
 (znd pc 1236
 (zlf pc 1234 (s_istore 6 1236))
 (znd pc 1237
 (zlf pc 1236 (s_aload 2 1237))
 (zlf pc 1237 (s_cI (zpV 13) 35 1 [] (zxc 0 []) 1240))))))
 (znd pc 1249
 (znd pc 1245
 (znd pc 1242
 (zlf pc 1240 (s_iload 5 1242))
 (zlf pc 1242 (s_cmpeq 1247 1245)))
 (znd pc 1246
 (zlf pc 1245 (s_ic 0 1246))
 (znd pc 1247
 (zlf pc 1246 (s_rZ))
 (zlf pc 1247 (s_iload 5 1249)))))
 (znd pc 1253
 (znd pc 1252
 (zlf pc 1249 (s_ifne 1264 1252))
 (zlf pc 1252 (s_aload 3 1253)))
 (znd pc 1254
 (zlf pc 1253 (s_ic 0 1254))
 (znd pc 1255
 (zlf pc 1254 (s_lald 1255))
 (zlf pc 1255 (s_iload 6 1257)))))))
 (znd pc 1272
 (znd pc 1264
 (znd pc 1259
 (znd pc 1258
 (zlf pc 1257 (s_i2l 1258))
 (zlf pc 1258 (s_lcmp 1259)))
 (znd pc 1262
 (zlf pc 1259 (s_ifeq 1264 1262))
 (znd pc 1263
 (zlf pc 1262 (s_ic 0 1263))
 (zlf pc 1263 (s_rZ)))))
 (znd pc 1268
 (znd pc 1267
 (zlf pc 1264 (s_goto 2075))
 (zlf pc 1267 (s_aload 1 1268)))
 (znd pc 1269
 (zlf pc 1268 (s_aload 0 1269))
 (znd pc 1271
 (zlf pc 1269 (s_iload 4 1271))
 (zlf pc 1271 (s_ic 1 1272))))))
 (znd pc 1278
 (znd pc 1274
 (znd pc 1273
 (zlf pc 1272 (s_iadd 1273))
 (zlf pc 1273 (s_iald 1274)))
 (znd pc 1275
 (zlf pc 1274 (s_aload 0 1275))
 (znd pc 1277
 (zlf pc 1275 (s_iload 4 1277))
 (zlf pc 1277 (s_ic 2 1278)))))
 (znd pc 1280
 (znd pc 1279
 (zlf pc 1278 (s_iadd 1279))
 (zlf pc 1279 (s_iald 1280)))
 (znd pc 1281
 (zlf pc 1280 (s_aload 0 1281))
 (znd pc 1283
 (zlf pc 1281 (s_iload 4 1283))
 (zlf pc 1283 (s_ic 3 1284))))))))
 (znd pc 1310
 (znd pc 1298
 (znd pc 1292
 (znd pc 1286
 (znd pc 1285
 (zlf pc 1284 (s_iadd 1285))
 (zlf pc 1285 (s_iald 1286)))
 (znd pc 1287
 (zlf pc 1286 (s_aload 3 1287))
 (znd pc 1290
 (zlf pc 1287 (s_cI zpS 152 5 [zU] (zxc 0 []) 1290))
 (zlf pc 1290 (s_istore 5 1292)))))
 (znd pc 1294
 (znd pc 1293
 (zlf pc 1292 (s_aload 2 1293))
 (zlf pc 1293 (s_aload 0 1294)))
 (znd pc 1296
 (zlf pc 1294 (s_iload 4 1296))
 (znd pc 1297
 (zlf pc 1296 (s_ic 1 1297))
 (zlf pc 1297 (s_iadd 1298))))))
 (znd pc 1304
 (znd pc 1300
 (znd pc 1299
 (zlf pc 1298 (s_iald 1299))
 (zlf pc 1299 (s_aload 0 1300)))
 (znd pc 1302
 (zlf pc 1300 (s_iload 4 1302))
 (znd pc 1303
 (zlf pc 1302 (s_ic 2 1303))
 (zlf pc 1303 (s_iadd 1304)))))
 (znd pc 1306
 (znd pc 1305
 (zlf pc 1304 (s_iald 1305))
 (zlf pc 1305 (s_aload 0 1306)))
 (znd pc 1308
 (zlf pc 1306 (s_iload 4 1308))
 (znd pc 1309
 (zlf pc 1308 (s_ic 3 1309))
 (zlf pc 1309 (s_iadd 1310)))))))
 (znd pc 1329
 (znd pc 1320
 (znd pc 1314
 (znd pc 1311
 (zlf pc 1310 (s_iald 1311))
 (zlf pc 1311 (s_cI (zpV 13) 156 4 [zU, zU] (zxc 0 []) 1314)))
 (znd pc 1316
 (zlf pc 1314 (s_istore 6 1316))
 (znd pc 1317
 (zlf pc 1316 (s_aload 2 1317))
 (zlf pc 1317 (s_cI (zpV 13) 35 1 [] (zxc 0 []) 1320)))))
 (znd pc 1325
 (znd pc 1322
 (zlf pc 1320 (s_iload 5 1322))
 (zlf pc 1322 (s_cmpeq 1327 1325)))
 (znd pc 1326
 (zlf pc 1325 (s_ic 0 1326))
 (znd pc 1327
 (zlf pc 1326 (s_rZ))
 (zlf pc 1327 (s_iload 5 1329))))))
 (znd pc 1337
 (znd pc 1333
 (znd pc 1332
 (zlf pc 1329 (s_ifne 1344 1332))
 (zlf pc 1332 (s_aload 3 1333)))
 (znd pc 1334
 (zlf pc 1333 (s_ic 0 1334))
 (znd pc 1335
 (zlf pc 1334 (s_lald 1335))
 (zlf pc 1335 (s_iload 6 1337)))))
 (znd pc 1339
 (znd pc 1338
 (zlf pc 1337 (s_i2l 1338))
 (zlf pc 1338 (s_lcmp 1339)))
 (znd pc 1342
 (zlf pc 1339 (s_ifeq 1344 1342))
 (znd pc 1343
 (zlf pc 1342 (s_ic 0 1343))
 (zlf pc 1343 (s_rZ))))))))))
 (znd pc 1464
 (znd pc 1403
 (znd pc 1373
 (znd pc 1361
 (znd pc 1352
 (znd pc 1348
 (znd pc 1347
 (zlf pc 1344 (s_goto 2075))
 (zlf pc 1347 (s_aload 1 1348)))
 (znd pc 1349
 (zlf pc 1348 (s_aload 0 1349))
 (znd pc 1351
 (zlf pc 1349 (s_iload 4 1351))
 (zlf pc 1351 (s_ic 1 1352)))))
 (znd pc 1354
 (znd pc 1353
 (zlf pc 1352 (s_iadd 1353))
 (zlf pc 1353 (s_iald 1354)))
 (znd pc 1357
 (zlf pc 1354 (s_ifeq 1361 1357))
 (znd pc 1358
 (zlf pc 1357 (s_ic 1 1358))
 (zlf pc 1358 (s_goto 1362))))))
 (znd pc 1367
 (znd pc 1363
 (znd pc 1362
 (zlf pc 1361 (s_ic 0 1362))
 (zlf pc 1362 (s_aload 0 1363)))
 (znd pc 1365
 (zlf pc 1363 (s_iload 4 1365))
 (znd pc 1366
 (zlf pc 1365 (s_ic 2 1366))
 (zlf pc 1366 (s_iadd 1367)))))
 (znd pc 1369
 (znd pc 1368
 (zlf pc 1367 (s_iald 1368))
 (zlf pc 1368 (s_aload 0 1369)))
 (znd pc 1371
 (zlf pc 1369 (s_iload 4 1371))
 (znd pc 1372
 (zlf pc 1371 (s_ic 3 1372))
 (zlf pc 1372 (s_iadd 1373)))))))
 (znd pc 1387
 (znd pc 1379
 (znd pc 1375
 (znd pc 1374
 (zlf pc 1373 (s_iald 1374))
 (zlf pc 1374 (s_aload 0 1375)))
 (znd pc 1377
 (zlf pc 1375 (s_iload 4 1377))
 (znd pc 1378
 (zlf pc 1377 (s_ic 4 1378))
 (zlf pc 1378 (s_iadd 1379)))))
 (znd pc 1383
 (znd pc 1380
 (zlf pc 1379 (s_iald 1380))
 (zlf pc 1380 (s_cI zpS 158 5 [zU] (zxc 0 []) 1383)))
 (znd pc 1385
 (zlf pc 1383 (s_istore 5 1385))
 (znd pc 1386
 (zlf pc 1385 (s_aload 2 1386))
 (zlf pc 1386 (s_aload 0 1387))))))
 (znd pc 1395
 (znd pc 1390
 (znd pc 1389
 (zlf pc 1387 (s_iload 4 1389))
 (zlf pc 1389 (s_ic 1 1390)))
 (znd pc 1391
 (zlf pc 1390 (s_iadd 1391))
 (znd pc 1392
 (zlf pc 1391 (s_iald 1392))
 (zlf pc 1392 (s_ifeq 1399 1395)))))
 (znd pc 1399
 (znd pc 1396
 (zlf pc 1395 (s_ic 1 1396))
 (zlf pc 1396 (s_goto 1400)))
 (znd pc 1400
 (zlf pc 1399 (s_ic 0 1400))
 (znd pc 1401
 (zlf pc 1400 (s_aload 0 1401))
 (zlf pc 1401 (s_iload 4 1403))))))))
 (znd pc 1432
 (znd pc 1415
 (znd pc 1409
 (znd pc 1405
 (znd pc 1404
 (zlf pc 1403 (s_ic 2 1404))
 (zlf pc 1404 (s_iadd 1405)))
 (znd pc 1406
 (zlf pc 1405 (s_iald 1406))
 (znd pc 1407
 (zlf pc 1406 (s_aload 0 1407))
 (zlf pc 1407 (s_iload 4 1409)))))
 (znd pc 1411
 (znd pc 1410
 (zlf pc 1409 (s_ic 3 1410))
 (zlf pc 1410 (s_iadd 1411)))
 (znd pc 1412
 (zlf pc 1411 (s_iald 1412))
 (znd pc 1413
 (zlf pc 1412 (s_aload 0 1413))
 (zlf pc 1413 (s_iload 4 1415))))))
 (znd pc 1422
 (znd pc 1417
 (znd pc 1416
 (zlf pc 1415 (s_ic 4 1416))
 (zlf pc 1416 (s_iadd 1417)))
 (znd pc 1418
 (zlf pc 1417 (s_iald 1418))
 (znd pc 1421
 (zlf pc 1418 (s_cV (zpV 13) 159 5 [zU, zU] (zxc 0 []) 1421))
 (zlf pc 1421 (s_aload 2 1422)))))
 (znd pc 1427
 (znd pc 1425
 (zlf pc 1422 (s_cI (zpV 13) 35 1 [] (zxc 0 []) 1425))
 (zlf pc 1425 (s_iload 5 1427)))
 (znd pc 1430
 (zlf pc 1427 (s_cmpeq 1432 1430))
 (znd pc 1431
 (zlf pc 1430 (s_ic 0 1431))
 (zlf pc 1431 (s_rZ)))))))
 (znd pc 1448
 (znd pc 1440
 (znd pc 1436
 (znd pc 1435
 (zlf pc 1432 (s_goto 2075))
 (zlf pc 1435 (s_aload 1 1436)))
 (znd pc 1437
 (zlf pc 1436 (s_aload 0 1437))
 (znd pc 1439
 (zlf pc 1437 (s_iload 4 1439))
 (zlf pc 1439 (s_ic 1 1440)))))
 (znd pc 1442
 (znd pc 1441
 (zlf pc 1440 (s_iadd 1441))
 (zlf pc 1441 (s_iald 1442)))
 (znd pc 1443
 (zlf pc 1442 (s_aload 3 1443))
 (znd pc 1446
 (zlf pc 1443 (s_cI zpS 168 3 [zU] (zxc 0 []) 1446))
 (zlf pc 1446 (s_istore 5 1448))))))
 (znd pc 1454
 (znd pc 1450
 (znd pc 1449
 (zlf pc 1448 (s_aload 2 1449))
 (zlf pc 1449 (s_aload 0 1450)))
 (znd pc 1452
 (zlf pc 1450 (s_iload 4 1452))
 (znd pc 1453
 (zlf pc 1452 (s_ic 1 1453))
 (zlf pc 1453 (s_iadd 1454)))))
 (znd pc 1458
 (znd pc 1455
 (zlf pc 1454 (s_iald 1455))
 (zlf pc 1455 (s_cI (zpV 13) 171 2 [zU, zU, zU] (zxc 0 []) 1458)))
 (znd pc 1460
 (zlf pc 1458 (s_istore 6 1460))
 (znd pc 1461
 (zlf pc 1460 (s_aload 2 1461))
 (zlf pc 1461 (s_cI (zpV 13) 35 1 [] (zxc 0 []) 1464)))))))))
 (znd pc 1522
 (znd pc 1496
 (znd pc 1481
 (znd pc 1473
 (znd pc 1469
 (znd pc 1466
 (zlf pc 1464 (s_iload 5 1466))
 (zlf pc 1466 (s_cmpeq 1471 1469)))
 (znd pc 1470
 (zlf pc 1469 (s_ic 0 1470))
 (znd pc 1471
 (zlf pc 1470 (s_rZ))
 (zlf pc 1471 (s_iload 5 1473)))))
 (znd pc 1477
 (znd pc 1476
 (zlf pc 1473 (s_ifne 1488 1476))
 (zlf pc 1476 (s_aload 3 1477)))
 (znd pc 1478
 (zlf pc 1477 (s_ic 0 1478))
 (znd pc 1479
 (zlf pc 1478 (s_lald 1479))
 (zlf pc 1479 (s_iload 6 1481))))))
 (znd pc 1488
 (znd pc 1483
 (znd pc 1482
 (zlf pc 1481 (s_i2l 1482))
 (zlf pc 1482 (s_lcmp 1483)))
 (znd pc 1486
 (zlf pc 1483 (s_ifeq 1488 1486))
 (znd pc 1487
 (zlf pc 1486 (s_ic 0 1487))
 (zlf pc 1487 (s_rZ)))))
 (znd pc 1492
 (znd pc 1491
 (zlf pc 1488 (s_goto 2075))
 (zlf pc 1491 (s_aload 1 1492)))
 (znd pc 1493
 (zlf pc 1492 (s_aload 0 1493))
 (znd pc 1495
 (zlf pc 1493 (s_iload 4 1495))
 (zlf pc 1495 (s_ic 1 1496)))))))
 (znd pc 1510
 (znd pc 1502
 (znd pc 1498
 (znd pc 1497
 (zlf pc 1496 (s_iadd 1497))
 (zlf pc 1497 (s_iald 1498)))
 (znd pc 1499
 (zlf pc 1498 (s_aload 0 1499))
 (znd pc 1501
 (zlf pc 1499 (s_iload 4 1501))
 (zlf pc 1501 (s_ic 2 1502)))))
 (znd pc 1504
 (znd pc 1503
 (zlf pc 1502 (s_iadd 1503))
 (zlf pc 1503 (s_iald 1504)))
 (znd pc 1507
 (zlf pc 1504 (s_cI zpS 173 3 [zU] (zxc 0 []) 1507))
 (znd pc 1509
 (zlf pc 1507 (s_istore 5 1509))
 (zlf pc 1509 (s_aload 2 1510))))))
 (znd pc 1516
 (znd pc 1513
 (znd pc 1511
 (zlf pc 1510 (s_aload 0 1511))
 (zlf pc 1511 (s_iload 4 1513)))
 (znd pc 1514
 (zlf pc 1513 (s_ic 1 1514))
 (znd pc 1515
 (zlf pc 1514 (s_iadd 1515))
 (zlf pc 1515 (s_iald 1516)))))
 (znd pc 1519
 (znd pc 1517
 (zlf pc 1516 (s_aload 0 1517))
 (zlf pc 1517 (s_iload 4 1519)))
 (znd pc 1520
 (zlf pc 1519 (s_ic 2 1520))
 (znd pc 1521
 (zlf pc 1520 (s_iadd 1521))
 (zlf pc 1521 (s_iald 1522))))))))
 (znd pc 1555
 (znd pc 1541
 (znd pc 1534
 (znd pc 1526
 (znd pc 1525
 (zlf pc 1522 (s_cV (zpV 13) 174 3 [zU] (zxc 0 []) 1525))
 (zlf pc 1525 (s_aload 2 1526)))
 (znd pc 1529
 (zlf pc 1526 (s_cI (zpV 13) 35 1 [] (zxc 0 []) 1529))
 (znd pc 1531
 (zlf pc 1529 (s_iload 5 1531))
 (zlf pc 1531 (s_cmpeq 1536 1534)))))
 (znd pc 1536
 (znd pc 1535
 (zlf pc 1534 (s_ic 0 1535))
 (zlf pc 1535 (s_rZ)))
 (znd pc 1539
 (zlf pc 1536 (s_goto 2075))
 (znd pc 1540
 (zlf pc 1539 (s_aload 1 1540))
 (zlf pc 1540 (s_aload 0 1541))))))
 (znd pc 1547
 (znd pc 1544
 (znd pc 1543
 (zlf pc 1541 (s_iload 4 1543))
 (zlf pc 1543 (s_ic 1 1544)))
 (znd pc 1545
 (zlf pc 1544 (s_iadd 1545))
 (znd pc 1546
 (zlf pc 1545 (s_iald 1546))
 (zlf pc 1546 (s_aload 0 1547)))))
 (znd pc 1550
 (znd pc 1549
 (zlf pc 1547 (s_iload 4 1549))
 (zlf pc 1549 (s_ic 2 1550)))
 (znd pc 1551
 (zlf pc 1550 (s_iadd 1551))
 (znd pc 1552
 (zlf pc 1551 (s_iald 1552))
 (zlf pc 1552 (s_ifeq 1559 1555)))))))
 (znd pc 1571
 (znd pc 1564
 (znd pc 1559
 (znd pc 1556
 (zlf pc 1555 (s_ic 1 1556))
 (zlf pc 1556 (s_goto 1560)))
 (znd pc 1560
 (zlf pc 1559 (s_ic 0 1560))
 (znd pc 1561
 (zlf pc 1560 (s_aload 3 1561))
 (zlf pc 1561 (s_cI zpS 177 4 [zU] (zxc 0 []) 1564)))))
 (znd pc 1567
 (znd pc 1566
 (zlf pc 1564 (s_istore 5 1566))
 (zlf pc 1566 (s_aload 2 1567)))
 (znd pc 1568
 (zlf pc 1567 (s_aload 0 1568))
 (znd pc 1570
 (zlf pc 1568 (s_iload 4 1570))
 (zlf pc 1570 (s_ic 1 1571))))))
 (znd pc 1577
 (znd pc 1573
 (znd pc 1572
 (zlf pc 1571 (s_iadd 1572))
 (zlf pc 1572 (s_iald 1573)))
 (znd pc 1574
 (zlf pc 1573 (s_aload 0 1574))
 (znd pc 1576
 (zlf pc 1574 (s_iload 4 1576))
 (zlf pc 1576 (s_ic 2 1577)))))
 (znd pc 1579
 (znd pc 1578
 (zlf pc 1577 (s_iadd 1578))
 (zlf pc 1578 (s_iald 1579)))
 (znd pc 1582
 (zlf pc 1579 (s_ifeq 1586 1582))
 (znd pc 1583
 (zlf pc 1582 (s_ic 1 1583))
 (zlf pc 1583 (s_goto 1587)))))))))))
 (znd pc 1834
 (znd pc 1710
 (znd pc 1652
 (znd pc 1620
 (znd pc 1605
 (znd pc 1596
 (znd pc 1590
 (znd pc 1587
 (zlf pc 1586 (s_ic 0 1587))
 (zlf pc 1587 (s_cI (zpV 13) 178 3 [zU, zU] (zxc 0 []) 1590)))
 (znd pc 1592
 (zlf pc 1590 (s_istore 6 1592))
 (znd pc 1593
 (zlf pc 1592 (s_aload 2 1593))
 (zlf pc 1593 (s_cI (zpV 13) 35 1 [] (zxc 0 []) 1596)))))
 (znd pc 1601
 (znd pc 1598
 (zlf pc 1596 (s_iload 5 1598))
 (zlf pc 1598 (s_cmpeq 1603 1601)))
 (znd pc 1602
 (zlf pc 1601 (s_ic 0 1602))
 (znd pc 1603
 (zlf pc 1602 (s_rZ))
 (zlf pc 1603 (s_iload 5 1605))))))
 (znd pc 1613
 (znd pc 1609
 (znd pc 1608
 (zlf pc 1605 (s_ifne 1620 1608))
 (zlf pc 1608 (s_aload 3 1609)))
 (znd pc 1610
 (zlf pc 1609 (s_ic 0 1610))
 (znd pc 1611
 (zlf pc 1610 (s_lald 1611))
 (zlf pc 1611 (s_iload 6 1613)))))
 (znd pc 1615
 (znd pc 1614
 (zlf pc 1613 (s_i2l 1614))
 (zlf pc 1614 (s_lcmp 1615)))
 (znd pc 1618
 (zlf pc 1615 (s_ifeq 1620 1618))
 (znd pc 1619
 (zlf pc 1618 (s_ic 0 1619))
 (zlf pc 1619 (s_rZ)))))))
 (znd pc 1636
 (znd pc 1628
 (znd pc 1624
 (znd pc 1623
 (zlf pc 1620 (s_goto 2075))
 (zlf pc 1623 (s_aload 1 1624)))
 (znd pc 1625
 (zlf pc 1624 (s_aload 0 1625))
 (znd pc 1627
 (zlf pc 1625 (s_iload 4 1627))
 (zlf pc 1627 (s_ic 1 1628)))))
 (znd pc 1630
 (znd pc 1629
 (zlf pc 1628 (s_iadd 1629))
 (zlf pc 1629 (s_iald 1630)))
 (znd pc 1631
 (zlf pc 1630 (s_aload 3 1631))
 (znd pc 1634
 (zlf pc 1631 (s_cI zpS 182 3 [zU] (zxc 0 []) 1634))
 (zlf pc 1634 (s_istore 5 1636))))))
 (znd pc 1642
 (znd pc 1638
 (znd pc 1637
 (zlf pc 1636 (s_aload 2 1637))
 (zlf pc 1637 (s_aload 0 1638)))
 (znd pc 1640
 (zlf pc 1638 (s_iload 4 1640))
 (znd pc 1641
 (zlf pc 1640 (s_ic 1 1641))
 (zlf pc 1641 (s_iadd 1642)))))
 (znd pc 1646
 (znd pc 1643
 (zlf pc 1642 (s_iald 1643))
 (zlf pc 1643 (s_cI (zpV 13) 184 2 [zU, zU] (zxc 0 []) 1646)))
 (znd pc 1648
 (zlf pc 1646 (s_istore 6 1648))
 (znd pc 1649
 (zlf pc 1648 (s_aload 2 1649))
 (zlf pc 1649 (s_cI (zpV 13) 35 1 [] (zxc 0 []) 1652))))))))
 (znd pc 1684
 (znd pc 1669
 (znd pc 1661
 (znd pc 1657
 (znd pc 1654
 (zlf pc 1652 (s_iload 5 1654))
 (zlf pc 1654 (s_cmpeq 1659 1657)))
 (znd pc 1658
 (zlf pc 1657 (s_ic 0 1658))
 (znd pc 1659
 (zlf pc 1658 (s_rZ))
 (zlf pc 1659 (s_iload 5 1661)))))
 (znd pc 1665
 (znd pc 1664
 (zlf pc 1661 (s_ifne 1676 1664))
 (zlf pc 1664 (s_aload 3 1665)))
 (znd pc 1666
 (zlf pc 1665 (s_ic 0 1666))
 (znd pc 1667
 (zlf pc 1666 (s_lald 1667))
 (zlf pc 1667 (s_iload 6 1669))))))
 (znd pc 1676
 (znd pc 1671
 (znd pc 1670
 (zlf pc 1669 (s_i2l 1670))
 (zlf pc 1670 (s_lcmp 1671)))
 (znd pc 1674
 (zlf pc 1671 (s_ifeq 1676 1674))
 (znd pc 1675
 (zlf pc 1674 (s_ic 0 1675))
 (zlf pc 1675 (s_rZ)))))
 (znd pc 1680
 (znd pc 1679
 (zlf pc 1676 (s_goto 2075))
 (zlf pc 1679 (s_aload 1 1680)))
 (znd pc 1681
 (zlf pc 1680 (s_aload 0 1681))
 (znd pc 1683
 (zlf pc 1681 (s_iload 4 1683))
 (zlf pc 1683 (s_ic 1 1684)))))))
 (znd pc 1696
 (znd pc 1690
 (znd pc 1686
 (znd pc 1685
 (zlf pc 1684 (s_iadd 1685))
 (zlf pc 1685 (s_iald 1686)))
 (znd pc 1687
 (zlf pc 1686 (s_aload 0 1687))
 (znd pc 1689
 (zlf pc 1687 (s_iload 4 1689))
 (zlf pc 1689 (s_ic 2 1690)))))
 (znd pc 1692
 (znd pc 1691
 (zlf pc 1690 (s_iadd 1691))
 (zlf pc 1691 (s_iald 1692)))
 (znd pc 1693
 (zlf pc 1692 (s_aload 0 1693))
 (znd pc 1695
 (zlf pc 1693 (s_iload 4 1695))
 (zlf pc 1695 (s_ic 3 1696))))))
 (znd pc 1704
 (znd pc 1698
 (znd pc 1697
 (zlf pc 1696 (s_iadd 1697))
 (zlf pc 1697 (s_iald 1698)))
 (znd pc 1699
 (zlf pc 1698 (s_aload 3 1699))
 (znd pc 1702
 (zlf pc 1699 (s_cI zpS 187 5 [zU] (zxc 0 []) 1702))
 (zlf pc 1702 (s_istore 5 1704)))))
 (znd pc 1706
 (znd pc 1705
 (zlf pc 1704 (s_aload 2 1705))
 (zlf pc 1705 (s_aload 0 1706)))
 (znd pc 1708
 (zlf pc 1706 (s_iload 4 1708))
 (znd pc 1709
 (zlf pc 1708 (s_ic 1 1709))
 (zlf pc 1709 (s_iadd 1710)))))))))
 (znd pc 1772
 (znd pc 1741
 (znd pc 1722
 (znd pc 1716
 (znd pc 1712
 (znd pc 1711
 (zlf pc 1710 (s_iald 1711))
 (zlf pc 1711 (s_aload 0 1712)))
 (znd pc 1714
 (zlf pc 1712 (s_iload 4 1714))
 (znd pc 1715
 (zlf pc 1714 (s_ic 2 1715))
 (zlf pc 1715 (s_iadd 1716)))))
 (znd pc 1718
 (znd pc 1717
 (zlf pc 1716 (s_iald 1717))
 (zlf pc 1717 (s_aload 0 1718)))
 (znd pc 1720
 (zlf pc 1718 (s_iload 4 1720))
 (znd pc 1721
 (zlf pc 1720 (s_ic 3 1721))
 (zlf pc 1721 (s_iadd 1722))))))
 (znd pc 1732
 (znd pc 1726
 (znd pc 1723
 (zlf pc 1722 (s_iald 1723))
 (zlf pc 1723 (s_cI (zpV 13) 188 4 [zU, zU, zU] (zxc 0 []) 1726)))
 (znd pc 1728
 (zlf pc 1726 (s_istore 6 1728))
 (znd pc 1729
 (zlf pc 1728 (s_aload 2 1729))
 (zlf pc 1729 (s_cI (zpV 13) 35 1 [] (zxc 0 []) 1732)))))
 (znd pc 1737
 (znd pc 1734
 (zlf pc 1732 (s_iload 5 1734))
 (zlf pc 1734 (s_cmpeq 1739 1737)))
 (znd pc 1738
 (zlf pc 1737 (s_ic 0 1738))
 (znd pc 1739
 (zlf pc 1738 (s_rZ))
 (zlf pc 1739 (s_iload 5 1741)))))))
 (znd pc 1756
 (znd pc 1749
 (znd pc 1745
 (znd pc 1744
 (zlf pc 1741 (s_ifne 1756 1744))
 (zlf pc 1744 (s_aload 3 1745)))
 (znd pc 1746
 (zlf pc 1745 (s_ic 0 1746))
 (znd pc 1747
 (zlf pc 1746 (s_lald 1747))
 (zlf pc 1747 (s_iload 6 1749)))))
 (znd pc 1751
 (znd pc 1750
 (zlf pc 1749 (s_i2l 1750))
 (zlf pc 1750 (s_lcmp 1751)))
 (znd pc 1754
 (zlf pc 1751 (s_ifeq 1756 1754))
 (znd pc 1755
 (zlf pc 1754 (s_ic 0 1755))
 (zlf pc 1755 (s_rZ))))))
 (znd pc 1764
 (znd pc 1760
 (znd pc 1759
 (zlf pc 1756 (s_goto 2075))
 (zlf pc 1759 (s_aload 1 1760)))
 (znd pc 1761
 (zlf pc 1760 (s_aload 0 1761))
 (znd pc 1763
 (zlf pc 1761 (s_iload 4 1763))
 (zlf pc 1763 (s_ic 1 1764)))))
 (znd pc 1766
 (znd pc 1765
 (zlf pc 1764 (s_iadd 1765))
 (zlf pc 1765 (s_iald 1766)))
 (znd pc 1767
 (zlf pc 1766 (s_aload 3 1767))
 (znd pc 1770
 (zlf pc 1767 (s_cI zpS 190 3 [zU] (zxc 0 []) 1770))
 (zlf pc 1770 (s_istore 5 1772))))))))
 (znd pc 1805
 (znd pc 1788
 (znd pc 1778
 (znd pc 1774
 (znd pc 1773
 (zlf pc 1772 (s_aload 2 1773))
 (zlf pc 1773 (s_aload 0 1774)))
 (znd pc 1776
 (zlf pc 1774 (s_iload 4 1776))
 (znd pc 1777
 (zlf pc 1776 (s_ic 1 1777))
 (zlf pc 1777 (s_iadd 1778)))))
 (znd pc 1782
 (znd pc 1779
 (zlf pc 1778 (s_iald 1779))
 (zlf pc 1779 (s_cI (zpV 13) 191 2 [] (zxc 0 []) 1782)))
 (znd pc 1784
 (zlf pc 1782 (s_istore 6 1784))
 (znd pc 1785
 (zlf pc 1784 (s_aload 2 1785))
 (zlf pc 1785 (s_cI (zpV 13) 35 1 [] (zxc 0 []) 1788))))))
 (znd pc 1797
 (znd pc 1793
 (znd pc 1790
 (zlf pc 1788 (s_iload 5 1790))
 (zlf pc 1790 (s_cmpeq 1795 1793)))
 (znd pc 1794
 (zlf pc 1793 (s_ic 0 1794))
 (znd pc 1795
 (zlf pc 1794 (s_rZ))
 (zlf pc 1795 (s_iload 5 1797)))))
 (znd pc 1801
 (znd pc 1800
 (zlf pc 1797 (s_ifne 1812 1800))
 (zlf pc 1800 (s_aload 3 1801)))
 (znd pc 1802
 (zlf pc 1801 (s_ic 0 1802))
 (znd pc 1803
 (zlf pc 1802 (s_lald 1803))
 (zlf pc 1803 (s_iload 6 1805)))))))
 (znd pc 1820
 (znd pc 1812
 (znd pc 1807
 (znd pc 1806
 (zlf pc 1805 (s_i2l 1806))
 (zlf pc 1806 (s_lcmp 1807)))
 (znd pc 1810
 (zlf pc 1807 (s_ifeq 1812 1810))
 (znd pc 1811
 (zlf pc 1810 (s_ic 0 1811))
 (zlf pc 1811 (s_rZ)))))
 (znd pc 1816
 (znd pc 1815
 (zlf pc 1812 (s_goto 2075))
 (zlf pc 1815 (s_aload 1 1816)))
 (znd pc 1817
 (zlf pc 1816 (s_aload 0 1817))
 (znd pc 1819
 (zlf pc 1817 (s_iload 4 1819))
 (zlf pc 1819 (s_ic 1 1820))))))
 (znd pc 1828
 (znd pc 1822
 (znd pc 1821
 (zlf pc 1820 (s_iadd 1821))
 (zlf pc 1821 (s_iald 1822)))
 (znd pc 1823
 (zlf pc 1822 (s_aload 3 1823))
 (znd pc 1826
 (zlf pc 1823 (s_cI zpS 193 3 [zU] (zxc 0 []) 1826))
 (zlf pc 1826 (s_istore 5 1828)))))
 (znd pc 1830
 (znd pc 1829
 (zlf pc 1828 (s_aload 2 1829))
 (zlf pc 1829 (s_aload 0 1830)))
 (znd pc 1832
 (zlf pc 1830 (s_iload 4 1832))
 (znd pc 1833
 (zlf pc 1832 (s_ic 1 1833))
 (zlf pc 1833 (s_iadd 1834))))))))))
 (znd pc 1956
 (znd pc 1896
 (znd pc 1868
 (znd pc 1853
 (znd pc 1844
 (znd pc 1838
 (znd pc 1835
 (zlf pc 1834 (s_iald 1835))
 (zlf pc 1835 (s_cI (zpV 13) 194 2 [] (zxc 0 []) 1838)))
 (znd pc 1840
 (zlf pc 1838 (s_istore 6 1840))
 (znd pc 1841
 (zlf pc 1840 (s_aload 2 1841))
 (zlf pc 1841 (s_cI (zpV 13) 35 1 [] (zxc 0 []) 1844)))))
 (znd pc 1849
 (znd pc 1846
 (zlf pc 1844 (s_iload 5 1846))
 (zlf pc 1846 (s_cmpeq 1851 1849)))
 (znd pc 1850
 (zlf pc 1849 (s_ic 0 1850))
 (znd pc 1851
 (zlf pc 1850 (s_rZ))
 (zlf pc 1851 (s_iload 5 1853))))))
 (znd pc 1861
 (znd pc 1857
 (znd pc 1856
 (zlf pc 1853 (s_ifne 1868 1856))
 (zlf pc 1856 (s_aload 3 1857)))
 (znd pc 1858
 (zlf pc 1857 (s_ic 0 1858))
 (znd pc 1859
 (zlf pc 1858 (s_lald 1859))
 (zlf pc 1859 (s_iload 6 1861)))))
 (znd pc 1863
 (znd pc 1862
 (zlf pc 1861 (s_i2l 1862))
 (zlf pc 1862 (s_lcmp 1863)))
 (znd pc 1866
 (zlf pc 1863 (s_ifeq 1868 1866))
 (znd pc 1867
 (zlf pc 1866 (s_ic 0 1867))
 (zlf pc 1867 (s_rZ)))))))
 (znd pc 1882
 (znd pc 1876
 (znd pc 1872
 (znd pc 1871
 (zlf pc 1868 (s_goto 2075))
 (zlf pc 1871 (s_aload 1 1872)))
 (znd pc 1873
 (zlf pc 1872 (s_aload 0 1873))
 (znd pc 1875
 (zlf pc 1873 (s_iload 4 1875))
 (zlf pc 1875 (s_ic 1 1876)))))
 (znd pc 1878
 (znd pc 1877
 (zlf pc 1876 (s_iadd 1877))
 (zlf pc 1877 (s_iald 1878)))
 (znd pc 1879
 (zlf pc 1878 (s_aload 0 1879))
 (znd pc 1881
 (zlf pc 1879 (s_iload 4 1881))
 (zlf pc 1881 (s_ic 2 1882))))))
 (znd pc 1888
 (znd pc 1884
 (znd pc 1883
 (zlf pc 1882 (s_iadd 1883))
 (zlf pc 1883 (s_iald 1884)))
 (znd pc 1885
 (zlf pc 1884 (s_aload 0 1885))
 (znd pc 1887
 (zlf pc 1885 (s_iload 4 1887))
 (zlf pc 1887 (s_ic 3 1888)))))
 (znd pc 1890
 (znd pc 1889
 (zlf pc 1888 (s_iadd 1889))
 (zlf pc 1889 (s_iald 1890)))
 (znd pc 1891
 (zlf pc 1890 (s_aload 3 1891))
 (znd pc 1894
 (zlf pc 1891 (s_cI zpS 196 5 [zU] (zxc 0 []) 1894))
 (zlf pc 1894 (s_istore 5 1896))))))))
 (znd pc 1924
 (znd pc 1908
 (znd pc 1902
 (znd pc 1898
 (znd pc 1897
 (zlf pc 1896 (s_aload 2 1897))
 (zlf pc 1897 (s_aload 0 1898)))
 (znd pc 1900
 (zlf pc 1898 (s_iload 4 1900))
 (znd pc 1901
 (zlf pc 1900 (s_ic 1 1901))
 (zlf pc 1901 (s_iadd 1902)))))
 (znd pc 1904
 (znd pc 1903
 (zlf pc 1902 (s_iald 1903))
 (zlf pc 1903 (s_aload 0 1904)))
 (znd pc 1906
 (zlf pc 1904 (s_iload 4 1906))
 (znd pc 1907
 (zlf pc 1906 (s_ic 2 1907))
 (zlf pc 1907 (s_iadd 1908))))))
 (znd pc 1914
 (znd pc 1910
 (znd pc 1909
 (zlf pc 1908 (s_iald 1909))
 (zlf pc 1909 (s_aload 0 1910)))
 (znd pc 1912
 (zlf pc 1910 (s_iload 4 1912))
 (znd pc 1913
 (zlf pc 1912 (s_ic 3 1913))
 (zlf pc 1913 (s_iadd 1914)))))
 (znd pc 1918
 (znd pc 1915
 (zlf pc 1914 (s_iald 1915))
 (zlf pc 1915 (s_cI (zpV 13) 197 4 [zU] (zxc 0 []) 1918)))
 (znd pc 1920
 (zlf pc 1918 (s_istore 6 1920))
 (znd pc 1921
 (zlf pc 1920 (s_aload 2 1921))
 (zlf pc 1921 (s_cI (zpV 13) 35 1 [] (zxc 0 []) 1924)))))))
 (znd pc 1941
 (znd pc 1933
 (znd pc 1929
 (znd pc 1926
 (zlf pc 1924 (s_iload 5 1926))
 (zlf pc 1926 (s_cmpeq 1931 1929)))
 (znd pc 1930
 (zlf pc 1929 (s_ic 0 1930))
 (znd pc 1931
 (zlf pc 1930 (s_rZ))
 (zlf pc 1931 (s_iload 5 1933)))))
 (znd pc 1937
 (znd pc 1936
 (zlf pc 1933 (s_ifne 1948 1936))
 (zlf pc 1936 (s_aload 3 1937)))
 (znd pc 1938
 (zlf pc 1937 (s_ic 0 1938))
 (znd pc 1939
 (zlf pc 1938 (s_lald 1939))
 (zlf pc 1939 (s_iload 6 1941))))))
 (znd pc 1948
 (znd pc 1943
 (znd pc 1942
 (zlf pc 1941 (s_i2l 1942))
 (zlf pc 1942 (s_lcmp 1943)))
 (znd pc 1946
 (zlf pc 1943 (s_ifeq 1948 1946))
 (znd pc 1947
 (zlf pc 1946 (s_ic 0 1947))
 (zlf pc 1947 (s_rZ)))))
 (znd pc 1952
 (znd pc 1951
 (zlf pc 1948 (s_goto 2075))
 (zlf pc 1951 (s_aload 1 1952)))
 (znd pc 1953
 (zlf pc 1952 (s_aload 0 1953))
 (znd pc 1955
 (zlf pc 1953 (s_iload 4 1955))
 (zlf pc 1955 (s_ic 1 1956)))))))))
 (znd pc 2016
 (znd pc 1982
 (znd pc 1970
 (znd pc 1962
 (znd pc 1958
 (znd pc 1957
 (zlf pc 1956 (s_iadd 1957))
 (zlf pc 1957 (s_iald 1958)))
 (znd pc 1959
 (zlf pc 1958 (s_aload 0 1959))
 (znd pc 1961
 (zlf pc 1959 (s_iload 4 1961))
 (zlf pc 1961 (s_ic 2 1962)))))
 (znd pc 1964
 (znd pc 1963
 (zlf pc 1962 (s_iadd 1963))
 (zlf pc 1963 (s_iald 1964)))
 (znd pc 1965
 (zlf pc 1964 (s_aload 3 1965))
 (znd pc 1968
 (zlf pc 1965 (s_cI zpS 199 4 [zU] (zxc 0 []) 1968))
 (zlf pc 1968 (s_istore 5 1970))))))
 (znd pc 1976
 (znd pc 1972
 (znd pc 1971
 (zlf pc 1970 (s_aload 2 1971))
 (zlf pc 1971 (s_aload 0 1972)))
 (znd pc 1974
 (zlf pc 1972 (s_iload 4 1974))
 (znd pc 1975
 (zlf pc 1974 (s_ic 1 1975))
 (zlf pc 1975 (s_iadd 1976)))))
 (znd pc 1978
 (znd pc 1977
 (zlf pc 1976 (s_iald 1977))
 (zlf pc 1977 (s_aload 0 1978)))
 (znd pc 1980
 (zlf pc 1978 (s_iload 4 1980))
 (znd pc 1981
 (zlf pc 1980 (s_ic 2 1981))
 (zlf pc 1981 (s_iadd 1982)))))))
 (znd pc 2001
 (znd pc 1992
 (znd pc 1986
 (znd pc 1983
 (zlf pc 1982 (s_iald 1983))
 (zlf pc 1983 (s_cI (zpV 13) 200 3 [] (zxc 0 []) 1986)))
 (znd pc 1988
 (zlf pc 1986 (s_istore 6 1988))
 (znd pc 1989
 (zlf pc 1988 (s_aload 2 1989))
 (zlf pc 1989 (s_cI (zpV 13) 35 1 [] (zxc 0 []) 1992)))))
 (znd pc 1997
 (znd pc 1994
 (zlf pc 1992 (s_iload 5 1994))
 (zlf pc 1994 (s_cmpeq 1999 1997)))
 (znd pc 1998
 (zlf pc 1997 (s_ic 0 1998))
 (znd pc 1999
 (zlf pc 1998 (s_rZ))
 (zlf pc 1999 (s_iload 5 2001))))))
 (znd pc 2009
 (znd pc 2005
 (znd pc 2004
 (zlf pc 2001 (s_ifne 2016 2004))
 (zlf pc 2004 (s_aload 3 2005)))
 (znd pc 2006
 (zlf pc 2005 (s_ic 0 2006))
 (znd pc 2007
 (zlf pc 2006 (s_lald 2007))
 (zlf pc 2007 (s_iload 6 2009)))))
 (znd pc 2011
 (znd pc 2010
 (zlf pc 2009 (s_i2l 2010))
 (zlf pc 2010 (s_lcmp 2011)))
 (znd pc 2014
 (zlf pc 2011 (s_ifeq 2016 2014))
 (znd pc 2015
 (zlf pc 2014 (s_ic 0 2015))
 (zlf pc 2015 (s_rZ))))))))
 (znd pc 2048
 (znd pc 2032
 (znd pc 2024
 (znd pc 2020
 (znd pc 2019
 (zlf pc 2016 (s_goto 2075))
 (zlf pc 2019 (s_aload 1 2020)))
 (znd pc 2021
 (zlf pc 2020 (s_aload 0 2021))
 (znd pc 2023
 (zlf pc 2021 (s_iload 4 2023))
 (zlf pc 2023 (s_ic 1 2024)))))
 (znd pc 2026
 (znd pc 2025
 (zlf pc 2024 (s_iadd 2025))
 (zlf pc 2025 (s_iald 2026)))
 (znd pc 2027
 (zlf pc 2026 (s_aload 3 2027))
 (znd pc 2030
 (zlf pc 2027 (s_cI zpS 203 3 [zU] (zxc 0 []) 2030))
 (zlf pc 2030 (s_istore 5 2032))))))
 (znd pc 2038
 (znd pc 2034
 (znd pc 2033
 (zlf pc 2032 (s_aload 2 2033))
 (zlf pc 2033 (s_aload 0 2034)))
 (znd pc 2036
 (zlf pc 2034 (s_iload 4 2036))
 (znd pc 2037
 (zlf pc 2036 (s_ic 1 2037))
 (zlf pc 2037 (s_iadd 2038)))))
 (znd pc 2042
 (znd pc 2039
 (zlf pc 2038 (s_iald 2039))
 (zlf pc 2039 (s_cI (zpV 13) 204 2 [zU, zU, zU, zU] (zxc 0 []) 2042)))
 (znd pc 2044
 (zlf pc 2042 (s_istore 6 2044))
 (znd pc 2045
 (zlf pc 2044 (s_aload 2 2045))
 (zlf pc 2045 (s_cI (zpV 13) 35 1 [] (zxc 0 []) 2048)))))))
 (znd pc 2065
 (znd pc 2057
 (znd pc 2053
 (znd pc 2050
 (zlf pc 2048 (s_iload 5 2050))
 (zlf pc 2050 (s_cmpeq 2055 2053)))
 (znd pc 2054
 (zlf pc 2053 (s_ic 0 2054))
 (znd pc 2055
 (zlf pc 2054 (s_rZ))
 (zlf pc 2055 (s_iload 5 2057)))))
 (znd pc 2061
 (znd pc 2060
 (zlf pc 2057 (s_ifne 2072 2060))
 (zlf pc 2060 (s_aload 3 2061)))
 (znd pc 2062
 (zlf pc 2061 (s_ic 0 2062))
 (znd pc 2063
 (zlf pc 2062 (s_lald 2063))
 (zlf pc 2063 (s_iload 6 2065))))))
 (znd pc 2072
 (znd pc 2067
 (znd pc 2066
 (zlf pc 2065 (s_i2l 2066))
 (zlf pc 2066 (s_lcmp 2067)))
 (znd pc 2070
 (zlf pc 2067 (s_ifeq 2072 2070))
 (znd pc 2071
 (zlf pc 2070 (s_ic 0 2071))
 (zlf pc 2071 (s_rZ)))))
 (znd pc 2078
 (znd pc 2075
 (zlf pc 2072 (s_goto 2075))
 (zlf pc 2075 (s_iinc 4 6 2078)))
 (znd pc 2081
 (zlf pc 2078 (s_goto 23))
 (znd pc 2082
 (zlf pc 2081 (s_ic 1 2082))
 (zlf pc 2082 (s_rZ))))))))))))
theorem zm_L_law (G : Nat × Nat) (pc : Nat) : zMon (zc_L_law G pc) := (mo_d (mo_d (mo_d (mo_d (mo_d (mo_d (mo_d (mo_d (mo_d (mo_d (mo_l (mo_new _ _ _ _)) (mo_l (mo_dup _))) (mo_d (mo_l (mo_cV _ _ _ _ zPre_I (zHm_c _ _))) (mo_d (mo_l (mo_astore _ _)) (mo_l (mo_new _ _ _ _))))) (mo_d (mo_d (mo_l (mo_dup _)) (mo_l (mo_cV _ _ _ _ zPre_I (zHm_c _ _)))) (mo_d (mo_l (mo_astore _ _)) (mo_d (mo_l (mo_ic _ _)) (mo_l (mo_nal _)))))) (mo_d (mo_d (mo_d (mo_l (mo_astore _ _)) (mo_l (mo_ic _ _))) (mo_d (mo_l (mo_istore _ _)) (mo_d (mo_l (mo_iload _ _)) (mo_l (mo_aload _ _))))) (mo_d (mo_d (mo_l (mo_alen _)) (mo_l (mo_ic _ _))) (mo_d (mo_l (mo_isub _)) (mo_d (mo_l (mo_cmpgt _ _)) (mo_l (mo_aload _ _))))))) (mo_d (mo_d (mo_d (mo_d (mo_l (mo_iload _ _)) (mo_l (mo_iald _))) (mo_d (mo_l (mo_ic _ _)) (mo_d (mo_l (mo_iand _)) (mo_l (mo_sw _ _ _))))) (mo_d (mo_d (mo_l (mo_aload _ _)) (mo_l (mo_aload _ _))) (mo_d (mo_l (mo_iload _ _)) (mo_d (mo_l (mo_ic _ _)) (mo_l (mo_iadd _)))))) (mo_d (mo_d (mo_d (mo_l (mo_iald _)) (mo_l (mo_aload _ _))) (mo_d (mo_l (mo_iload _ _)) (mo_d (mo_l (mo_ic _ _)) (mo_l (mo_iadd _))))) (mo_d (mo_d (mo_l (mo_iald _)) (mo_l (mo_aload _ _))) (mo_d (mo_l (mo_iload _ _)) (mo_d (mo_l (mo_ic _ _)) (mo_l (mo_iadd _)))))))) (mo_d (mo_d (mo_d (mo_d (mo_d (mo_l (mo_iald _)) (mo_l (mo_aload _ _))) (mo_d (mo_l (mo_iload _ _)) (mo_d (mo_l (mo_ic _ _)) (mo_l (mo_iadd _))))) (mo_d (mo_d (mo_l (mo_iald _)) (mo_l (mo_aload _ _))) (mo_d (mo_l (mo_cI _ _ _ _ zPre_S (zHm_c _ _))) (mo_d (mo_l (mo_istore _ _)) (mo_l (mo_aload _ _)))))) (mo_d (mo_d (mo_d (mo_l (mo_aload _ _)) (mo_l (mo_iload _ _))) (mo_d (mo_l (mo_ic _ _)) (mo_d (mo_l (mo_iadd _)) (mo_l (mo_iald _))))) (mo_d (mo_d (mo_l (mo_aload _ _)) (mo_l (mo_iload _ _))) (mo_d (mo_l (mo_ic _ _)) (mo_d (mo_l (mo_iadd _)) (mo_l (mo_iald _))))))) (mo_d (mo_d (mo_d (mo_d (mo_l (mo_aload _ _)) (mo_l (mo_iload _ _))) (mo_d (mo_l (mo_ic _ _)) (mo_d (mo_l (mo_iadd _)) (mo_l (mo_iald _))))) (mo_d (mo_d (mo_l (mo_aload _ _)) (mo_l (mo_iload _ _))) (mo_d (mo_l (mo_ic _ _)) (mo_d (mo_l (mo_iadd _)) (mo_l (mo_iald _)))))) (mo_d (mo_d (mo_d (mo_l (mo_cI _ _ _ _ (zPre_V _) (zHm_c _ _))) (mo_l (mo_istore _ _))) (mo_d (mo_l (mo_aload _ _)) (mo_d (mo_l (mo_cI _ _ _ _ (zPre_V _) (zHm_c _ _))) (mo_l (mo_iload _ _))))) (mo_d (mo_d (mo_l (mo_cmpeq _ _)) (mo_l (mo_ic _ _))) (mo_d (mo_l (mo_rZ)) (mo_d (mo_l (mo_iload _ _)) (mo_l (mo_ifne _ _))))))))) (mo_d (mo_d (mo_d (mo_d (mo_d (mo_d (mo_l (mo_aload _ _)) (mo_l (mo_ic _ _))) (mo_d (mo_l (mo_lald _)) (mo_d (mo_l (mo_iload _ _)) (mo_l (mo_i2l _))))) (mo_d (mo_d (mo_l (mo_lcmp _)) (mo_l (mo_ifeq _ _))) (mo_d (mo_l (mo_ic _ _)) (mo_d (mo_l (mo_rZ)) (mo_l (mo_goto _)))))) (mo_d (mo_d (mo_d (mo_l (mo_aload _ _)) (mo_l (mo_aload _ _))) (mo_d (mo_l (mo_iload _ _)) (mo_d (mo_l (mo_ic _ _)) (mo_l (mo_iadd _))))) (mo_d (mo_d (mo_l (mo_iald _)) (mo_l (mo_aload _ _))) (mo_d (mo_l (mo_iload _ _)) (mo_d (mo_l (mo_ic _ _)) (mo_l (mo_iadd _))))))) (mo_d (mo_d (mo_d (mo_d (mo_l (mo_iald _)) (mo_l (mo_aload _ _))) (mo_d (mo_l (mo_iload _ _)) (mo_d (mo_l (mo_ic _ _)) (mo_l (mo_iadd _))))) (mo_d (mo_d (mo_l (mo_iald _)) (mo_l (mo_aload _ _))) (mo_d (mo_l (mo_cI _ _ _ _ zPre_S (zHm_c _ _))) (mo_d (mo_l (mo_istore _ _)) (mo_l (mo_aload _ _)))))) (mo_d (mo_d (mo_d (mo_l (mo_aload _ _)) (mo_l (mo_iload _ _))) (mo_d (mo_l (mo_ic _ _)) (mo_d (mo_l (mo_iadd _)) (mo_l (mo_iald _))))) (mo_d (mo_d (mo_l (mo_aload _ _)) (mo_l (mo_iload _ _))) (mo_d (mo_l (mo_ic _ _)) (mo_d (mo_l (mo_iadd _)) (mo_l (mo_iald _)))))))) (mo_d (mo_d (mo_d (mo_d (mo_d (mo_l (mo_aload _ _)) (mo_l (mo_iload _ _))) (mo_d (mo_l (mo_ic _ _)) (mo_d (mo_l (mo_iadd _)) (mo_l (mo_iald _))))) (mo_d (mo_d (mo_l (mo_cI _ _ _ _ (zPre_V _) (zHm_c _ _))) (mo_l (mo_istore _ _))) (mo_d (mo_l (mo_aload _ _)) (mo_d (mo_l (mo_cI _ _ _ _ (zPre_V _) (zHm_c _ _))) (mo_l (mo_iload _ _)))))) (mo_d (mo_d (mo_d (mo_l (mo_cmpeq _ _)) (mo_l (mo_ic _ _))) (mo_d (mo_l (mo_rZ)) (mo_d (mo_l (mo_iload _ _)) (mo_l (mo_ifne _ _))))) (mo_d (mo_d (mo_l (mo_aload _ _)) (mo_l (mo_ic _ _))) (mo_d (mo_l (mo_lald _)) (mo_d (mo_l (mo_iload _ _)) (mo_l (mo_i2l _))))))) (mo_d (mo_d (mo_d (mo_d (mo_l (mo_lcmp _)) (mo_l (mo_ifeq _ _))) (mo_d (mo_l (mo_ic _ _)) (mo_d (mo_l (mo_rZ)) (mo_l (mo_goto _))))) (mo_d (mo_d (mo_l (mo_aload _ _)) (mo_l (mo_aload _ _))) (mo_d (mo_l (mo_iload _ _)) (mo_d (mo_l (mo_ic _ _)) (mo_l (mo_iadd _)))))) (mo_d (mo_d (mo_d (mo_l (mo_iald _)) (mo_l (mo_aload _ _))) (mo_d (mo_l (mo_iload _ _)) (mo_d (mo_l (mo_ic _ _)) (mo_l (mo_iadd _))))) (mo_d (mo_d (mo_l (mo_iald _)) (mo_l (mo_aload _ _))) (mo_d (mo_l (mo_cI _ _ _ _ zPre_S (zHm_c _ _))) (mo_d (mo_l (mo_istore _ _)) (mo_l (mo_aload _ _)))))))))) (mo_d (mo_d (mo_d (mo_d (mo_d (mo_d (mo_d (mo_l (mo_aload _ _)) (mo_l (mo_iload _ _))) (mo_d (mo_l (mo_ic _ _)) (mo_d (mo_l (mo_iadd _)) (mo_l (mo_iald _))))) (mo_d (mo_d (mo_l (mo_aload _ _)) (mo_l (mo_iload _ _))) (mo_d (mo_l (mo_ic _ _)) (mo_d (mo_l (mo_iadd _)) (mo_l (mo_iald _)))))) (mo_d (mo_d (mo_d (mo_l (mo_cI _ _ _ _ (zPre_V _) (zHm_c _ _))) (mo_l (mo_istore _ _))) (mo_d (mo_l (mo_aload _ _)) (mo_d (mo_l (mo_cI _ _ _ _ (zPre_V _) (zHm_c _ _))) (mo_l (mo_iload _ _))))) (mo_d (mo_d (mo_l (mo_cmpeq _ _)) (mo_l (mo_ic _ _))) (mo_d (mo_l (mo_rZ)) (mo_d (mo_l (mo_iload _ _)) (mo_l (mo_ifne _ _))))))) (mo_d (mo_d (mo_d (mo_d (mo_l (mo_aload _ _)) (mo_l (mo_ic _ _))) (mo_d (mo_l (mo_lald _)) (mo_d (mo_l (mo_iload _ _)) (mo_l (mo_i2l _))))) (mo_d (mo_d (mo_l (mo_lcmp _)) (mo_l (mo_ifeq _ _))) (mo_d (mo_l (mo_ic _ _)) (mo_d (mo_l (mo_rZ)) (mo_l (mo_goto _)))))) (mo_d (mo_d (mo_d (mo_l (mo_aload _ _)) (mo_l (mo_aload _ _))) (mo_d (mo_l (mo_iload _ _)) (mo_d (mo_l (mo_ic _ _)) (mo_l (mo_iadd _))))) (mo_d (mo_d (mo_l (mo_iald _)) (mo_l (mo_aload _ _))) (mo_d (mo_l (mo_iload _ _)) (mo_d (mo_l (mo_ic _ _)) (mo_l (mo_iadd _)))))))) (mo_d (mo_d (mo_d (mo_d (mo_d (mo_l (mo_iald _)) (mo_l (mo_aload _ _))) (mo_d (mo_l (mo_iload _ _)) (mo_d (mo_l (mo_ic _ _)) (mo_l (mo_iadd _))))) (mo_d (mo_d (mo_l (mo_iald _)) (mo_l (mo_aload _ _))) (mo_d (mo_l (mo_iload _ _)) (mo_d (mo_l (mo_ic _ _)) (mo_l (mo_iadd _)))))) (mo_d (mo_d (mo_d (mo_l (mo_iald _)) (mo_l (mo_aload _ _))) (mo_d (mo_l (mo_iload _ _)) (mo_d (mo_l (mo_ic _ _)) (mo_l (mo_iadd _))))) (mo_d (mo_d (mo_l (mo_iald _)) (mo_l (mo_aload _ _))) (mo_d (mo_l (mo_cI _ _ _ _ zPre_S (zHm_c _ _))) (mo_d (mo_l (mo_istore _ _)) (mo_l (mo_aload _ _))))))) (mo_d (mo_d (mo_d (mo_d (mo_l (mo_aload _ _)) (mo_l (mo_iload _ _))) (mo_d (mo_l (mo_ic _ _)) (mo_d (mo_l (mo_iadd _)) (mo_l (mo_iald _))))) (mo_d (mo_d (mo_l (mo_aload _ _)) (mo_l (mo_iload _ _))) (mo_d (mo_l (mo_ic _ _)) (mo_d (mo_l (mo_iadd _)) (mo_l (mo_iald _)))))) (mo_d (mo_d (mo_d (mo_l (mo_aload _ _)) (mo_l (mo_iload _ _))) (mo_d (mo_l (mo_ic _ _)) (mo_d (mo_l (mo_iadd _)) (mo_l (mo_iald _))))) (mo_d (mo_d (mo_l (mo_aload _ _)) (mo_l (mo_iload _ _))) (mo_d (mo_l (mo_ic _ _)) (mo_d (mo_l (mo_iadd _)) (mo_l (mo_iald _))))))))) (mo_d (mo_d (mo_d (mo_d (mo_d (mo_d (mo_l (mo_aload _ _)) (mo_l (mo_iload _ _))) (mo_d (mo_l (mo_ic _ _)) (mo_d (mo_l (mo_iadd _)) (mo_l (mo_iald _))))) (mo_d (mo_d (mo_l (mo_cI _ _ _ _ (zPre_V _) (zHm_c _ _))) (mo_l (mo_istore _ _))) (mo_d (mo_l (mo_aload _ _)) (mo_d (mo_l (mo_cI _ _ _ _ (zPre_V _) (zHm_c _ _))) (mo_l (mo_iload _ _)))))) (mo_d (mo_d (mo_d (mo_l (mo_cmpeq _ _)) (mo_l (mo_ic _ _))) (mo_d (mo_l (mo_rZ)) (mo_d (mo_l (mo_iload _ _)) (mo_l (mo_ifne _ _))))) (mo_d (mo_d (mo_l (mo_aload _ _)) (mo_l (mo_ic _ _))) (mo_d (mo_l (mo_lald _)) (mo_d (mo_l (mo_iload _ _)) (mo_l (mo_i2l _))))))) (mo_d (mo_d (mo_d (mo_d (mo_l (mo_lcmp _)) (mo_l (mo_ifeq _ _))) (mo_d (mo_l (mo_ic _ _)) (mo_d (mo_l (mo_rZ)) (mo_l (mo_goto _))))) (mo_d (mo_d (mo_l (mo_aload _ _)) (mo_l (mo_aload _ _))) (mo_d (mo_l (mo_iload _ _)) (mo_d (mo_l (mo_ic _ _)) (mo_l (mo_iadd _)))))) (mo_d (mo_d (mo_d (mo_l (mo_iald _)) (mo_l (mo_aload _ _))) (mo_d (mo_l (mo_cI _ _ _ _ zPre_S (zHm_c _ _))) (mo_d (mo_l (mo_istore _ _)) (mo_l (mo_aload _ _))))) (mo_d (mo_d (mo_l (mo_aload _ _)) (mo_l (mo_iload _ _))) (mo_d (mo_l (mo_ic _ _)) (mo_d (mo_l (mo_iadd _)) (mo_l (mo_iald _)))))))) (mo_d (mo_d (mo_d (mo_d (mo_d (mo_l (mo_cI _ _ _ _ (zPre_V _) (zHm_c _ _))) (mo_l (mo_istore _ _))) (mo_d (mo_l (mo_aload _ _)) (mo_d (mo_l (mo_cI _ _ _ _ (zPre_V _) (zHm_c _ _))) (mo_l (mo_iload _ _))))) (mo_d (mo_d (mo_l (mo_cmpeq _ _)) (mo_l (mo_ic _ _))) (mo_d (mo_l (mo_rZ)) (mo_d (mo_l (mo_iload _ _)) (mo_l (mo_ifne _ _)))))) (mo_d (mo_d (mo_d (mo_l (mo_aload _ _)) (mo_l (mo_ic _ _))) (mo_d (mo_l (mo_lald _)) (mo_d (mo_l (mo_iload _ _)) (mo_l (mo_i2l _))))) (mo_d (mo_d (mo_l (mo_lcmp _)) (mo_l (mo_ifeq _ _))) (mo_d (mo_l (mo_ic _ _)) (mo_d (mo_l (mo_rZ)) (mo_l (mo_goto _))))))) (mo_d (mo_d (mo_d (mo_d (mo_l (mo_aload _ _)) (mo_l (mo_aload _ _))) (mo_d (mo_l (mo_iload _ _)) (mo_d (mo_l (mo_ic _ _)) (mo_l (mo_iadd _))))) (mo_d (mo_d (mo_l (mo_iald _)) (mo_l (mo_aload _ _))) (mo_d (mo_l (mo_iload _ _)) (mo_d (mo_l (mo_ic _ _)) (mo_l (mo_iadd _)))))) (mo_d (mo_d (mo_d (mo_l (mo_iald _)) (mo_l (mo_aload _ _))) (mo_d (mo_l (mo_cI _ _ _ _ zPre_S (zHm_c _ _))) (mo_d (mo_l (mo_istore _ _)) (mo_l (mo_aload _ _))))) (mo_d (mo_d (mo_l (mo_aload _ _)) (mo_l (mo_iload _ _))) (mo_d (mo_l (mo_ic _ _)) (mo_d (mo_l (mo_iadd _)) (mo_l (mo_iald _))))))))))) (mo_d (mo_d (mo_d (mo_d (mo_d (mo_d (mo_d (mo_d (mo_l (mo_aload _ _)) (mo_l (mo_iload _ _))) (mo_d (mo_l (mo_ic _ _)) (mo_d (mo_l (mo_iadd _)) (mo_l (mo_iald _))))) (mo_d (mo_d (mo_l (mo_cI _ _ _ _ (zPre_V _) (zHm_c _ _))) (mo_l (mo_istore _ _))) (mo_d (mo_l (mo_aload _ _)) (mo_d (mo_l (mo_cI _ _ _ _ (zPre_V _) (zHm_c _ _))) (mo_l (mo_iload _ _)))))) (mo_d (mo_d (mo_d (mo_l (mo_cmpeq _ _)) (mo_l (mo_ic _ _))) (mo_d (mo_l (mo_rZ)) (mo_d (mo_l (mo_iload _ _)) (mo_l (mo_ifne _ _))))) (mo_d (mo_d (mo_l (mo_aload _ _)) (mo_l (mo_ic _ _))) (mo_d (mo_l (mo_lald _)) (mo_d (mo_l (mo_iload _ _)) (mo_l (mo_i2l _))))))) (mo_d (mo_d (mo_d (mo_d (mo_l (mo_lcmp _)) (mo_l (mo_ifeq _ _))) (mo_d (mo_l (mo_ic _ _)) (mo_d (mo_l (mo_rZ)) (mo_l (mo_goto _))))) (mo_d (mo_d (mo_l (mo_aload _ _)) (mo_l (mo_aload _ _))) (mo_d (mo_l (mo_iload _ _)) (mo_d (mo_l (mo_ic _ _)) (mo_l (mo_iadd _)))))) (mo_d (mo_d (mo_d (mo_l (mo_iald _)) (mo_l (mo_aload _ _))) (mo_d (mo_l (mo_cI _ _ _ _ zPre_S (zHm_c _ _))) (mo_d (mo_l (mo_istore _ _)) (mo_l (mo_aload _ _))))) (mo_d (mo_d (mo_l (mo_aload _ _)) (mo_l (mo_iload _ _))) (mo_d (mo_l (mo_ic _ _)) (mo_d (mo_l (mo_iadd _)) (mo_l (mo_iald _)))))))) (mo_d (mo_d (mo_d (mo_d (mo_d (mo_l (mo_cI _ _ _ _ (zPre_V _) (zHm_c _ _))) (mo_l (mo_istore _ _))) (mo_d (mo_l (mo_aload _ _)) (mo_d (mo_l (mo_cI _ _ _ _ (zPre_V _) (zHm_c _ _))) (mo_l (mo_iload _ _))))) (mo_d (mo_d (mo_l (mo_cmpeq _ _)) (mo_l (mo_ic _ _))) (mo_d (mo_l (mo_rZ)) (mo_d (mo_l (mo_iload _ _)) (mo_l (mo_ifne _ _)))))) (mo_d (mo_d (mo_d (mo_l (mo_aload _ _)) (mo_l (mo_ic _ _))) (mo_d (mo_l (mo_lald _)) (mo_d (mo_l (mo_iload _ _)) (mo_l (mo_i2l _))))) (mo_d (mo_d (mo_l (mo_lcmp _)) (mo_l (mo_ifeq _ _))) (mo_d (mo_l (mo_ic _ _)) (mo_d (mo_l (mo_rZ)) (mo_l (mo_goto _))))))) (mo_d (mo_d (mo_d (mo_d (mo_l (mo_aload _ _)) (mo_l (mo_aload _ _))) (mo_d (mo_l (mo_iload _ _)) (mo_d (mo_l (mo_ic _ _)) (mo_l (mo_iadd _))))) (mo_d (mo_d (mo_l (mo_iald _)) (mo_l (mo_aload _ _))) (mo_d (mo_l (mo_iload _ _)) (mo_d (mo_l (mo_ic _ _)) (mo_l (mo_iadd _)))))) (mo_d (mo_d (mo_d (mo_l (mo_iald _)) (mo_l (mo_aload _ _))) (mo_d (mo_l (mo_cI _ _ _ _ zPre_S (zHm_c _ _))) (mo_d (mo_l (mo_istore _ _)) (mo_l (mo_aload _ _))))) (mo_d (mo_d (mo_l (mo_aload _ _)) (mo_l (mo_iload _ _))) (mo_d (mo_l (mo_ic _ _)) (mo_d (mo_l (mo_iadd _)) (mo_l (mo_iald _))))))))) (mo_d (mo_d (mo_d (mo_d (mo_d (mo_d (mo_l (mo_aload _ _)) (mo_l (mo_iload _ _))) (mo_d (mo_l (mo_ic _ _)) (mo_d (mo_l (mo_iadd _)) (mo_l (mo_iald _))))) (mo_d (mo_d (mo_l (mo_cI _ _ _ _ (zPre_V _) (zHm_c _ _))) (mo_l (mo_istore _ _))) (mo_d (mo_l (mo_aload _ _)) (mo_d (mo_l (mo_cI _ _ _ _ (zPre_V _) (zHm_c _ _))) (mo_l (mo_iload _ _)))))) (mo_d (mo_d (mo_d (mo_l (mo_cmpeq _ _)) (mo_l (mo_ic _ _))) (mo_d (mo_l (mo_rZ)) (mo_d (mo_l (mo_iload _ _)) (mo_l (mo_ifne _ _))))) (mo_d (mo_d (mo_l (mo_aload _ _)) (mo_l (mo_ic _ _))) (mo_d (mo_l (mo_lald _)) (mo_d (mo_l (mo_iload _ _)) (mo_l (mo_i2l _))))))) (mo_d (mo_d (mo_d (mo_d (mo_l (mo_lcmp _)) (mo_l (mo_ifeq _ _))) (mo_d (mo_l (mo_ic _ _)) (mo_d (mo_l (mo_rZ)) (mo_l (mo_goto _))))) (mo_d (mo_d (mo_l (mo_aload _ _)) (mo_l (mo_aload _ _))) (mo_d (mo_l (mo_iload _ _)) (mo_d (mo_l (mo_ic _ _)) (mo_l (mo_iadd _)))))) (mo_d (mo_d (mo_d (mo_l (mo_iald _)) (mo_l (mo_aload _ _))) (mo_d (mo_l (mo_cI _ _ _ _ zPre_S (zHm_c _ _))) (mo_d (mo_l (mo_istore _ _)) (mo_l (mo_aload _ _))))) (mo_d (mo_d (mo_l (mo_aload _ _)) (mo_l (mo_iload _ _))) (mo_d (mo_l (mo_ic _ _)) (mo_d (mo_l (mo_iadd _)) (mo_l (mo_iald _)))))))) (mo_d (mo_d (mo_d (mo_d (mo_d (mo_l (mo_cI _ _ _ _ (zPre_V _) (zHm_c _ _))) (mo_l (mo_istore _ _))) (mo_d (mo_l (mo_aload _ _)) (mo_d (mo_l (mo_cI _ _ _ _ (zPre_V _) (zHm_c _ _))) (mo_l (mo_iload _ _))))) (mo_d (mo_d (mo_l (mo_cmpeq _ _)) (mo_l (mo_ic _ _))) (mo_d (mo_l (mo_rZ)) (mo_d (mo_l (mo_iload _ _)) (mo_l (mo_ifne _ _)))))) (mo_d (mo_d (mo_d (mo_l (mo_aload _ _)) (mo_l (mo_ic _ _))) (mo_d (mo_l (mo_lald _)) (mo_d (mo_l (mo_iload _ _)) (mo_l (mo_i2l _))))) (mo_d (mo_d (mo_l (mo_lcmp _)) (mo_l (mo_ifeq _ _))) (mo_d (mo_l (mo_ic _ _)) (mo_d (mo_l (mo_rZ)) (mo_l (mo_goto _))))))) (mo_d (mo_d (mo_d (mo_d (mo_l (mo_aload _ _)) (mo_l (mo_aload _ _))) (mo_d (mo_l (mo_iload _ _)) (mo_d (mo_l (mo_ic _ _)) (mo_l (mo_iadd _))))) (mo_d (mo_d (mo_l (mo_iald _)) (mo_l (mo_aload _ _))) (mo_d (mo_l (mo_cI _ _ _ _ zPre_S (zHm_c _ _))) (mo_d (mo_l (mo_istore _ _)) (mo_l (mo_aload _ _)))))) (mo_d (mo_d (mo_d (mo_l (mo_aload _ _)) (mo_l (mo_iload _ _))) (mo_d (mo_l (mo_ic _ _)) (mo_d (mo_l (mo_iadd _)) (mo_l (mo_iald _))))) (mo_d (mo_d (mo_l (mo_cI _ _ _ _ (zPre_V _) (zHm_c _ _))) (mo_l (mo_istore _ _))) (mo_d (mo_l (mo_aload _ _)) (mo_d (mo_l (mo_cI _ _ _ _ (zPre_V _) (zHm_c _ _))) (mo_l (mo_iload _ _)))))))))) (mo_d (mo_d (mo_d (mo_d (mo_d (mo_d (mo_d (mo_l (mo_cmpeq _ _)) (mo_l (mo_ic _ _))) (mo_d (mo_l (mo_rZ)) (mo_d (mo_l (mo_iload _ _)) (mo_l (mo_ifne _ _))))) (mo_d (mo_d (mo_l (mo_aload _ _)) (mo_l (mo_ic _ _))) (mo_d (mo_l (mo_lald _)) (mo_d (mo_l (mo_iload _ _)) (mo_l (mo_i2l _)))))) (mo_d (mo_d (mo_d (mo_l (mo_lcmp _)) (mo_l (mo_ifeq _ _))) (mo_d (mo_l (mo_ic _ _)) (mo_d (mo_l (mo_rZ)) (mo_l (mo_goto _))))) (mo_d (mo_d (mo_l (mo_aload _ _)) (mo_l (mo_aload _ _))) (mo_d (mo_l (mo_iload _ _)) (mo_d (mo_l (mo_ic _ _)) (mo_l (mo_iadd _))))))) (mo_d (mo_d (mo_d (mo_d (mo_l (mo_iald _)) (mo_l (mo_aload _ _))) (mo_d (mo_l (mo_cI _ _ _ _ zPre_S (zHm_c _ _))) (mo_d (mo_l (mo_istore _ _)) (mo_l (mo_aload _ _))))) (mo_d (mo_d (mo_l (mo_aload _ _)) (mo_l (mo_iload _ _))) (mo_d (mo_l (mo_ic _ _)) (mo_d (mo_l (mo_iadd _)) (mo_l (mo_iald _)))))) (mo_d (mo_d (mo_d (mo_l (mo_cI _ _ _ _ (zPre_V _) (zHm_c _ _))) (mo_l (mo_istore _ _))) (mo_d (mo_l (mo_aload _ _)) (mo_d (mo_l (mo_cI _ _ _ _ (zPre_V _) (zHm_c _ _))) (mo_l (mo_iload _ _))))) (mo_d (mo_d (mo_l (mo_cmpeq _ _)) (mo_l (mo_ic _ _))) (mo_d (mo_l (mo_rZ)) (mo_d (mo_l (mo_iload _ _)) (mo_l (mo_ifne _ _)))))))) (mo_d (mo_d (mo_d (mo_d (mo_d (mo_l (mo_aload _ _)) (mo_l (mo_ic _ _))) (mo_d (mo_l (mo_lald _)) (mo_d (mo_l (mo_iload _ _)) (mo_l (mo_ifeq _ _))))) (mo_d (mo_d (mo_l (mo_lc _ _)) (mo_l (mo_goto _))) (mo_d (mo_l (mo_lc _ _)) (mo_d (mo_l (mo_lcmp _)) (mo_l (mo_ifeq _ _)))))) (mo_d (mo_d (mo_d (mo_l (mo_ic _ _)) (mo_l (mo_rZ))) (mo_d (mo_l (mo_goto _)) (mo_d (mo_l (mo_aload _ _)) (mo_l (mo_aload _ _))))) (mo_d (mo_d (mo_l (mo_iload _ _)) (mo_l (mo_ic _ _))) (mo_d (mo_l (mo_iadd _)) (mo_d (mo_l (mo_iald _)) (mo_l (mo_aload _ _))))))) (mo_d (mo_d (mo_d (mo_d (mo_l (mo_cI _ _ _ _ zPre_S (zHm_c _ _))) (mo_l (mo_istore _ _))) (mo_d (mo_l (mo_aload _ _)) (mo_d (mo_l (mo_aload _ _)) (mo_l (mo_iload _ _))))) (mo_d (mo_d (mo_l (mo_ic _ _)) (mo_l (mo_iadd _))) (mo_d (mo_l (mo_iald _)) (mo_d (mo_l (mo_cI _ _ _ _ (zPre_V _) (zHm_c _ _))) (mo_l (mo_istore _ _)))))) (mo_d (mo_d (mo_d (mo_l (mo_aload _ _)) (mo_l (mo_cI _ _ _ _ (zPre_V _) (zHm_c _ _)))) (mo_d (mo_l (mo_iload _ _)) (mo_d (mo_l (mo_cmpeq _ _)) (mo_l (mo_ic _ _))))) (mo_d (mo_d (mo_l (mo_rZ)) (mo_l (mo_iload _ _))) (mo_d (mo_l (mo_ifne _ _)) (mo_d (mo_l (mo_aload _ _)) (mo_l (mo_ic _ _))))))))) (mo_d (mo_d (mo_d (mo_d (mo_d (mo_d (mo_l (mo_lald _)) (mo_l (mo_iload _ _))) (mo_d (mo_l (mo_i2l _)) (mo_d (mo_l (mo_lcmp _)) (mo_l (mo_ifeq _ _))))) (mo_d (mo_d (mo_l (mo_ic _ _)) (mo_l (mo_rZ))) (mo_d (mo_l (mo_goto _)) (mo_d (mo_l (mo_aload _ _)) (mo_l (mo_aload _ _)))))) (mo_d (mo_d (mo_d (mo_l (mo_iload _ _)) (mo_l (mo_ic _ _))) (mo_d (mo_l (mo_iadd _)) (mo_d (mo_l (mo_iald _)) (mo_l (mo_aload _ _))))) (mo_d (mo_d (mo_l (mo_iload _ _)) (mo_l (mo_ic _ _))) (mo_d (mo_l (mo_iadd _)) (mo_d (mo_l (mo_iald _)) (mo_l (mo_aload _ _))))))) (mo_d (mo_d (mo_d (mo_d (mo_l (mo_iload _ _)) (mo_l (mo_ic _ _))) (mo_d (mo_l (mo_iadd _)) (mo_d (mo_l (mo_iald _)) (mo_l (mo_aload _ _))))) (mo_d (mo_d (mo_l (mo_cI _ _ _ _ zPre_S (zHm_c _ _))) (mo_l (mo_istore _ _))) (mo_d (mo_l (mo_aload _ _)) (mo_d (mo_l (mo_aload _ _)) (mo_l (mo_iload _ _)))))) (mo_d (mo_d (mo_d (mo_l (mo_ic _ _)) (mo_l (mo_iadd _))) (mo_d (mo_l (mo_iald _)) (mo_d (mo_l (mo_aload _ _)) (mo_l (mo_iload _ _))))) (mo_d (mo_d (mo_l (mo_ic _ _)) (mo_l (mo_iadd _))) (mo_d (mo_l (mo_iald _)) (mo_d (mo_l (mo_aload _ _)) (mo_l (mo_iload _ _)))))))) (mo_d (mo_d (mo_d (mo_d (mo_d (mo_l (mo_ic _ _)) (mo_l (mo_iadd _))) (mo_d (mo_l (mo_iald _)) (mo_d (mo_l (mo_cI _ _ _ _ (zPre_V _) (zHm_c _ _))) (mo_l (mo_istore _ _))))) (mo_d (mo_d (mo_l (mo_aload _ _)) (mo_l (mo_cI _ _ _ _ (zPre_V _) (zHm_c _ _)))) (mo_d (mo_l (mo_iload _ _)) (mo_d (mo_l (mo_cmpeq _ _)) (mo_l (mo_ic _ _)))))) (mo_d (mo_d (mo_d (mo_l (mo_rZ)) (mo_l (mo_iload _ _))) (mo_d (mo_l (mo_ifne _ _)) (mo_d (mo_l (mo_aload _ _)) (mo_l (mo_ic _ _))))) (mo_d (mo_d (mo_l (mo_lald _)) (mo_l (mo_iload _ _))) (mo_d (mo_l (mo_i2l _)) (mo_d (mo_l (mo_lcmp _)) (mo_l (mo_ifeq _ _))))))) (mo_d (mo_d (mo_d (mo_d (mo_l (mo_ic _ _)) (mo_l (mo_rZ))) (mo_d (mo_l (mo_goto _)) (mo_d (mo_l (mo_aload _ _)) (mo_l (mo_aload _ _))))) (mo_d (mo_d (mo_l (mo_iload _ _)) (mo_l (mo_ic _ _))) (mo_d (mo_l (mo_iadd _)) (mo_d (mo_l (mo_iald _)) (mo_l (mo_aload _ _)))))) (mo_d (mo_d (mo_d (mo_l (mo_iload _ _)) (mo_l (mo_ic _ _))) (mo_d (mo_l (mo_iadd _)) (mo_d (mo_l (mo_iald _)) (mo_l (mo_ifeq _ _))))) (mo_d (mo_d (mo_l (mo_ic _ _)) (mo_l (mo_goto _))) (mo_d (mo_l (mo_ic _ _)) (mo_d (mo_l (mo_aload _ _)) (mo_l (mo_cI _ _ _ _ zPre_S (zHm_c _ _))))))))))))) (mo_d (mo_d (mo_d (mo_d (mo_d (mo_d (mo_d (mo_d (mo_d (mo_l (mo_istore _ _)) (mo_l (mo_aload _ _))) (mo_d (mo_l (mo_aload _ _)) (mo_d (mo_l (mo_iload _ _)) (mo_l (mo_ic _ _))))) (mo_d (mo_d (mo_l (mo_iadd _)) (mo_l (mo_iald _))) (mo_d (mo_l (mo_aload _ _)) (mo_d (mo_l (mo_iload _ _)) (mo_l (mo_ic _ _)))))) (mo_d (mo_d (mo_d (mo_l (mo_iadd _)) (mo_l (mo_iald _))) (mo_d (mo_l (mo_ifeq _ _)) (mo_d (mo_l (mo_ic _ _)) (mo_l (mo_goto _))))) (mo_d (mo_d (mo_l (mo_ic _ _)) (mo_l (mo_cI _ _ _ _ (zPre_V _) (zHm_c _ _)))) (mo_d (mo_l (mo_istore _ _)) (mo_d (mo_l (mo_aload _ _)) (mo_l (mo_cI _ _ _ _ (zPre_V _) (zHm_c _ _)))))))) (mo_d (mo_d (mo_d (mo_d (mo_l (mo_iload _ _)) (mo_l (mo_cmpeq _ _))) (mo_d (mo_l (mo_ic _ _)) (mo_d (mo_l (mo_rZ)) (mo_l (mo_iload _ _))))) (mo_d (mo_d (mo_l (mo_ifne _ _)) (mo_l (mo_aload _ _))) (mo_d (mo_l (mo_ic _ _)) (mo_d (mo_l (mo_lald _)) (mo_l (mo_iload _ _)))))) (mo_d (mo_d (mo_d (mo_l (mo_i2l _)) (mo_l (mo_lcmp _))) (mo_d (mo_l (mo_ifeq _ _)) (mo_d (mo_l (mo_ic _ _)) (mo_l (mo_rZ))))) (mo_d (mo_d (mo_l (mo_goto _)) (mo_l (mo_aload _ _))) (mo_d (mo_l (mo_aload _ _)) (mo_d (mo_l (mo_iload _ _)) (mo_l (mo_ic _ _)))))))) (mo_d (mo_d (mo_d (mo_d (mo_d (mo_l (mo_iadd _)) (mo_l (mo_iald _))) (mo_d (mo_l (mo_aload _ _)) (mo_d (mo_l (mo_iload _ _)) (mo_l (mo_ic _ _))))) (mo_d (mo_d (mo_l (mo_iadd _)) (mo_l (mo_iald _))) (mo_d (mo_l (mo_aload _ _)) (mo_d (mo_l (mo_cI _ _ _ _ zPre_S (zHm_c _ _))) (mo_l (mo_istore _ _)))))) (mo_d (mo_d (mo_d (mo_l (mo_aload _ _)) (mo_l (mo_aload _ _))) (mo_d (mo_l (mo_iload _ _)) (mo_d (mo_l (mo_ic _ _)) (mo_l (mo_iadd _))))) (mo_d (mo_d (mo_l (mo_iald _)) (mo_l (mo_aload _ _))) (mo_d (mo_l (mo_iload _ _)) (mo_d (mo_l (mo_ic _ _)) (mo_l (mo_iadd _))))))) (mo_d (mo_d (mo_d (mo_d (mo_l (mo_iald _)) (mo_l (mo_cI _ _ _ _ (zPre_V _) (zHm_c _ _)))) (mo_d (mo_l (mo_istore _ _)) (mo_d (mo_l (mo_aload _ _)) (mo_l (mo_cI _ _ _ _ (zPre_V _) (zHm_c _ _)))))) (mo_d (mo_d (mo_l (mo_iload _ _)) (mo_l (mo_cmpeq _ _))) (mo_d (mo_l (mo_ic _ _)) (mo_d (mo_l (mo_rZ)) (mo_l (mo_iload _ _)))))) (mo_d (mo_d (mo_d (mo_l (mo_ifne _ _)) (mo_l (mo_aload _ _))) (mo_d (mo_l (mo_ic _ _)) (mo_d (mo_l (mo_lald _)) (mo_l (mo_iload _ _))))) (mo_d (mo_d (mo_l (mo_i2l _)) (mo_l (mo_lcmp _))) (mo_d (mo_l (mo_ifeq _ _)) (mo_d (mo_l (mo_ic _ _)) (mo_l (mo_rZ))))))))) (mo_d (mo_d (mo_d (mo_d (mo_d (mo_d (mo_l (mo_goto _)) (mo_l (mo_aload _ _))) (mo_d (mo_l (mo_aload _ _)) (mo_d (mo_l (mo_cI _ _ _ _ zPre_S (zHm_c _ _))) (mo_l (mo_istore _ _))))) (mo_d (mo_d (mo_l (mo_aload _ _)) (mo_l (mo_cI _ _ _ _ (zPre_V _) (zHm_c _ _)))) (mo_d (mo_l (mo_istore _ _)) (mo_d (mo_l (mo_aload _ _)) (mo_l (mo_cI _ _ _ _ (zPre_V _) (zHm_c _ _))))))) (mo_d (mo_d (mo_d (mo_l (mo_iload _ _)) (mo_l (mo_cmpeq _ _))) (mo_d (mo_l (mo_ic _ _)) (mo_d (mo_l (mo_rZ)) (mo_l (mo_iload _ _))))) (mo_d (mo_d (mo_l (mo_ifne _ _)) (mo_l (mo_aload _ _))) (mo_d (mo_l (mo_ic _ _)) (mo_d (mo_l (mo_lald _)) (mo_l (mo_iload _ _))))))) (mo_d (mo_d (mo_d (mo_d (mo_l (mo_i2l _)) (mo_l (mo_lcmp _))) (mo_d (mo_l (mo_ifeq _ _)) (mo_d (mo_l (mo_ic _ _)) (mo_l (mo_rZ))))) (mo_d (mo_d (mo_l (mo_goto _)) (mo_l (mo_aload _ _))) (mo_d (mo_l (mo_aload _ _)) (mo_d (mo_l (mo_iload _ _)) (mo_l (mo_ic _ _)))))) (mo_d (mo_d (mo_d (mo_l (mo_iadd _)) (mo_l (mo_iald _))) (mo_d (mo_l (mo_aload _ _)) (mo_d (mo_l (mo_iload _ _)) (mo_l (mo_ic _ _))))) (mo_d (mo_d (mo_l (mo_iadd _)) (mo_l (mo_iald _))) (mo_d (mo_l (mo_aload _ _)) (mo_d (mo_l (mo_iload _ _)) (mo_l (mo_ic _ _)))))))) (mo_d (mo_d (mo_d (mo_d (mo_d (mo_l (mo_iadd _)) (mo_l (mo_iald _))) (mo_d (mo_l (mo_aload _ _)) (mo_d (mo_l (mo_cI _ _ _ _ zPre_S (zHm_c _ _))) (mo_l (mo_istore _ _))))) (mo_d (mo_d (mo_l (mo_aload _ _)) (mo_l (mo_aload _ _))) (mo_d (mo_l (mo_iload _ _)) (mo_d (mo_l (mo_ic _ _)) (mo_l (mo_iadd _)))))) (mo_d (mo_d (mo_d (mo_l (mo_iald _)) (mo_l (mo_aload _ _))) (mo_d (mo_l (mo_iload _ _)) (mo_d (mo_l (mo_ic _ _)) (mo_l (mo_iadd _))))) (mo_d (mo_d (mo_l (mo_iald _)) (mo_l (mo_aload _ _))) (mo_d (mo_l (mo_iload _ _)) (mo_d (mo_l (mo_ic _ _)) (mo_l (mo_iadd _))))))) (mo_d (mo_d (mo_d (mo_d (mo_l (mo_iald _)) (mo_l (mo_cI _ _ _ _ (zPre_V _) (zHm_c _ _)))) (mo_d (mo_l (mo_istore _ _)) (mo_d (mo_l (mo_aload _ _)) (mo_l (mo_cI _ _ _ _ (zPre_V _) (zHm_c _ _)))))) (mo_d (mo_d (mo_l (mo_iload _ _)) (mo_l (mo_cmpeq _ _))) (mo_d (mo_l (mo_ic _ _)) (mo_d (mo_l (mo_rZ)) (mo_l (mo_iload _ _)))))) (mo_d (mo_d (mo_d (mo_l (mo_ifne _ _)) (mo_l (mo_aload _ _))) (mo_d (mo_l (mo_ic _ _)) (mo_d (mo_l (mo_lald _)) (mo_l (mo_iload _ _))))) (mo_d (mo_d (mo_l (mo_i2l _)) (mo_l (mo_lcmp _))) (mo_d (mo_l (mo_ifeq _ _)) (mo_d (mo_l (mo_ic _ _)) (mo_l (mo_rZ)))))))))) (mo_d (mo_d (mo_d (mo_d (mo_d (mo_d (mo_d (mo_l (mo_goto _)) (mo_l (mo_aload _ _))) (mo_d (mo_l (mo_aload _ _)) (mo_d (mo_l (mo_iload _ _)) (mo_l (mo_ic _ _))))) (mo_d (mo_d (mo_l (mo_iadd _)) (mo_l (mo_iald _))) (mo_d (mo_l (mo_ifeq _ _)) (mo_d (mo_l (mo_ic _ _)) (mo_l (mo_goto _)))))) (mo_d (mo_d (mo_d (mo_l (mo_ic _ _)) (mo_l (mo_aload _ _))) (mo_d (mo_l (mo_iload _ _)) (mo_d (mo_l (mo_ic _ _)) (mo_l (mo_iadd _))))) (mo_d (mo_d (mo_l (mo_iald _)) (mo_l (mo_aload _ _))) (mo_d (mo_l (mo_iload _ _)) (mo_d (mo_l (mo_ic _ _)) (mo_l (mo_iadd _))))))) (mo_d (mo_d (mo_d (mo_d (mo_l (mo_iald _)) (mo_l (mo_aload _ _))) (mo_d (mo_l (mo_iload _ _)) (mo_d (mo_l (mo_ic _ _)) (mo_l (mo_iadd _))))) (mo_d (mo_d (mo_l (mo_iald _)) (mo_l (mo_cI _ _ _ _ zPre_S (zHm_c _ _)))) (mo_d (mo_l (mo_istore _ _)) (mo_d (mo_l (mo_aload _ _)) (mo_l (mo_aload _ _)))))) (mo_d (mo_d (mo_d (mo_l (mo_iload _ _)) (mo_l (mo_ic _ _))) (mo_d (mo_l (mo_iadd _)) (mo_d (mo_l (mo_iald _)) (mo_l (mo_ifeq _ _))))) (mo_d (mo_d (mo_l (mo_ic _ _)) (mo_l (mo_goto _))) (mo_d (mo_l (mo_ic _ _)) (mo_d (mo_l (mo_aload _ _)) (mo_l (mo_iload _ _)))))))) (mo_d (mo_d (mo_d (mo_d (mo_d (mo_l (mo_ic _ _)) (mo_l (mo_iadd _))) (mo_d (mo_l (mo_iald _)) (mo_d (mo_l (mo_aload _ _)) (mo_l (mo_iload _ _))))) (mo_d (mo_d (mo_l (mo_ic _ _)) (mo_l (mo_iadd _))) (mo_d (mo_l (mo_iald _)) (mo_d (mo_l (mo_aload _ _)) (mo_l (mo_iload _ _)))))) (mo_d (mo_d (mo_d (mo_l (mo_ic _ _)) (mo_l (mo_iadd _))) (mo_d (mo_l (mo_iald _)) (mo_d (mo_l (mo_cV _ _ _ _ (zPre_V _) (zHm_c _ _))) (mo_l (mo_aload _ _))))) (mo_d (mo_d (mo_l (mo_cI _ _ _ _ (zPre_V _) (zHm_c _ _))) (mo_l (mo_iload _ _))) (mo_d (mo_l (mo_cmpeq _ _)) (mo_d (mo_l (mo_ic _ _)) (mo_l (mo_rZ))))))) (mo_d (mo_d (mo_d (mo_d (mo_l (mo_goto _)) (mo_l (mo_aload _ _))) (mo_d (mo_l (mo_aload _ _)) (mo_d (mo_l (mo_iload _ _)) (mo_l (mo_ic _ _))))) (mo_d (mo_d (mo_l (mo_iadd _)) (mo_l (mo_iald _))) (mo_d (mo_l (mo_aload _ _)) (mo_d (mo_l (mo_cI _ _ _ _ zPre_S (zHm_c _ _))) (mo_l (mo_istore _ _)))))) (mo_d (mo_d (mo_d (mo_l (mo_aload _ _)) (mo_l (mo_aload _ _))) (mo_d (mo_l (mo_iload _ _)) (mo_d (mo_l (mo_ic _ _)) (mo_l (mo_iadd _))))) (mo_d (mo_d (mo_l (mo_iald _)) (mo_l (mo_cI _ _ _ _ (zPre_V _) (zHm_c _ _)))) (mo_d (mo_l (mo_istore _ _)) (mo_d (mo_l (mo_aload _ _)) (mo_l (mo_cI _ _ _ _ (zPre_V _) (zHm_c _ _)))))))))) (mo_d (mo_d (mo_d (mo_d (mo_d (mo_d (mo_l (mo_iload _ _)) (mo_l (mo_cmpeq _ _))) (mo_d (mo_l (mo_ic _ _)) (mo_d (mo_l (mo_rZ)) (mo_l (mo_iload _ _))))) (mo_d (mo_d (mo_l (mo_ifne _ _)) (mo_l (mo_aload _ _))) (mo_d (mo_l (mo_ic _ _)) (mo_d (mo_l (mo_lald _)) (mo_l (mo_iload _ _)))))) (mo_d (mo_d (mo_d (mo_l (mo_i2l _)) (mo_l (mo_lcmp _))) (mo_d (mo_l (mo_ifeq _ _)) (mo_d (mo_l (mo_ic _ _)) (mo_l (mo_rZ))))) (mo_d (mo_d (mo_l (mo_goto _)) (mo_l (mo_aload _ _))) (mo_d (mo_l (mo_aload _ _)) (mo_d (mo_l (mo_iload _ _)) (mo_l (mo_ic _ _))))))) (mo_d (mo_d (mo_d (mo_d (mo_l (mo_iadd _)) (mo_l (mo_iald _))) (mo_d (mo_l (mo_aload _ _)) (mo_d (mo_l (mo_iload _ _)) (mo_l (mo_ic _ _))))) (mo_d (mo_d (mo_l (mo_iadd _)) (mo_l (mo_iald _))) (mo_d (mo_l (mo_cI _ _ _ _ zPre_S (zHm_c _ _))) (mo_d (mo_l (mo_istore _ _)) (mo_l (mo_aload _ _)))))) (mo_d (mo_d (mo_d (mo_l (mo_aload _ _)) (mo_l (mo_iload _ _))) (mo_d (mo_l (mo_ic _ _)) (mo_d (mo_l (mo_iadd _)) (mo_l (mo_iald _))))) (mo_d (mo_d (mo_l (mo_aload _ _)) (mo_l (mo_iload _ _))) (mo_d (mo_l (mo_ic _ _)) (mo_d (mo_l (mo_iadd _)) (mo_l (mo_iald _)))))))) (mo_d (mo_d (mo_d (mo_d (mo_d (mo_l (mo_cV _ _ _ _ (zPre_V _) (zHm_c _ _))) (mo_l (mo_aload _ _))) (mo_d (mo_l (mo_cI _ _ _ _ (zPre_V _) (zHm_c _ _))) (mo_d (mo_l (mo_iload _ _)) (mo_l (mo_cmpeq _ _))))) (mo_d (mo_d (mo_l (mo_ic _ _)) (mo_l (mo_rZ))) (mo_d (mo_l (mo_goto _)) (mo_d (mo_l (mo_aload _ _)) (mo_l (mo_aload _ _)))))) (mo_d (mo_d (mo_d (mo_l (mo_iload _ _)) (mo_l (mo_ic _ _))) (mo_d (mo_l (mo_iadd _)) (mo_d (mo_l (mo_iald _)) (mo_l (mo_aload _ _))))) (mo_d (mo_d (mo_l (mo_iload _ _)) (mo_l (mo_ic _ _))) (mo_d (mo_l (mo_iadd _)) (mo_d (mo_l (mo_iald _)) (mo_l (mo_ifeq _ _))))))) (mo_d (mo_d (mo_d (mo_d (mo_l (mo_ic _ _)) (mo_l (mo_goto _))) (mo_d (mo_l (mo_ic _ _)) (mo_d (mo_l (mo_aload _ _)) (mo_l (mo_cI _ _ _ _ zPre_S (zHm_c _ _)))))) (mo_d (mo_d (mo_l (mo_istore _ _)) (mo_l (mo_aload _ _))) (mo_d (mo_l (mo_aload _ _)) (mo_d (mo_l (mo_iload _ _)) (mo_l (mo_ic _ _)))))) (mo_d (mo_d (mo_d (mo_l (mo_iadd _)) (mo_l (mo_iald _))) (mo_d (mo_l (mo_aload _ _)) (mo_d (mo_l (mo_iload _ _)) (mo_l (mo_ic _ _))))) (mo_d (mo_d (mo_l (mo_iadd _)) (mo_l (mo_iald _))) (mo_d (mo_l (mo_ifeq _ _)) (mo_d (mo_l (mo_ic _ _)) (mo_l (mo_goto _))))))))))) (mo_d (mo_d (mo_d (mo_d (mo_d (mo_d (mo_d (mo_d (mo_l (mo_ic _ _)) (mo_l (mo_cI _ _ _ _ (zPre_V _) (zHm_c _ _)))) (mo_d (mo_l (mo_istore _ _)) (mo_d (mo_l (mo_aload _ _)) (mo_l (mo_cI _ _ _ _ (zPre_V _) (zHm_c _ _)))))) (mo_d (mo_d (mo_l (mo_iload _ _)) (mo_l (mo_cmpeq _ _))) (mo_d (mo_l (mo_ic _ _)) (mo_d (mo_l (mo_rZ)) (mo_l (mo_iload _ _)))))) (mo_d (mo_d (mo_d (mo_l (mo_ifne _ _)) (mo_l (mo_aload _ _))) (mo_d (mo_l (mo_ic _ _)) (mo_d (mo_l (mo_lald _)) (mo_l (mo_iload _ _))))) (mo_d (mo_d (mo_l (mo_i2l _)) (mo_l (mo_lcmp _))) (mo_d (mo_l (mo_ifeq _ _)) (mo_d (mo_l (mo_ic _ _)) (mo_l (mo_rZ))))))) (mo_d (mo_d (mo_d (mo_d (mo_l (mo_goto _)) (mo_l (mo_aload _ _))) (mo_d (mo_l (mo_aload _ _)) (mo_d (mo_l (mo_iload _ _)) (mo_l (mo_ic _ _))))) (mo_d (mo_d (mo_l (mo_iadd _)) (mo_l (mo_iald _))) (mo_d (mo_l (mo_aload _ _)) (mo_d (mo_l (mo_cI _ _ _ _ zPre_S (zHm_c _ _))) (mo_l (mo_istore _ _)))))) (mo_d (mo_d (mo_d (mo_l (mo_aload _ _)) (mo_l (mo_aload _ _))) (mo_d (mo_l (mo_iload _ _)) (mo_d (mo_l (mo_ic _ _)) (mo_l (mo_iadd _))))) (mo_d (mo_d (mo_l (mo_iald _)) (mo_l (mo_cI _ _ _ _ (zPre_V _) (zHm_c _ _)))) (mo_d (mo_l (mo_istore _ _)) (mo_d (mo_l (mo_aload _ _)) (mo_l (mo_cI _ _ _ _ (zPre_V _) (zHm_c _ _))))))))) (mo_d (mo_d (mo_d (mo_d (mo_d (mo_l (mo_iload _ _)) (mo_l (mo_cmpeq _ _))) (mo_d (mo_l (mo_ic _ _)) (mo_d (mo_l (mo_rZ)) (mo_l (mo_iload _ _))))) (mo_d (mo_d (mo_l (mo_ifne _ _)) (mo_l (mo_aload _ _))) (mo_d (mo_l (mo_ic _ _)) (mo_d (mo_l (mo_lald _)) (mo_l (mo_iload _ _)))))) (mo_d (mo_d (mo_d (mo_l (mo_i2l _)) (mo_l (mo_lcmp _))) (mo_d (mo_l (mo_ifeq _ _)) (mo_d (mo_l (mo_ic _ _)) (mo_l (mo_rZ))))) (mo_d (mo_d (mo_l (mo_goto _)) (mo_l (mo_aload _ _))) (mo_d (mo_l (mo_aload _ _)) (mo_d (mo_l (mo_iload _ _)) (mo_l (mo_ic _ _))))))) (mo_d (mo_d (mo_d (mo_d (mo_l (mo_iadd _)) (mo_l (mo_iald _))) (mo_d (mo_l (mo_aload _ _)) (mo_d (mo_l (mo_iload _ _)) (mo_l (mo_ic _ _))))) (mo_d (mo_d (mo_l (mo_iadd _)) (mo_l (mo_iald _))) (mo_d (mo_l (mo_aload _ _)) (mo_d (mo_l (mo_iload _ _)) (mo_l (mo_ic _ _)))))) (mo_d (mo_d (mo_d (mo_l (mo_iadd _)) (mo_l (mo_iald _))) (mo_d (mo_l (mo_aload _ _)) (mo_d (mo_l (mo_cI _ _ _ _ zPre_S (zHm_c _ _))) (mo_l (mo_istore _ _))))) (mo_d (mo_d (mo_l (mo_aload _ _)) (mo_l (mo_aload _ _))) (mo_d (mo_l (mo_iload _ _)) (mo_d (mo_l (mo_ic _ _)) (mo_l (mo_iadd _))))))))) (mo_d (mo_d (mo_d (mo_d (mo_d (mo_d (mo_l (mo_iald _)) (mo_l (mo_aload _ _))) (mo_d (mo_l (mo_iload _ _)) (mo_d (mo_l (mo_ic _ _)) (mo_l (mo_iadd _))))) (mo_d (mo_d (mo_l (mo_iald _)) (mo_l (mo_aload _ _))) (mo_d (mo_l (mo_iload _ _)) (mo_d (mo_l (mo_ic _ _)) (mo_l (mo_iadd _)))))) (mo_d (mo_d (mo_d (mo_l (mo_iald _)) (mo_l (mo_cI _ _ _ _ (zPre_V _) (zHm_c _ _)))) (mo_d (mo_l (mo_istore _ _)) (mo_d (mo_l (mo_aload _ _)) (mo_l (mo_cI _ _ _ _ (zPre_V _) (zHm_c _ _)))))) (mo_d (mo_d (mo_l (mo_iload _ _)) (mo_l (mo_cmpeq _ _))) (mo_d (mo_l (mo_ic _ _)) (mo_d (mo_l (mo_rZ)) (mo_l (mo_iload _ _))))))) (mo_d (mo_d (mo_d (mo_d (mo_l (mo_ifne _ _)) (mo_l (mo_aload _ _))) (mo_d (mo_l (mo_ic _ _)) (mo_d (mo_l (mo_lald _)) (mo_l (mo_iload _ _))))) (mo_d (mo_d (mo_l (mo_i2l _)) (mo_l (mo_lcmp _))) (mo_d (mo_l (mo_ifeq _ _)) (mo_d (mo_l (mo_ic _ _)) (mo_l (mo_rZ)))))) (mo_d (mo_d (mo_d (mo_l (mo_goto _)) (mo_l (mo_aload _ _))) (mo_d (mo_l (mo_aload _ _)) (mo_d (mo_l (mo_iload _ _)) (mo_l (mo_ic _ _))))) (mo_d (mo_d (mo_l (mo_iadd _)) (mo_l (mo_iald _))) (mo_d (mo_l (mo_aload _ _)) (mo_d (mo_l (mo_cI _ _ _ _ zPre_S (zHm_c _ _))) (mo_l (mo_istore _ _)))))))) (mo_d (mo_d (mo_d (mo_d (mo_d (mo_l (mo_aload _ _)) (mo_l (mo_aload _ _))) (mo_d (mo_l (mo_iload _ _)) (mo_d (mo_l (mo_ic _ _)) (mo_l (mo_iadd _))))) (mo_d (mo_d (mo_l (mo_iald _)) (mo_l (mo_cI _ _ _ _ (zPre_V _) (zHm_c _ _)))) (mo_d (mo_l (mo_istore _ _)) (mo_d (mo_l (mo_aload _ _)) (mo_l (mo_cI _ _ _ _ (zPre_V _) (zHm_c _ _))))))) (mo_d (mo_d (mo_d (mo_l (mo_iload _ _)) (mo_l (mo_cmpeq _ _))) (mo_d (mo_l (mo_ic _ _)) (mo_d (mo_l (mo_rZ)) (mo_l (mo_iload _ _))))) (mo_d (mo_d (mo_l (mo_ifne _ _)) (mo_l (mo_aload _ _))) (mo_d (mo_l (mo_ic _ _)) (mo_d (mo_l (mo_lald _)) (mo_l (mo_iload _ _))))))) (mo_d (mo_d (mo_d (mo_d (mo_l (mo_i2l _)) (mo_l (mo_lcmp _))) (mo_d (mo_l (mo_ifeq _ _)) (mo_d (mo_l (mo_ic _ _)) (mo_l (mo_rZ))))) (mo_d (mo_d (mo_l (mo_goto _)) (mo_l (mo_aload _ _))) (mo_d (mo_l (mo_aload _ _)) (mo_d (mo_l (mo_iload _ _)) (mo_l (mo_ic _ _)))))) (mo_d (mo_d (mo_d (mo_l (mo_iadd _)) (mo_l (mo_iald _))) (mo_d (mo_l (mo_aload _ _)) (mo_d (mo_l (mo_cI _ _ _ _ zPre_S (zHm_c _ _))) (mo_l (mo_istore _ _))))) (mo_d (mo_d (mo_l (mo_aload _ _)) (mo_l (mo_aload _ _))) (mo_d (mo_l (mo_iload _ _)) (mo_d (mo_l (mo_ic _ _)) (mo_l (mo_iadd _)))))))))) (mo_d (mo_d (mo_d (mo_d (mo_d (mo_d (mo_d (mo_l (mo_iald _)) (mo_l (mo_cI _ _ _ _ (zPre_V _) (zHm_c _ _)))) (mo_d (mo_l (mo_istore _ _)) (mo_d (mo_l (mo_aload _ _)) (mo_l (mo_cI _ _ _ _ (zPre_V _) (zHm_c _ _)))))) (mo_d (mo_d (mo_l (mo_iload _ _)) (mo_l (mo_cmpeq _ _))) (mo_d (mo_l (mo_ic _ _)) (mo_d (mo_l (mo_rZ)) (mo_l (mo_iload _ _)))))) (mo_d (mo_d (mo_d (mo_l (mo_ifne _ _)) (mo_l (mo_aload _ _))) (mo_d (mo_l (mo_ic _ _)) (mo_d (mo_l (mo_lald _)) (mo_l (mo_iload _ _))))) (mo_d (mo_d (mo_l (mo_i2l _)) (mo_l (mo_lcmp _))) (mo_d (mo_l (mo_ifeq _ _)) (mo_d (mo_l (mo_ic _ _)) (mo_l (mo_rZ))))))) (mo_d (mo_d (mo_d (mo_d (mo_l (mo_goto _)) (mo_l (mo_aload _ _))) (mo_d (mo_l (mo_aload _ _)) (mo_d (mo_l (mo_iload _ _)) (mo_l (mo_ic _ _))))) (mo_d (mo_d (mo_l (mo_iadd _)) (mo_l (mo_iald _))) (mo_d (mo_l (mo_aload _ _)) (mo_d (mo_l (mo_iload _ _)) (mo_l (mo_ic _ _)))))) (mo_d (mo_d (mo_d (mo_l (mo_iadd _)) (mo_l (mo_iald _))) (mo_d (mo_l (mo_aload _ _)) (mo_d (mo_l (mo_iload _ _)) (mo_l (mo_ic _ _))))) (mo_d (mo_d (mo_l (mo_iadd _)) (mo_l (mo_iald _))) (mo_d (mo_l (mo_aload _ _)) (mo_d (mo_l (mo_cI _ _ _ _ zPre_S (zHm_c _ _))) (mo_l (mo_istore _ _)))))))) (mo_d (mo_d (mo_d (mo_d (mo_d (mo_l (mo_aload _ _)) (mo_l (mo_aload _ _))) (mo_d (mo_l (mo_iload _ _)) (mo_d (mo_l (mo_ic _ _)) (mo_l (mo_iadd _))))) (mo_d (mo_d (mo_l (mo_iald _)) (mo_l (mo_aload _ _))) (mo_d (mo_l (mo_iload _ _)) (mo_d (mo_l (mo_ic _ _)) (mo_l (mo_iadd _)))))) (mo_d (mo_d (mo_d (mo_l (mo_iald _)) (mo_l (mo_aload _ _))) (mo_d (mo_l (mo_iload _ _)) (mo_d (mo_l (mo_ic _ _)) (mo_l (mo_iadd _))))) (mo_d (mo_d (mo_l (mo_iald _)) (mo_l (mo_cI _ _ _ _ (zPre_V _) (zHm_c _ _)))) (mo_d (mo_l (mo_istore _ _)) (mo_d (mo_l (mo_aload _ _)) (mo_l (mo_cI _ _ _ _ (zPre_V _) (zHm_c _ _)))))))) (mo_d (mo_d (mo_d (mo_d (mo_l (mo_iload _ _)) (mo_l (mo_cmpeq _ _))) (mo_d (mo_l (mo_ic _ _)) (mo_d (mo_l (mo_rZ)) (mo_l (mo_iload _ _))))) (mo_d (mo_d (mo_l (mo_ifne _ _)) (mo_l (mo_aload _ _))) (mo_d (mo_l (mo_ic _ _)) (mo_d (mo_l (mo_lald _)) (mo_l (mo_iload _ _)))))) (mo_d (mo_d (mo_d (mo_l (mo_i2l _)) (mo_l (mo_lcmp _))) (mo_d (mo_l (mo_ifeq _ _)) (mo_d (mo_l (mo_ic _ _)) (mo_l (mo_rZ))))) (mo_d (mo_d (mo_l (mo_goto _)) (mo_l (mo_aload _ _))) (mo_d (mo_l (mo_aload _ _)) (mo_d (mo_l (mo_iload _ _)) (mo_l (mo_ic _ _))))))))) (mo_d (mo_d (mo_d (mo_d (mo_d (mo_d (mo_l (mo_iadd _)) (mo_l (mo_iald _))) (mo_d (mo_l (mo_aload _ _)) (mo_d (mo_l (mo_iload _ _)) (mo_l (mo_ic _ _))))) (mo_d (mo_d (mo_l (mo_iadd _)) (mo_l (mo_iald _))) (mo_d (mo_l (mo_aload _ _)) (mo_d (mo_l (mo_cI _ _ _ _ zPre_S (zHm_c _ _))) (mo_l (mo_istore _ _)))))) (mo_d (mo_d (mo_d (mo_l (mo_aload _ _)) (mo_l (mo_aload _ _))) (mo_d (mo_l (mo_iload _ _)) (mo_d (mo_l (mo_ic _ _)) (mo_l (mo_iadd _))))) (mo_d (mo_d (mo_l (mo_iald _)) (mo_l (mo_aload _ _))) (mo_d (mo_l (mo_iload _ _)) (mo_d (mo_l (mo_ic _ _)) (mo_l (mo_iadd _))))))) (mo_d (mo_d (mo_d (mo_d (mo_l (mo_iald _)) (mo_l (mo_cI _ _ _ _ (zPre_V _) (zHm_c _ _)))) (mo_d (mo_l (mo_istore _ _)) (mo_d (mo_l (mo_aload _ _)) (mo_l (mo_cI _ _ _ _ (zPre_V _) (zHm_c _ _)))))) (mo_d (mo_d (mo_l (mo_iload _ _)) (mo_l (mo_cmpeq _ _))) (mo_d (mo_l (mo_ic _ _)) (mo_d (mo_l (mo_rZ)) (mo_l (mo_iload _ _)))))) (mo_d (mo_d (mo_d (mo_l (mo_ifne _ _)) (mo_l (mo_aload _ _))) (mo_d (mo_l (mo_ic _ _)) (mo_d (mo_l (mo_lald _)) (mo_l (mo_iload _ _))))) (mo_d (mo_d (mo_l (mo_i2l _)) (mo_l (mo_lcmp _))) (mo_d (mo_l (mo_ifeq _ _)) (mo_d (mo_l (mo_ic _ _)) (mo_l (mo_rZ)))))))) (mo_d (mo_d (mo_d (mo_d (mo_d (mo_l (mo_goto _)) (mo_l (mo_aload _ _))) (mo_d (mo_l (mo_aload _ _)) (mo_d (mo_l (mo_iload _ _)) (mo_l (mo_ic _ _))))) (mo_d (mo_d (mo_l (mo_iadd _)) (mo_l (mo_iald _))) (mo_d (mo_l (mo_aload _ _)) (mo_d (mo_l (mo_cI _ _ _ _ zPre_S (zHm_c _ _))) (mo_l (mo_istore _ _)))))) (mo_d (mo_d (mo_d (mo_l (mo_aload _ _)) (mo_l (mo_aload _ _))) (mo_d (mo_l (mo_iload _ _)) (mo_d (mo_l (mo_ic _ _)) (mo_l (mo_iadd _))))) (mo_d (mo_d (mo_l (mo_iald _)) (mo_l (mo_cI _ _ _ _ (zPre_V _) (zHm_c _ _)))) (mo_d (mo_l (mo_istore _ _)) (mo_d (mo_l (mo_aload _ _)) (mo_l (mo_cI _ _ _ _ (zPre_V _) (zHm_c _ _)))))))) (mo_d (mo_d (mo_d (mo_d (mo_l (mo_iload _ _)) (mo_l (mo_cmpeq _ _))) (mo_d (mo_l (mo_ic _ _)) (mo_d (mo_l (mo_rZ)) (mo_l (mo_iload _ _))))) (mo_d (mo_d (mo_l (mo_ifne _ _)) (mo_l (mo_aload _ _))) (mo_d (mo_l (mo_ic _ _)) (mo_d (mo_l (mo_lald _)) (mo_l (mo_iload _ _)))))) (mo_d (mo_d (mo_d (mo_l (mo_i2l _)) (mo_l (mo_lcmp _))) (mo_d (mo_l (mo_ifeq _ _)) (mo_d (mo_l (mo_ic _ _)) (mo_l (mo_rZ))))) (mo_d (mo_d (mo_l (mo_goto _)) (mo_l (mo_iinc _ _ _))) (mo_d (mo_l (mo_goto _)) (mo_d (mo_l (mo_ic _ _)) (mo_l (mo_rZ)))))))))))))
def zcode (G : Nat × Nat) (y pc : Nat) : zSem := bif Nat.ble 1000 y then zc_X5_leastOfRest G y pc else
 bif Nat.ble 103 y then
 (bif Nat.ble 154 y then
 (bif Nat.ble 180 y then
 (bif Nat.ble 193 y then
 (bif Nat.ble 199 y then
 (bif Nat.ble 202 y then
 (bif Nat.ble 204 y then
 (bif Nat.ble 205 y then
 (bif Nat.beq y 205 then zc_L_law G pc else s_no)
 else (bif Nat.beq y 204 then zc_X12_recall G pc else s_no))
 else (bif Nat.ble 203 y then
 (bif Nat.beq y 203 then zc_L_recall G pc else s_no)
 else (bif Nat.beq y 202 then zc_X11_recall G pc else s_no)))
 else (bif Nat.ble 200 y then
 (bif Nat.ble 201 y then
 (bif Nat.beq y 201 then zc_X0_hasPartOf G pc else s_no)
 else (bif Nat.beq y 200 then zc_X12_jointAnew G pc else s_no))
 else (bif Nat.beq y 199 then zc_L_jointAnew G pc else s_no)))
 else (bif Nat.ble 196 y then
 (bif Nat.ble 197 y then
 (bif Nat.ble 198 y then
 (bif Nat.beq y 198 then zc_X11_jointAnew G pc else s_no)
 else (bif Nat.beq y 197 then zc_X12_ofSlot G pc else s_no))
 else (bif Nat.beq y 196 then zc_L_ofSlot G pc else s_no))
 else (bif Nat.ble 194 y then
 (bif Nat.ble 195 y then
 (bif Nat.beq y 195 then zc_X11_ofSlot G pc else s_no)
 else (bif Nat.beq y 194 then zc_X12_pass G pc else s_no))
 else (bif Nat.beq y 193 then zc_L_pass G pc else s_no))))
 else (bif Nat.ble 186 y then
 (bif Nat.ble 189 y then
 (bif Nat.ble 191 y then
 (bif Nat.ble 192 y then
 (bif Nat.beq y 192 then zc_X11_pass G pc else s_no)
 else (bif Nat.beq y 191 then zc_X12_ship G pc else s_no))
 else (bif Nat.ble 190 y then
 (bif Nat.beq y 190 then zc_L_ship G pc else s_no)
 else (bif Nat.beq y 189 then zc_X11_ship G pc else s_no)))
 else (bif Nat.ble 187 y then
 (bif Nat.ble 188 y then
 (bif Nat.beq y 188 then zc_X12_repair G pc else s_no)
 else (bif Nat.beq y 187 then zc_L_repair G pc else s_no))
 else (bif Nat.beq y 186 then zc_X11_repair G pc else s_no)))
 else (bif Nat.ble 183 y then
 (bif Nat.ble 184 y then
 (bif Nat.ble 185 y then
 (bif Nat.beq y 185 then zc_X9_mend G pc else s_no)
 else (bif Nat.beq y 184 then zc_X12_test G pc else s_no))
 else (bif Nat.beq y 183 then zc_X12_faults G pc else s_no))
 else (bif Nat.ble 181 y then
 (bif Nat.ble 182 y then
 (bif Nat.beq y 182 then zc_L_test G pc else s_no)
 else (bif Nat.beq y 181 then zc_X11_test G pc else s_no))
 else (bif Nat.beq y 180 then zc_X0_faultsFound G pc else s_no)))))
 else (bif Nat.ble 167 y then
 (bif Nat.ble 173 y then
 (bif Nat.ble 176 y then
 (bif Nat.ble 178 y then
 (bif Nat.ble 179 y then
 (bif Nat.beq y 179 then zc_X0_findFaults G pc else s_no)
 else (bif Nat.beq y 178 then zc_X12_cover G pc else s_no))
 else (bif Nat.ble 177 y then
 (bif Nat.beq y 177 then zc_L_cover G pc else s_no)
 else (bif Nat.beq y 176 then zc_X11_cover G pc else s_no)))
 else (bif Nat.ble 174 y then
 (bif Nat.ble 175 y then
 (bif Nat.beq y 175 then zc_J6_bitCount_0f7a4 G pc else s_no)
 else (bif Nat.beq y 174 then zc_X12_flaw G pc else s_no))
 else (bif Nat.beq y 173 then zc_L_flaw G pc else s_no)))
 else (bif Nat.ble 170 y then
 (bif Nat.ble 171 y then
 (bif Nat.ble 172 y then
 (bif Nat.beq y 172 then zc_X11_flaw G pc else s_no)
 else (bif Nat.beq y 171 then zc_X12_solder G pc else s_no))
 else (bif Nat.beq y 170 then zc_X12_peakOf G pc else s_no))
 else (bif Nat.ble 168 y then
 (bif Nat.ble 169 y then
 (bif Nat.beq y 169 then zc_X12_down G pc else s_no)
 else (bif Nat.beq y 168 then zc_L_solder G pc else s_no))
 else (bif Nat.beq y 167 then zc_X11_solder G pc else s_no))))
 else (bif Nat.ble 160 y then
 (bif Nat.ble 163 y then
 (bif Nat.ble 165 y then
 (bif Nat.ble 166 y then
 (bif Nat.beq y 166 then zc_X0_goThrough G pc else s_no)
 else (bif Nat.beq y 165 then zc_X9_join G pc else s_no))
 else (bif Nat.ble 164 y then
 (bif Nat.beq y 164 then zc_X9_jointFor G pc else s_no)
 else (bif Nat.beq y 163 then zc_X0_peak G pc else s_no)))
 else (bif Nat.ble 161 y then
 (bif Nat.ble 162 y then
 (bif Nat.beq y 162 then zc_X6_peakOf G pc else s_no)
 else (bif Nat.beq y 161 then zc_X0_mass G pc else s_no))
 else (bif Nat.beq y 160 then zc_X8_copyFrom G pc else s_no)))
 else (bif Nat.ble 157 y then
 (bif Nat.ble 158 y then
 (bif Nat.ble 159 y then
 (bif Nat.beq y 159 then zc_X12_limits G pc else s_no)
 else (bif Nat.beq y 158 then zc_L_limits G pc else s_no))
 else (bif Nat.beq y 157 then zc_X11_limits G pc else s_no))
 else (bif Nat.ble 155 y then
 (bif Nat.ble 156 y then
 (bif Nat.beq y 156 then zc_X12_place G pc else s_no)
 else (bif Nat.beq y 155 then zc_X12_gives G pc else s_no))
 else (bif Nat.beq y 154 then zc_X12_isSlot G pc else s_no))))))
 else (bif Nat.ble 128 y then
 (bif Nat.ble 141 y then
 (bif Nat.ble 147 y then
 (bif Nat.ble 150 y then
 (bif Nat.ble 152 y then
 (bif Nat.ble 153 y then
 (bif Nat.beq y 153 then zc_X12_isBoard G pc else s_no)
 else (bif Nat.beq y 152 then zc_L_place G pc else s_no))
 else (bif Nat.ble 151 y then
 (bif Nat.beq y 151 then zc_X11_place G pc else s_no)
 else (bif Nat.beq y 150 then zc_X9_fill G pc else s_no)))
 else (bif Nat.ble 148 y then
 (bif Nat.ble 149 y then
 (bif Nat.beq y 149 then zc_X7_gives G pc else s_no)
 else (bif Nat.beq y 148 then zc_X9_hasPart G pc else s_no))
 else (bif Nat.beq y 147 then zc_X0_slotAt G pc else s_no)))
 else (bif Nat.ble 144 y then
 (bif Nat.ble 145 y then
 (bif Nat.ble 146 y then
 (bif Nat.beq y 146 then zc_X11_boardAt G pc else s_no)
 else (bif Nat.beq y 145 then zc_X12_board G pc else s_no))
 else (bif Nat.beq y 144 then zc_L_board G pc else s_no))
 else (bif Nat.ble 142 y then
 (bif Nat.ble 143 y then
 (bif Nat.beq y 143 then zc_X11_board G pc else s_no)
 else (bif Nat.beq y 142 then zc_X0_init G pc else s_no))
 else (bif Nat.beq y 141 then zc_X9_init G pc else s_no))))
 else (bif Nat.ble 134 y then
 (bif Nat.ble 137 y then
 (bif Nat.ble 139 y then
 (bif Nat.ble 140 y then
 (bif Nat.beq y 140 then zc_X12_ofReel G pc else s_no)
 else (bif Nat.beq y 139 then zc_L_ofReel G pc else s_no))
 else (bif Nat.ble 138 y then
 (bif Nat.beq y 138 then zc_X11_ofReel G pc else s_no)
 else (bif Nat.beq y 137 then zc_X12_open G pc else s_no)))
 else (bif Nat.ble 135 y then
 (bif Nat.ble 136 y then
 (bif Nat.beq y 136 then zc_X12_runs G pc else s_no)
 else (bif Nat.beq y 135 then zc_X12_isReel G pc else s_no))
 else (bif Nat.beq y 134 then zc_L_open G pc else s_no)))
 else (bif Nat.ble 131 y then
 (bif Nat.ble 132 y then
 (bif Nat.ble 133 y then
 (bif Nat.beq y 133 then zc_X11_open G pc else s_no)
 else (bif Nat.beq y 132 then zc_X7_clockAt G pc else s_no))
 else (bif Nat.beq y 131 then zc_X7_beginClock G pc else s_no))
 else (bif Nat.ble 129 y then
 (bif Nat.ble 130 y then
 (bif Nat.beq y 130 then zc_X11_reelAt G pc else s_no)
 else (bif Nat.beq y 129 then zc_X12_reel G pc else s_no))
 else (bif Nat.beq y 128 then zc_L_reel G pc else s_no)))))
 else (bif Nat.ble 115 y then
 (bif Nat.ble 121 y then
 (bif Nat.ble 124 y then
 (bif Nat.ble 126 y then
 (bif Nat.ble 127 y then
 (bif Nat.beq y 127 then zc_X11_reel G pc else s_no)
 else (bif Nat.beq y 126 then zc_X7_init G pc else s_no))
 else (bif Nat.ble 125 y then
 (bif Nat.beq y 125 then zc_X12_crimps G pc else s_no)
 else (bif Nat.beq y 124 then zc_L_crimps G pc else s_no)))
 else (bif Nat.ble 122 y then
 (bif Nat.ble 123 y then
 (bif Nat.beq y 123 then zc_X11_crimps G pc else s_no)
 else (bif Nat.beq y 122 then zc_X12_crimp G pc else s_no))
 else (bif Nat.beq y 121 then zc_X12_window G pc else s_no)))
 else (bif Nat.ble 118 y then
 (bif Nat.ble 119 y then
 (bif Nat.ble 120 y then
 (bif Nat.beq y 120 then zc_L_crimp G pc else s_no)
 else (bif Nat.beq y 119 then zc_X11_crimp G pc else s_no))
 else (bif Nat.beq y 118 then zc_X3_judge G pc else s_no))
 else (bif Nat.ble 116 y then
 (bif Nat.ble 117 y then
 (bif Nat.beq y 117 then zc_J9_abs_0f7a4 G pc else s_no)
 else (bif Nat.beq y 116 then zc_X3_window G pc else s_no))
 else (bif Nat.beq y 115 then zc_X11_divideDown G pc else s_no))))
 else (bif Nat.ble 109 y then
 (bif Nat.ble 112 y then
 (bif Nat.ble 113 y then
 (bif Nat.ble 114 y then
 (bif Nat.beq y 114 then zc_J9_floorDiv_7cf53 G pc else s_no)
 else (bif Nat.beq y 113 then zc_X12_leastAnew G pc else s_no))
 else (bif Nat.beq y 112 then zc_L_leastAnew G pc else s_no))
 else (bif Nat.ble 110 y then
 (bif Nat.ble 111 y then
 (bif Nat.beq y 111 then zc_X11_leastAnew G pc else s_no)
 else (bif Nat.beq y 110 then zc_X5_leastByTable G pc else s_no))
 else (bif Nat.beq y 109 then zc_X5_addFamily G pc else s_no)))
 else (bif Nat.ble 106 y then
 (bif Nat.ble 107 y then
 (bif Nat.ble 108 y then
 (bif Nat.beq y 108 then zc_X5_leastWithOneMore G pc else s_no)
 else (bif Nat.beq y 107 then zc_X12_least G pc else s_no))
 else (bif Nat.beq y 106 then zc_X12_leastOf G pc else s_no))
 else (bif Nat.ble 104 y then
 (bif Nat.ble 105 y then
 (bif Nat.beq y 105 then zc_X12_weightOfFamilies G pc else s_no)
 else (bif Nat.beq y 104 then zc_L_least G pc else s_no))
 else (bif Nat.beq y 103 then zc_X11_least G pc else s_no)))))))
 else (bif Nat.ble 51 y then
 (bif Nat.ble 76 y then
 (bif Nat.ble 89 y then
 (bif Nat.ble 95 y then
 (bif Nat.ble 98 y then
 (bif Nat.ble 100 y then
 (bif Nat.ble 102 y then
 (bif Nat.beq y 102 then zc_X5_leastByChoice G pc else s_no)
 else (bif Nat.beq y 100 then zc_X5_weighSets G pc else s_no))
 else (bif Nat.ble 99 y then
 (bif Nat.beq y 99 then zc_X5_weightAsOne G pc else s_no)
 else (bif Nat.beq y 98 then zc_X5_allOrders G pc else s_no)))
 else (bif Nat.ble 96 y then
 (bif Nat.ble 97 y then
 (bif Nat.beq y 97 then zc_X12_order G pc else s_no)
 else (bif Nat.beq y 96 then zc_L_order G pc else s_no))
 else (bif Nat.beq y 95 then zc_X11_order G pc else s_no)))
 else (bif Nat.ble 92 y then
 (bif Nat.ble 93 y then
 (bif Nat.ble 94 y then
 (bif Nat.beq y 94 then zc_X5_add G pc else s_no)
 else (bif Nat.beq y 93 then zc_X12_weight G pc else s_no))
 else (bif Nat.beq y 92 then zc_X12_weighs G pc else s_no))
 else (bif Nat.ble 90 y then
 (bif Nat.ble 91 y then
 (bif Nat.beq y 91 then zc_X12_areOptions G pc else s_no)
 else (bif Nat.beq y 90 then zc_L_weight G pc else s_no))
 else (bif Nat.beq y 89 then zc_X11_weight G pc else s_no))))
 else (bif Nat.ble 82 y then
 (bif Nat.ble 85 y then
 (bif Nat.ble 87 y then
 (bif Nat.ble 88 y then
 (bif Nat.beq y 88 then zc_X4_weightOf G pc else s_no)
 else (bif Nat.beq y 87 then zc_X12_ofWire G pc else s_no))
 else (bif Nat.ble 86 y then
 (bif Nat.beq y 86 then zc_L_ofWire G pc else s_no)
 else (bif Nat.beq y 85 then zc_X11_ofWire G pc else s_no)))
 else (bif Nat.ble 83 y then
 (bif Nat.ble 84 y then
 (bif Nat.beq y 84 then zc_X10_bundleAt G pc else s_no)
 else (bif Nat.beq y 83 then zc_X12_pull G pc else s_no))
 else (bif Nat.beq y 82 then zc_X12_lengthOf G pc else s_no)))
 else (bif Nat.ble 79 y then
 (bif Nat.ble 80 y then
 (bif Nat.ble 81 y then
 (bif Nat.beq y 81 then zc_X12_isWire G pc else s_no)
 else (bif Nat.beq y 80 then zc_L_pull G pc else s_no))
 else (bif Nat.beq y 79 then zc_X11_pull G pc else s_no))
 else (bif Nat.ble 77 y then
 (bif Nat.ble 78 y then
 (bif Nat.beq y 78 then zc_X10_takeOut G pc else s_no)
 else (bif Nat.beq y 77 then zc_X2_release G pc else s_no))
 else (bif Nat.beq y 76 then zc_X11_wireAt G pc else s_no)))))
 else (bif Nat.ble 63 y then
 (bif Nat.ble 69 y then
 (bif Nat.ble 72 y then
 (bif Nat.ble 74 y then
 (bif Nat.ble 75 y then
 (bif Nat.beq y 75 then zc_X12_wire G pc else s_no)
 else (bif Nat.beq y 74 then zc_X12_lays G pc else s_no))
 else (bif Nat.ble 73 y then
 (bif Nat.beq y 73 then zc_X12_across G pc else s_no)
 else (bif Nat.beq y 72 then zc_X12_isTaken G pc else s_no)))
 else (bif Nat.ble 70 y then
 (bif Nat.ble 71 y then
 (bif Nat.beq y 71 then zc_X12_finds G pc else s_no)
 else (bif Nat.beq y 70 then zc_X12_costOf G pc else s_no))
 else (bif Nat.beq y 69 then zc_X12_isCavity G pc else s_no)))
 else (bif Nat.ble 66 y then
 (bif Nat.ble 67 y then
 (bif Nat.ble 68 y then
 (bif Nat.beq y 68 then zc_L_wire G pc else s_no)
 else (bif Nat.beq y 67 then zc_X11_wire G pc else s_no))
 else (bif Nat.beq y 66 then zc_X4_addWire G pc else s_no))
 else (bif Nat.ble 64 y then
 (bif Nat.ble 65 y then
 (bif Nat.beq y 65 then zc_X4_layAlong G pc else s_no)
 else (bif Nat.beq y 64 then zc_X10_goBy G pc else s_no))
 else (bif Nat.beq y 63 then zc_X4_lowestOnward G pc else s_no))))
 else (bif Nat.ble 57 y then
 (bif Nat.ble 60 y then
 (bif Nat.ble 61 y then
 (bif Nat.ble 62 y then
 (bif Nat.beq y 62 then zc_X10_putIn G pc else s_no)
 else (bif Nat.beq y 61 then zc_X2_take G pc else s_no))
 else (bif Nat.beq y 60 then zc_X10_init G pc else s_no))
 else (bif Nat.ble 58 y then
 (bif Nat.ble 59 y then
 (bif Nat.beq y 59 then zc_X4_hasWay G pc else s_no)
 else (bif Nat.beq y 58 then zc_X4_findCosts G pc else s_no))
 else (bif Nat.beq y 57 then zc_X4_lowerCost G pc else s_no)))
 else (bif Nat.ble 54 y then
 (bif Nat.ble 55 y then
 (bif Nat.ble 56 y then
 (bif Nat.beq y 56 then zc_X1_across G pc else s_no)
 else (bif Nat.beq y 55 then zc_X1_cost G pc else s_no))
 else (bif Nat.beq y 54 then zc_X8_at G pc else s_no))
 else (bif Nat.ble 52 y then
 (bif Nat.ble 53 y then
 (bif Nat.beq y 53 then zc_X2_isFree G pc else s_no)
 else (bif Nat.beq y 52 then zc_X12_mates G pc else s_no))
 else (bif Nat.beq y 51 then zc_X12_fit G pc else s_no))))))
 else (bif Nat.ble 25 y then
 (bif Nat.ble 38 y then
 (bif Nat.ble 44 y then
 (bif Nat.ble 47 y then
 (bif Nat.ble 49 y then
 (bif Nat.ble 50 y then
 (bif Nat.beq y 50 then zc_X12_isConnector G pc else s_no)
 else (bif Nat.beq y 49 then zc_L_mates G pc else s_no))
 else (bif Nat.ble 48 y then
 (bif Nat.beq y 48 then zc_X11_mates G pc else s_no)
 else (bif Nat.beq y 47 then zc_X4_pairsThatFitWrong G pc else s_no)))
 else (bif Nat.ble 45 y then
 (bif Nat.ble 46 y then
 (bif Nat.beq y 46 then zc_X2_fits G pc else s_no)
 else (bif Nat.beq y 45 then zc_X11_connectorAt G pc else s_no))
 else (bif Nat.beq y 44 then zc_Jx4a65c_get_915e3 G pc else s_no)))
 else (bif Nat.ble 41 y then
 (bif Nat.ble 42 y then
 (bif Nat.ble 43 y then
 (bif Nat.beq y 43 then zc_Jx4a65c_elementData_915e3 G pc else s_no)
 else (bif Nat.beq y 42 then zc_J15_checkIndex_7cf53 G pc else s_no))
 else (bif Nat.beq y 41 then zc_J3_checkIndex_8e157 G pc else s_no))
 else (bif Nat.ble 39 y then
 (bif Nat.ble 40 y then
 (bif Nat.beq y 40 then zc_X12_connector G pc else s_no)
 else (bif Nat.beq y 39 then zc_L_connector G pc else s_no))
 else (bif Nat.beq y 38 then zc_X11_connector G pc else s_no))))
 else (bif Nat.ble 31 y then
 (bif Nat.ble 34 y then
 (bif Nat.ble 36 y then
 (bif Nat.ble 37 y then
 (bif Nat.beq y 37 then zc_X4_addConnector G pc else s_no)
 else (bif Nat.beq y 36 then zc_X2_init G pc else s_no))
 else (bif Nat.ble 35 y then
 (bif Nat.beq y 35 then zc_X12_thrown G pc else s_no)
 else (bif Nat.beq y 34 then zc_X12_bundle G pc else s_no)))
 else (bif Nat.ble 32 y then
 (bif Nat.ble 33 y then
 (bif Nat.beq y 33 then zc_X12_fails G pc else s_no)
 else (bif Nat.beq y 32 then zc_X12_isNode G pc else s_no))
 else (bif Nat.beq y 31 then zc_X12_isIn G pc else s_no)))
 else (bif Nat.ble 28 y then
 (bif Nat.ble 29 y then
 (bif Nat.ble 30 y then
 (bif Nat.beq y 30 then zc_L_bundle G pc else s_no)
 else (bif Nat.beq y 29 then zc_X11_bundle G pc else s_no))
 else (bif Nat.beq y 28 then zc_X4_addBundle G pc else s_no))
 else (bif Nat.ble 26 y then
 (bif Nat.ble 27 y then
 (bif Nat.beq y 27 then zc_Jx4a65c_add_9ea2d G pc else s_no)
 else (bif Nat.beq y 26 then zc_Jx4a65c_add_72be8 G pc else s_no))
 else (bif Nat.beq y 25 then zc_Jx4a65c_grow_d5877 G pc else s_no)))))
 else (bif Nat.ble 12 y then
 (bif Nat.ble 18 y then
 (bif Nat.ble 21 y then
 (bif Nat.ble 23 y then
 (bif Nat.ble 24 y then
 (bif Nat.beq y 24 then zc_Jx4a65c_grow_92f84 G pc else s_no)
 else (bif Nat.beq y 23 then zc_J7_copyOf_1904c G pc else s_no))
 else (bif Nat.ble 22 y then
 (bif Nat.beq y 22 then zc_J7_copyOf_6403c G pc else s_no)
 else (bif Nat.beq y 21 then zc_J9_min_7cf53 G pc else s_no)))
 else (bif Nat.ble 19 y then
 (bif Nat.ble 20 y then
 (bif Nat.beq y 20 then zc_J8_newLength_cabcc G pc else s_no)
 else (bif Nat.beq y 19 then zc_J9_max_7cf53 G pc else s_no))
 else (bif Nat.beq y 18 then zc_X1_init G pc else s_no)))
 else (bif Nat.ble 15 y then
 (bif Nat.ble 16 y then
 (bif Nat.ble 17 y then
 (bif Nat.beq y 17 then zc_X11_checkState G pc else s_no)
 else (bif Nat.beq y 16 then zc_Jx4a65c_size_8abf5 G pc else s_no))
 else (bif Nat.beq y 15 then zc_X11_checkArgument G pc else s_no))
 else (bif Nat.ble 13 y then
 (bif Nat.ble 14 y then
 (bif Nat.beq y 14 then zc_X11_isWithin G pc else s_no)
 else (bif Nat.beq y 13 then zc_X11_checkIndex G pc else s_no))
 else (bif Nat.beq y 12 then zc_X11_isIndex G pc else s_no))))
 else (bif Nat.ble 6 y then
 (bif Nat.ble 9 y then
 (bif Nat.ble 10 y then
 (bif Nat.ble 11 y then
 (bif Nat.beq y 11 then zc_X12_init G pc else s_no)
 else (bif Nat.beq y 10 then zc_X11_init G pc else s_no))
 else (bif Nat.beq y 9 then zc_X6_init G pc else s_no))
 else (bif Nat.ble 7 y then
 (bif Nat.ble 8 y then
 (bif Nat.beq y 8 then zc_X8_fill G pc else s_no)
 else (bif Nat.beq y 7 then zc_X8_put G pc else s_no))
 else (bif Nat.beq y 6 then zc_X3_init G pc else s_no)))
 else (bif Nat.ble 3 y then
 (bif Nat.ble 4 y then
 (bif Nat.ble 5 y then
 (bif Nat.beq y 5 then zc_X5_init G pc else s_no)
 else (bif Nat.beq y 4 then zc_X4_init G pc else s_no))
 else (bif Nat.beq y 3 then zc_X8_init G pc else s_no))
 else (bif Nat.ble 1 y then
 (bif Nat.ble 2 y then
 (bif Nat.beq y 2 then zc_Jx4a65c_init_da8c8 G pc else s_no)
 else (bif Nat.beq y 1 then zc_Jxc12de_init_da8c8 G pc else s_no))
 else (bif Nat.beq y 0 then zc_Jxa1e45_init_da8c8 G pc else s_no)))))))
theorem zcode_mono (G : Nat × Nat) (y pc : Nat) : zMon (zcode G y pc) := mo_f2 (zm_X5_leastOfRest G y pc) (mo_f2 (mo_f2 (mo_f2 (mo_f2 (mo_f2 (mo_f2 (mo_f2 (mo_f2 (mo_f (zm_L_law G pc)) (mo_f (zm_X12_recall G pc))) (mo_f2 (mo_f (zm_L_recall G pc)) (mo_f (zm_X11_recall G pc)))) (mo_f2 (mo_f2 (mo_f (zm_X0_hasPartOf G pc)) (mo_f (zm_X12_jointAnew G pc))) (mo_f (zm_L_jointAnew G pc)))) (mo_f2 (mo_f2 (mo_f2 (mo_f (zm_X11_jointAnew G pc)) (mo_f (zm_X12_ofSlot G pc))) (mo_f (zm_L_ofSlot G pc))) (mo_f2 (mo_f2 (mo_f (zm_X11_ofSlot G pc)) (mo_f (zm_X12_pass G pc))) (mo_f (zm_L_pass G pc))))) (mo_f2 (mo_f2 (mo_f2 (mo_f2 (mo_f (zm_X11_pass G pc)) (mo_f (zm_X12_ship G pc))) (mo_f2 (mo_f (zm_L_ship G pc)) (mo_f (zm_X11_ship G pc)))) (mo_f2 (mo_f2 (mo_f (zm_X12_repair G pc)) (mo_f (zm_L_repair G pc))) (mo_f (zm_X11_repair G pc)))) (mo_f2 (mo_f2 (mo_f2 (mo_f (zm_X9_mend G pc)) (mo_f (zm_X12_test G pc))) (mo_f (zm_X12_faults G pc))) (mo_f2 (mo_f2 (mo_f (zm_L_test G pc)) (mo_f (zm_X11_test G pc))) (mo_f (zm_X0_faultsFound G pc)))))) (mo_f2 (mo_f2 (mo_f2 (mo_f2 (mo_f2 (mo_f (zm_X0_findFaults G pc)) (mo_f (zm_X12_cover G pc))) (mo_f2 (mo_f (zm_L_cover G pc)) (mo_f (zm_X11_cover G pc)))) (mo_f2 (mo_f2 (mo_f (zm_J6_bitCount_0f7a4 G pc)) (mo_f (zm_X12_flaw G pc))) (mo_f (zm_L_flaw G pc)))) (mo_f2 (mo_f2 (mo_f2 (mo_f (zm_X11_flaw G pc)) (mo_f (zm_X12_solder G pc))) (mo_f (zm_X12_peakOf G pc))) (mo_f2 (mo_f2 (mo_f (zm_X12_down G pc)) (mo_f (zm_L_solder G pc))) (mo_f (zm_X11_solder G pc))))) (mo_f2 (mo_f2 (mo_f2 (mo_f2 (mo_f (zm_X0_goThrough G pc)) (mo_f (zm_X9_join G pc))) (mo_f2 (mo_f (zm_X9_jointFor G pc)) (mo_f (zm_X0_peak G pc)))) (mo_f2 (mo_f2 (mo_f (zm_X6_peakOf G pc)) (mo_f (zm_X0_mass G pc))) (mo_f (zm_X8_copyFrom G pc)))) (mo_f2 (mo_f2 (mo_f2 (mo_f (zm_X12_limits G pc)) (mo_f (zm_L_limits G pc))) (mo_f (zm_X11_limits G pc))) (mo_f2 (mo_f2 (mo_f (zm_X12_place G pc)) (mo_f (zm_X12_gives G pc))) (mo_f (zm_X12_isSlot G pc))))))) (mo_f2 (mo_f2 (mo_f2 (mo_f2 (mo_f2 (mo_f2 (mo_f (zm_X12_isBoard G pc)) (mo_f (zm_L_place G pc))) (mo_f2 (mo_f (zm_X11_place G pc)) (mo_f (zm_X9_fill G pc)))) (mo_f2 (mo_f2 (mo_f (zm_X7_gives G pc)) (mo_f (zm_X9_hasPart G pc))) (mo_f (zm_X0_slotAt G pc)))) (mo_f2 (mo_f2 (mo_f2 (mo_f (zm_X11_boardAt G pc)) (mo_f (zm_X12_board G pc))) (mo_f (zm_L_board G pc))) (mo_f2 (mo_f2 (mo_f (zm_X11_board G pc)) (mo_f (zm_X0_init G pc))) (mo_f (zm_X9_init G pc))))) (mo_f2 (mo_f2 (mo_f2 (mo_f2 (mo_f (zm_X12_ofReel G pc)) (mo_f (zm_L_ofReel G pc))) (mo_f2 (mo_f (zm_X11_ofReel G pc)) (mo_f (zm_X12_open G pc)))) (mo_f2 (mo_f2 (mo_f (zm_X12_runs G pc)) (mo_f (zm_X12_isReel G pc))) (mo_f (zm_L_open G pc)))) (mo_f2 (mo_f2 (mo_f2 (mo_f (zm_X11_open G pc)) (mo_f (zm_X7_clockAt G pc))) (mo_f (zm_X7_beginClock G pc))) (mo_f2 (mo_f2 (mo_f (zm_X11_reelAt G pc)) (mo_f (zm_X12_reel G pc))) (mo_f (zm_L_reel G pc)))))) (mo_f2 (mo_f2 (mo_f2 (mo_f2 (mo_f2 (mo_f (zm_X11_reel G pc)) (mo_f (zm_X7_init G pc))) (mo_f2 (mo_f (zm_X12_crimps G pc)) (mo_f (zm_L_crimps G pc)))) (mo_f2 (mo_f2 (mo_f (zm_X11_crimps G pc)) (mo_f (zm_X12_crimp G pc))) (mo_f (zm_X12_window G pc)))) (mo_f2 (mo_f2 (mo_f2 (mo_f (zm_L_crimp G pc)) (mo_f (zm_X11_crimp G pc))) (mo_f (zm_X3_judge G pc))) (mo_f2 (mo_f2 (mo_f (zm_J9_abs_0f7a4 G pc)) (mo_f (zm_X3_window G pc))) (mo_f (zm_X11_divideDown G pc))))) (mo_f2 (mo_f2 (mo_f2 (mo_f2 (mo_f (zm_J9_floorDiv_7cf53 G pc)) (mo_f (zm_X12_leastAnew G pc))) (mo_f (zm_L_leastAnew G pc))) (mo_f2 (mo_f2 (mo_f (zm_X11_leastAnew G pc)) (mo_f (zm_X5_leastByTable G pc))) (mo_f (zm_X5_addFamily G pc)))) (mo_f2 (mo_f2 (mo_f2 (mo_f (zm_X5_leastWithOneMore G pc)) (mo_f (zm_X12_least G pc))) (mo_f (zm_X12_leastOf G pc))) (mo_f2 (mo_f2 (mo_f (zm_X12_weightOfFamilies G pc)) (mo_f (zm_L_least G pc))) (mo_f (zm_X11_least G pc)))))))) (mo_f2 (mo_f2 (mo_f2 (mo_f2 (mo_f2 (mo_f2 (mo_f2 (mo_f (zm_X5_leastByChoice G pc)) (mo_f (zm_X5_weighSets G pc))) (mo_f2 (mo_f (zm_X5_weightAsOne G pc)) (mo_f (zm_X5_allOrders G pc)))) (mo_f2 (mo_f2 (mo_f (zm_X12_order G pc)) (mo_f (zm_L_order G pc))) (mo_f (zm_X11_order G pc)))) (mo_f2 (mo_f2 (mo_f2 (mo_f (zm_X5_add G pc)) (mo_f (zm_X12_weight G pc))) (mo_f (zm_X12_weighs G pc))) (mo_f2 (mo_f2 (mo_f (zm_X12_areOptions G pc)) (mo_f (zm_L_weight G pc))) (mo_f (zm_X11_weight G pc))))) (mo_f2 (mo_f2 (mo_f2 (mo_f2 (mo_f (zm_X4_weightOf G pc)) (mo_f (zm_X12_ofWire G pc))) (mo_f2 (mo_f (zm_L_ofWire G pc)) (mo_f (zm_X11_ofWire G pc)))) (mo_f2 (mo_f2 (mo_f (zm_X10_bundleAt G pc)) (mo_f (zm_X12_pull G pc))) (mo_f (zm_X12_lengthOf G pc)))) (mo_f2 (mo_f2 (mo_f2 (mo_f (zm_X12_isWire G pc)) (mo_f (zm_L_pull G pc))) (mo_f (zm_X11_pull G pc))) (mo_f2 (mo_f2 (mo_f (zm_X10_takeOut G pc)) (mo_f (zm_X2_release G pc))) (mo_f (zm_X11_wireAt G pc)))))) (mo_f2 (mo_f2 (mo_f2 (mo_f2 (mo_f2 (mo_f (zm_X12_wire G pc)) (mo_f (zm_X12_lays G pc))) (mo_f2 (mo_f (zm_X12_across G pc)) (mo_f (zm_X12_isTaken G pc)))) (mo_f2 (mo_f2 (mo_f (zm_X12_finds G pc)) (mo_f (zm_X12_costOf G pc))) (mo_f (zm_X12_isCavity G pc)))) (mo_f2 (mo_f2 (mo_f2 (mo_f (zm_L_wire G pc)) (mo_f (zm_X11_wire G pc))) (mo_f (zm_X4_addWire G pc))) (mo_f2 (mo_f2 (mo_f (zm_X4_layAlong G pc)) (mo_f (zm_X10_goBy G pc))) (mo_f (zm_X4_lowestOnward G pc))))) (mo_f2 (mo_f2 (mo_f2 (mo_f2 (mo_f (zm_X10_putIn G pc)) (mo_f (zm_X2_take G pc))) (mo_f (zm_X10_init G pc))) (mo_f2 (mo_f2 (mo_f (zm_X4_hasWay G pc)) (mo_f (zm_X4_findCosts G pc))) (mo_f (zm_X4_lowerCost G pc)))) (mo_f2 (mo_f2 (mo_f2 (mo_f (zm_X1_across G pc)) (mo_f (zm_X1_cost G pc))) (mo_f (zm_X8_at G pc))) (mo_f2 (mo_f2 (mo_f (zm_X2_isFree G pc)) (mo_f (zm_X12_mates G pc))) (mo_f (zm_X12_fit G pc))))))) (mo_f2 (mo_f2 (mo_f2 (mo_f2 (mo_f2 (mo_f2 (mo_f (zm_X12_isConnector G pc)) (mo_f (zm_L_mates G pc))) (mo_f2 (mo_f (zm_X11_mates G pc)) (mo_f (zm_X4_pairsThatFitWrong G pc)))) (mo_f2 (mo_f2 (mo_f (zm_X2_fits G pc)) (mo_f (zm_X11_connectorAt G pc))) (mo_f (zm_Jx4a65c_get_915e3 G pc)))) (mo_f2 (mo_f2 (mo_f2 (mo_f (zm_Jx4a65c_elementData_915e3 G pc)) (mo_f (zm_J15_checkIndex_7cf53 G pc))) (mo_f (zm_J3_checkIndex_8e157 G pc))) (mo_f2 (mo_f2 (mo_f (zm_X12_connector G pc)) (mo_f (zm_L_connector G pc))) (mo_f (zm_X11_connector G pc))))) (mo_f2 (mo_f2 (mo_f2 (mo_f2 (mo_f (zm_X4_addConnector G pc)) (mo_f (zm_X2_init G pc))) (mo_f2 (mo_f (zm_X12_thrown G pc)) (mo_f (zm_X12_bundle G pc)))) (mo_f2 (mo_f2 (mo_f (zm_X12_fails G pc)) (mo_f (zm_X12_isNode G pc))) (mo_f (zm_X12_isIn G pc)))) (mo_f2 (mo_f2 (mo_f2 (mo_f (zm_L_bundle G pc)) (mo_f (zm_X11_bundle G pc))) (mo_f (zm_X4_addBundle G pc))) (mo_f2 (mo_f2 (mo_f (zm_Jx4a65c_add_9ea2d G pc)) (mo_f (zm_Jx4a65c_add_72be8 G pc))) (mo_f (zm_Jx4a65c_grow_d5877 G pc)))))) (mo_f2 (mo_f2 (mo_f2 (mo_f2 (mo_f2 (mo_f (zm_Jx4a65c_grow_92f84 G pc)) (mo_f (zm_J7_copyOf_1904c G pc))) (mo_f2 (mo_f (zm_J7_copyOf_6403c G pc)) (mo_f (zm_J9_min_7cf53 G pc)))) (mo_f2 (mo_f2 (mo_f (zm_J8_newLength_cabcc G pc)) (mo_f (zm_J9_max_7cf53 G pc))) (mo_f (zm_X1_init G pc)))) (mo_f2 (mo_f2 (mo_f2 (mo_f (zm_X11_checkState G pc)) (mo_f (zm_Jx4a65c_size_8abf5 G pc))) (mo_f (zm_X11_checkArgument G pc))) (mo_f2 (mo_f2 (mo_f (zm_X11_isWithin G pc)) (mo_f (zm_X11_checkIndex G pc))) (mo_f (zm_X11_isIndex G pc))))) (mo_f2 (mo_f2 (mo_f2 (mo_f2 (mo_f (zm_X12_init G pc)) (mo_f (zm_X11_init G pc))) (mo_f (zm_X6_init G pc))) (mo_f2 (mo_f2 (mo_f (zm_X8_fill G pc)) (mo_f (zm_X8_put G pc))) (mo_f (zm_X3_init G pc)))) (mo_f2 (mo_f2 (mo_f2 (mo_f (zm_X5_init G pc)) (mo_f (zm_X4_init G pc))) (mo_f (zm_X8_init G pc))) (mo_f2 (mo_f2 (mo_f (zm_Jx4a65c_init_da8c8 G pc)) (mo_f (zm_Jxc12de_init_da8c8 G pc))) (mo_f (zm_Jxa1e45_init_da8c8 G pc)))))))))
/-- the runs of a method from a pc on: what they end with -/
noncomputable def ev_ (G : Nat × Nat) : zF := zfix (zcode G) (zcode_mono G)
theorem ev_eq (G : Nat × Nat) (y pc : Nat) (ls st : List Value) (W : zW) : ev_ G y pc ls st W = zcode G y pc (ev_ G) (ev_ G y) ls st W := zfix_eq _ _ y pc ls st W
theorem zh_Jxa1e45_init_da8c8 (G : Nat × Nat) : ∀ pc ls st W, ev_ G 0 pc ls st W = zc_Jxa1e45_init_da8c8 G pc (ev_ G) (ev_ G 0) ls st W := fun pc ls st W => ev_eq G 0 pc ls st W
theorem zh_Jxc12de_init_da8c8 (G : Nat × Nat) : ∀ pc ls st W, ev_ G 1 pc ls st W = zc_Jxc12de_init_da8c8 G pc (ev_ G) (ev_ G 1) ls st W := fun pc ls st W => ev_eq G 1 pc ls st W
theorem zh_Jx4a65c_init_da8c8 (G : Nat × Nat) : ∀ pc ls st W, ev_ G 2 pc ls st W = zc_Jx4a65c_init_da8c8 G pc (ev_ G) (ev_ G 2) ls st W := fun pc ls st W => ev_eq G 2 pc ls st W
theorem zh_X8_init (G : Nat × Nat) : ∀ pc ls st W, ev_ G 3 pc ls st W = zc_X8_init G pc (ev_ G) (ev_ G 3) ls st W := fun pc ls st W => ev_eq G 3 pc ls st W
theorem zh_X4_init (G : Nat × Nat) : ∀ pc ls st W, ev_ G 4 pc ls st W = zc_X4_init G pc (ev_ G) (ev_ G 4) ls st W := fun pc ls st W => ev_eq G 4 pc ls st W
theorem zh_X5_init (G : Nat × Nat) : ∀ pc ls st W, ev_ G 5 pc ls st W = zc_X5_init G pc (ev_ G) (ev_ G 5) ls st W := fun pc ls st W => ev_eq G 5 pc ls st W
theorem zh_X3_init (G : Nat × Nat) : ∀ pc ls st W, ev_ G 6 pc ls st W = zc_X3_init G pc (ev_ G) (ev_ G 6) ls st W := fun pc ls st W => ev_eq G 6 pc ls st W
theorem zh_X8_put (G : Nat × Nat) : ∀ pc ls st W, ev_ G 7 pc ls st W = zc_X8_put G pc (ev_ G) (ev_ G 7) ls st W := fun pc ls st W => ev_eq G 7 pc ls st W
theorem zh_X8_fill (G : Nat × Nat) : ∀ pc ls st W, ev_ G 8 pc ls st W = zc_X8_fill G pc (ev_ G) (ev_ G 8) ls st W := fun pc ls st W => ev_eq G 8 pc ls st W
theorem zh_X6_init (G : Nat × Nat) : ∀ pc ls st W, ev_ G 9 pc ls st W = zc_X6_init G pc (ev_ G) (ev_ G 9) ls st W := fun pc ls st W => ev_eq G 9 pc ls st W
theorem zh_X11_init (G : Nat × Nat) : ∀ pc ls st W, ev_ G 10 pc ls st W = zc_X11_init G pc (ev_ G) (ev_ G 10) ls st W := fun pc ls st W => ev_eq G 10 pc ls st W
theorem zh_X12_init (G : Nat × Nat) : ∀ pc ls st W, ev_ G 11 pc ls st W = zc_X12_init G pc (ev_ G) (ev_ G 11) ls st W := fun pc ls st W => ev_eq G 11 pc ls st W
theorem zh_X11_isIndex (G : Nat × Nat) : ∀ pc ls st W, ev_ G 12 pc ls st W = zc_X11_isIndex G pc (ev_ G) (ev_ G 12) ls st W := fun pc ls st W => ev_eq G 12 pc ls st W
theorem zh_X11_checkIndex (G : Nat × Nat) : ∀ pc ls st W, ev_ G 13 pc ls st W = zc_X11_checkIndex G pc (ev_ G) (ev_ G 13) ls st W := fun pc ls st W => ev_eq G 13 pc ls st W
theorem zh_X11_isWithin (G : Nat × Nat) : ∀ pc ls st W, ev_ G 14 pc ls st W = zc_X11_isWithin G pc (ev_ G) (ev_ G 14) ls st W := fun pc ls st W => ev_eq G 14 pc ls st W
theorem zh_X11_checkArgument (G : Nat × Nat) : ∀ pc ls st W, ev_ G 15 pc ls st W = zc_X11_checkArgument G pc (ev_ G) (ev_ G 15) ls st W := fun pc ls st W => ev_eq G 15 pc ls st W
theorem zh_Jx4a65c_size_8abf5 (G : Nat × Nat) : ∀ pc ls st W, ev_ G 16 pc ls st W = zc_Jx4a65c_size_8abf5 G pc (ev_ G) (ev_ G 16) ls st W := fun pc ls st W => ev_eq G 16 pc ls st W
theorem zh_X11_checkState (G : Nat × Nat) : ∀ pc ls st W, ev_ G 17 pc ls st W = zc_X11_checkState G pc (ev_ G) (ev_ G 17) ls st W := fun pc ls st W => ev_eq G 17 pc ls st W
theorem zh_X1_init (G : Nat × Nat) : ∀ pc ls st W, ev_ G 18 pc ls st W = zc_X1_init G pc (ev_ G) (ev_ G 18) ls st W := fun pc ls st W => ev_eq G 18 pc ls st W
theorem zh_J9_max_7cf53 (G : Nat × Nat) : ∀ pc ls st W, ev_ G 19 pc ls st W = zc_J9_max_7cf53 G pc (ev_ G) (ev_ G 19) ls st W := fun pc ls st W => ev_eq G 19 pc ls st W
theorem zh_J8_newLength_cabcc (G : Nat × Nat) : ∀ pc ls st W, ev_ G 20 pc ls st W = zc_J8_newLength_cabcc G pc (ev_ G) (ev_ G 20) ls st W := fun pc ls st W => ev_eq G 20 pc ls st W
theorem zh_J9_min_7cf53 (G : Nat × Nat) : ∀ pc ls st W, ev_ G 21 pc ls st W = zc_J9_min_7cf53 G pc (ev_ G) (ev_ G 21) ls st W := fun pc ls st W => ev_eq G 21 pc ls st W
theorem zh_J7_copyOf_6403c (G : Nat × Nat) : ∀ pc ls st W, ev_ G 22 pc ls st W = zc_J7_copyOf_6403c G pc (ev_ G) (ev_ G 22) ls st W := fun pc ls st W => ev_eq G 22 pc ls st W
theorem zh_J7_copyOf_1904c (G : Nat × Nat) : ∀ pc ls st W, ev_ G 23 pc ls st W = zc_J7_copyOf_1904c G pc (ev_ G) (ev_ G 23) ls st W := fun pc ls st W => ev_eq G 23 pc ls st W
theorem zh_Jx4a65c_grow_92f84 (G : Nat × Nat) : ∀ pc ls st W, ev_ G 24 pc ls st W = zc_Jx4a65c_grow_92f84 G pc (ev_ G) (ev_ G 24) ls st W := fun pc ls st W => ev_eq G 24 pc ls st W
theorem zh_Jx4a65c_grow_d5877 (G : Nat × Nat) : ∀ pc ls st W, ev_ G 25 pc ls st W = zc_Jx4a65c_grow_d5877 G pc (ev_ G) (ev_ G 25) ls st W := fun pc ls st W => ev_eq G 25 pc ls st W
theorem zh_Jx4a65c_add_72be8 (G : Nat × Nat) : ∀ pc ls st W, ev_ G 26 pc ls st W = zc_Jx4a65c_add_72be8 G pc (ev_ G) (ev_ G 26) ls st W := fun pc ls st W => ev_eq G 26 pc ls st W
theorem zh_Jx4a65c_add_9ea2d (G : Nat × Nat) : ∀ pc ls st W, ev_ G 27 pc ls st W = zc_Jx4a65c_add_9ea2d G pc (ev_ G) (ev_ G 27) ls st W := fun pc ls st W => ev_eq G 27 pc ls st W
theorem zh_X4_addBundle (G : Nat × Nat) : ∀ pc ls st W, ev_ G 28 pc ls st W = zc_X4_addBundle G pc (ev_ G) (ev_ G 28) ls st W := fun pc ls st W => ev_eq G 28 pc ls st W
theorem zh_X11_bundle (G : Nat × Nat) : ∀ pc ls st W, ev_ G 29 pc ls st W = zc_X11_bundle G pc (ev_ G) (ev_ G 29) ls st W := fun pc ls st W => ev_eq G 29 pc ls st W
theorem zh_L_bundle (G : Nat × Nat) : ∀ pc ls st W, ev_ G 30 pc ls st W = zc_L_bundle G pc (ev_ G) (ev_ G 30) ls st W := fun pc ls st W => ev_eq G 30 pc ls st W
theorem zh_X12_isIn (G : Nat × Nat) : ∀ pc ls st W, ev_ G 31 pc ls st W = zc_X12_isIn G pc (ev_ G) (ev_ G 31) ls st W := fun pc ls st W => ev_eq G 31 pc ls st W
theorem zh_X12_isNode (G : Nat × Nat) : ∀ pc ls st W, ev_ G 32 pc ls st W = zc_X12_isNode G pc (ev_ G) (ev_ G 32) ls st W := fun pc ls st W => ev_eq G 32 pc ls st W
theorem zh_X12_fails (G : Nat × Nat) : ∀ pc ls st W, ev_ G 33 pc ls st W = zc_X12_fails G pc (ev_ G) (ev_ G 33) ls st W := fun pc ls st W => ev_eq G 33 pc ls st W
theorem zh_X12_bundle (G : Nat × Nat) : ∀ pc ls st W, ev_ G 34 pc ls st W = zc_X12_bundle G pc (ev_ G) (ev_ G 34) ls st W := fun pc ls st W => ev_eq G 34 pc ls st W
theorem zh_X12_thrown (G : Nat × Nat) : ∀ pc ls st W, ev_ G 35 pc ls st W = zc_X12_thrown G pc (ev_ G) (ev_ G 35) ls st W := fun pc ls st W => ev_eq G 35 pc ls st W
theorem zh_X2_init (G : Nat × Nat) : ∀ pc ls st W, ev_ G 36 pc ls st W = zc_X2_init G pc (ev_ G) (ev_ G 36) ls st W := fun pc ls st W => ev_eq G 36 pc ls st W
theorem zh_X4_addConnector (G : Nat × Nat) : ∀ pc ls st W, ev_ G 37 pc ls st W = zc_X4_addConnector G pc (ev_ G) (ev_ G 37) ls st W := fun pc ls st W => ev_eq G 37 pc ls st W
theorem zh_X11_connector (G : Nat × Nat) : ∀ pc ls st W, ev_ G 38 pc ls st W = zc_X11_connector G pc (ev_ G) (ev_ G 38) ls st W := fun pc ls st W => ev_eq G 38 pc ls st W
theorem zh_L_connector (G : Nat × Nat) : ∀ pc ls st W, ev_ G 39 pc ls st W = zc_L_connector G pc (ev_ G) (ev_ G 39) ls st W := fun pc ls st W => ev_eq G 39 pc ls st W
theorem zh_X12_connector (G : Nat × Nat) : ∀ pc ls st W, ev_ G 40 pc ls st W = zc_X12_connector G pc (ev_ G) (ev_ G 40) ls st W := fun pc ls st W => ev_eq G 40 pc ls st W
theorem zh_J3_checkIndex_8e157 (G : Nat × Nat) : ∀ pc ls st W, ev_ G 41 pc ls st W = zc_J3_checkIndex_8e157 G pc (ev_ G) (ev_ G 41) ls st W := fun pc ls st W => ev_eq G 41 pc ls st W
theorem zh_J15_checkIndex_7cf53 (G : Nat × Nat) : ∀ pc ls st W, ev_ G 42 pc ls st W = zc_J15_checkIndex_7cf53 G pc (ev_ G) (ev_ G 42) ls st W := fun pc ls st W => ev_eq G 42 pc ls st W
theorem zh_Jx4a65c_elementData_915e3 (G : Nat × Nat) : ∀ pc ls st W, ev_ G 43 pc ls st W = zc_Jx4a65c_elementData_915e3 G pc (ev_ G) (ev_ G 43) ls st W := fun pc ls st W => ev_eq G 43 pc ls st W
theorem zh_Jx4a65c_get_915e3 (G : Nat × Nat) : ∀ pc ls st W, ev_ G 44 pc ls st W = zc_Jx4a65c_get_915e3 G pc (ev_ G) (ev_ G 44) ls st W := fun pc ls st W => ev_eq G 44 pc ls st W
theorem zh_X11_connectorAt (G : Nat × Nat) : ∀ pc ls st W, ev_ G 45 pc ls st W = zc_X11_connectorAt G pc (ev_ G) (ev_ G 45) ls st W := fun pc ls st W => ev_eq G 45 pc ls st W
theorem zh_X2_fits (G : Nat × Nat) : ∀ pc ls st W, ev_ G 46 pc ls st W = zc_X2_fits G pc (ev_ G) (ev_ G 46) ls st W := fun pc ls st W => ev_eq G 46 pc ls st W
theorem zh_X4_pairsThatFitWrong (G : Nat × Nat) : ∀ pc ls st W, ev_ G 47 pc ls st W = zc_X4_pairsThatFitWrong G pc (ev_ G) (ev_ G 47) ls st W := fun pc ls st W => ev_eq G 47 pc ls st W
theorem zh_X11_mates (G : Nat × Nat) : ∀ pc ls st W, ev_ G 48 pc ls st W = zc_X11_mates G pc (ev_ G) (ev_ G 48) ls st W := fun pc ls st W => ev_eq G 48 pc ls st W
theorem zh_L_mates (G : Nat × Nat) : ∀ pc ls st W, ev_ G 49 pc ls st W = zc_L_mates G pc (ev_ G) (ev_ G 49) ls st W := fun pc ls st W => ev_eq G 49 pc ls st W
theorem zh_X12_isConnector (G : Nat × Nat) : ∀ pc ls st W, ev_ G 50 pc ls st W = zc_X12_isConnector G pc (ev_ G) (ev_ G 50) ls st W := fun pc ls st W => ev_eq G 50 pc ls st W
theorem zh_X12_fit (G : Nat × Nat) : ∀ pc ls st W, ev_ G 51 pc ls st W = zc_X12_fit G pc (ev_ G) (ev_ G 51) ls st W := fun pc ls st W => ev_eq G 51 pc ls st W
theorem zh_X12_mates (G : Nat × Nat) : ∀ pc ls st W, ev_ G 52 pc ls st W = zc_X12_mates G pc (ev_ G) (ev_ G 52) ls st W := fun pc ls st W => ev_eq G 52 pc ls st W
theorem zh_X2_isFree (G : Nat × Nat) : ∀ pc ls st W, ev_ G 53 pc ls st W = zc_X2_isFree G pc (ev_ G) (ev_ G 53) ls st W := fun pc ls st W => ev_eq G 53 pc ls st W
theorem zh_X8_at (G : Nat × Nat) : ∀ pc ls st W, ev_ G 54 pc ls st W = zc_X8_at G pc (ev_ G) (ev_ G 54) ls st W := fun pc ls st W => ev_eq G 54 pc ls st W
theorem zh_X1_cost (G : Nat × Nat) : ∀ pc ls st W, ev_ G 55 pc ls st W = zc_X1_cost G pc (ev_ G) (ev_ G 55) ls st W := fun pc ls st W => ev_eq G 55 pc ls st W
theorem zh_X1_across (G : Nat × Nat) : ∀ pc ls st W, ev_ G 56 pc ls st W = zc_X1_across G pc (ev_ G) (ev_ G 56) ls st W := fun pc ls st W => ev_eq G 56 pc ls st W
theorem zh_X4_lowerCost (G : Nat × Nat) : ∀ pc ls st W, ev_ G 57 pc ls st W = zc_X4_lowerCost G pc (ev_ G) (ev_ G 57) ls st W := fun pc ls st W => ev_eq G 57 pc ls st W
theorem zh_X4_findCosts (G : Nat × Nat) : ∀ pc ls st W, ev_ G 58 pc ls st W = zc_X4_findCosts G pc (ev_ G) (ev_ G 58) ls st W := fun pc ls st W => ev_eq G 58 pc ls st W
theorem zh_X4_hasWay (G : Nat × Nat) : ∀ pc ls st W, ev_ G 59 pc ls st W = zc_X4_hasWay G pc (ev_ G) (ev_ G 59) ls st W := fun pc ls st W => ev_eq G 59 pc ls st W
theorem zh_X10_init (G : Nat × Nat) : ∀ pc ls st W, ev_ G 60 pc ls st W = zc_X10_init G pc (ev_ G) (ev_ G 60) ls st W := fun pc ls st W => ev_eq G 60 pc ls st W
theorem zh_X2_take (G : Nat × Nat) : ∀ pc ls st W, ev_ G 61 pc ls st W = zc_X2_take G pc (ev_ G) (ev_ G 61) ls st W := fun pc ls st W => ev_eq G 61 pc ls st W
theorem zh_X10_putIn (G : Nat × Nat) : ∀ pc ls st W, ev_ G 62 pc ls st W = zc_X10_putIn G pc (ev_ G) (ev_ G 62) ls st W := fun pc ls st W => ev_eq G 62 pc ls st W
theorem zh_X4_lowestOnward (G : Nat × Nat) : ∀ pc ls st W, ev_ G 63 pc ls st W = zc_X4_lowestOnward G pc (ev_ G) (ev_ G 63) ls st W := fun pc ls st W => ev_eq G 63 pc ls st W
theorem zh_X10_goBy (G : Nat × Nat) : ∀ pc ls st W, ev_ G 64 pc ls st W = zc_X10_goBy G pc (ev_ G) (ev_ G 64) ls st W := fun pc ls st W => ev_eq G 64 pc ls st W
theorem zh_X4_layAlong (G : Nat × Nat) : ∀ pc ls st W, ev_ G 65 pc ls st W = zc_X4_layAlong G pc (ev_ G) (ev_ G 65) ls st W := fun pc ls st W => ev_eq G 65 pc ls st W
theorem zh_X4_addWire (G : Nat × Nat) : ∀ pc ls st W, ev_ G 66 pc ls st W = zc_X4_addWire G pc (ev_ G) (ev_ G 66) ls st W := fun pc ls st W => ev_eq G 66 pc ls st W
theorem zh_X11_wire (G : Nat × Nat) : ∀ pc ls st W, ev_ G 67 pc ls st W = zc_X11_wire G pc (ev_ G) (ev_ G 67) ls st W := fun pc ls st W => ev_eq G 67 pc ls st W
theorem zh_L_wire (G : Nat × Nat) : ∀ pc ls st W, ev_ G 68 pc ls st W = zc_L_wire G pc (ev_ G) (ev_ G 68) ls st W := fun pc ls st W => ev_eq G 68 pc ls st W
theorem zh_X12_isCavity (G : Nat × Nat) : ∀ pc ls st W, ev_ G 69 pc ls st W = zc_X12_isCavity G pc (ev_ G) (ev_ G 69) ls st W := fun pc ls st W => ev_eq G 69 pc ls st W
theorem zh_X12_costOf (G : Nat × Nat) : ∀ pc ls st W, ev_ G 70 pc ls st W = zc_X12_costOf G pc (ev_ G) (ev_ G 70) ls st W := fun pc ls st W => ev_eq G 70 pc ls st W
theorem zh_X12_finds (G : Nat × Nat) : ∀ pc ls st W, ev_ G 71 pc ls st W = zc_X12_finds G pc (ev_ G) (ev_ G 71) ls st W := fun pc ls st W => ev_eq G 71 pc ls st W
theorem zh_X12_isTaken (G : Nat × Nat) : ∀ pc ls st W, ev_ G 72 pc ls st W = zc_X12_isTaken G pc (ev_ G) (ev_ G 72) ls st W := fun pc ls st W => ev_eq G 72 pc ls st W
theorem zh_X12_across (G : Nat × Nat) : ∀ pc ls st W, ev_ G 73 pc ls st W = zc_X12_across G pc (ev_ G) (ev_ G 73) ls st W := fun pc ls st W => ev_eq G 73 pc ls st W
theorem zh_X12_lays (G : Nat × Nat) : ∀ pc ls st W, ev_ G 74 pc ls st W = zc_X12_lays G pc (ev_ G) (ev_ G 74) ls st W := fun pc ls st W => ev_eq G 74 pc ls st W
theorem zh_X12_wire (G : Nat × Nat) : ∀ pc ls st W, ev_ G 75 pc ls st W = zc_X12_wire G pc (ev_ G) (ev_ G 75) ls st W := fun pc ls st W => ev_eq G 75 pc ls st W
theorem zh_X11_wireAt (G : Nat × Nat) : ∀ pc ls st W, ev_ G 76 pc ls st W = zc_X11_wireAt G pc (ev_ G) (ev_ G 76) ls st W := fun pc ls st W => ev_eq G 76 pc ls st W
theorem zh_X2_release (G : Nat × Nat) : ∀ pc ls st W, ev_ G 77 pc ls st W = zc_X2_release G pc (ev_ G) (ev_ G 77) ls st W := fun pc ls st W => ev_eq G 77 pc ls st W
theorem zh_X10_takeOut (G : Nat × Nat) : ∀ pc ls st W, ev_ G 78 pc ls st W = zc_X10_takeOut G pc (ev_ G) (ev_ G 78) ls st W := fun pc ls st W => ev_eq G 78 pc ls st W
theorem zh_X11_pull (G : Nat × Nat) : ∀ pc ls st W, ev_ G 79 pc ls st W = zc_X11_pull G pc (ev_ G) (ev_ G 79) ls st W := fun pc ls st W => ev_eq G 79 pc ls st W
theorem zh_L_pull (G : Nat × Nat) : ∀ pc ls st W, ev_ G 80 pc ls st W = zc_L_pull G pc (ev_ G) (ev_ G 80) ls st W := fun pc ls st W => ev_eq G 80 pc ls st W
theorem zh_X12_isWire (G : Nat × Nat) : ∀ pc ls st W, ev_ G 81 pc ls st W = zc_X12_isWire G pc (ev_ G) (ev_ G 81) ls st W := fun pc ls st W => ev_eq G 81 pc ls st W
theorem zh_X12_lengthOf (G : Nat × Nat) : ∀ pc ls st W, ev_ G 82 pc ls st W = zc_X12_lengthOf G pc (ev_ G) (ev_ G 82) ls st W := fun pc ls st W => ev_eq G 82 pc ls st W
theorem zh_X12_pull (G : Nat × Nat) : ∀ pc ls st W, ev_ G 83 pc ls st W = zc_X12_pull G pc (ev_ G) (ev_ G 83) ls st W := fun pc ls st W => ev_eq G 83 pc ls st W
theorem zh_X10_bundleAt (G : Nat × Nat) : ∀ pc ls st W, ev_ G 84 pc ls st W = zc_X10_bundleAt G pc (ev_ G) (ev_ G 84) ls st W := fun pc ls st W => ev_eq G 84 pc ls st W
theorem zh_X11_ofWire (G : Nat × Nat) : ∀ pc ls st W, ev_ G 85 pc ls st W = zc_X11_ofWire G pc (ev_ G) (ev_ G 85) ls st W := fun pc ls st W => ev_eq G 85 pc ls st W
theorem zh_L_ofWire (G : Nat × Nat) : ∀ pc ls st W, ev_ G 86 pc ls st W = zc_L_ofWire G pc (ev_ G) (ev_ G 86) ls st W := fun pc ls st W => ev_eq G 86 pc ls st W
theorem zh_X12_ofWire (G : Nat × Nat) : ∀ pc ls st W, ev_ G 87 pc ls st W = zc_X12_ofWire G pc (ev_ G) (ev_ G 87) ls st W := fun pc ls st W => ev_eq G 87 pc ls st W
theorem zh_X4_weightOf (G : Nat × Nat) : ∀ pc ls st W, ev_ G 88 pc ls st W = zc_X4_weightOf G pc (ev_ G) (ev_ G 88) ls st W := fun pc ls st W => ev_eq G 88 pc ls st W
theorem zh_X11_weight (G : Nat × Nat) : ∀ pc ls st W, ev_ G 89 pc ls st W = zc_X11_weight G pc (ev_ G) (ev_ G 89) ls st W := fun pc ls st W => ev_eq G 89 pc ls st W
theorem zh_L_weight (G : Nat × Nat) : ∀ pc ls st W, ev_ G 90 pc ls st W = zc_L_weight G pc (ev_ G) (ev_ G 90) ls st W := fun pc ls st W => ev_eq G 90 pc ls st W
theorem zh_X12_areOptions (G : Nat × Nat) : ∀ pc ls st W, ev_ G 91 pc ls st W = zc_X12_areOptions G pc (ev_ G) (ev_ G 91) ls st W := fun pc ls st W => ev_eq G 91 pc ls st W
theorem zh_X12_weighs (G : Nat × Nat) : ∀ pc ls st W, ev_ G 92 pc ls st W = zc_X12_weighs G pc (ev_ G) (ev_ G 92) ls st W := fun pc ls st W => ev_eq G 92 pc ls st W
theorem zh_X12_weight (G : Nat × Nat) : ∀ pc ls st W, ev_ G 93 pc ls st W = zc_X12_weight G pc (ev_ G) (ev_ G 93) ls st W := fun pc ls st W => ev_eq G 93 pc ls st W
theorem zh_X5_add (G : Nat × Nat) : ∀ pc ls st W, ev_ G 94 pc ls st W = zc_X5_add G pc (ev_ G) (ev_ G 94) ls st W := fun pc ls st W => ev_eq G 94 pc ls st W
theorem zh_X11_order (G : Nat × Nat) : ∀ pc ls st W, ev_ G 95 pc ls st W = zc_X11_order G pc (ev_ G) (ev_ G 95) ls st W := fun pc ls st W => ev_eq G 95 pc ls st W
theorem zh_L_order (G : Nat × Nat) : ∀ pc ls st W, ev_ G 96 pc ls st W = zc_L_order G pc (ev_ G) (ev_ G 96) ls st W := fun pc ls st W => ev_eq G 96 pc ls st W
theorem zh_X12_order (G : Nat × Nat) : ∀ pc ls st W, ev_ G 97 pc ls st W = zc_X12_order G pc (ev_ G) (ev_ G 97) ls st W := fun pc ls st W => ev_eq G 97 pc ls st W
theorem zh_X5_allOrders (G : Nat × Nat) : ∀ pc ls st W, ev_ G 98 pc ls st W = zc_X5_allOrders G pc (ev_ G) (ev_ G 98) ls st W := fun pc ls st W => ev_eq G 98 pc ls st W
theorem zh_X5_weightAsOne (G : Nat × Nat) : ∀ pc ls st W, ev_ G 99 pc ls st W = zc_X5_weightAsOne G pc (ev_ G) (ev_ G 99) ls st W := fun pc ls st W => ev_eq G 99 pc ls st W
theorem zh_X5_weighSets (G : Nat × Nat) : ∀ pc ls st W, ev_ G 100 pc ls st W = zc_X5_weighSets G pc (ev_ G) (ev_ G 100) ls st W := fun pc ls st W => ev_eq G 100 pc ls st W
theorem zh_X5_leastOfRest (G : Nat × Nat) (d : Nat) : ∀ pc ls st W, ev_ G (d + 1000) pc ls st W = zc_X5_leastOfRest G (d + 1000) pc (ev_ G) (ev_ G (d + 1000)) ls st W := fun pc ls st W => (ev_eq G (d + 1000) pc ls st W).trans (by
  unfold zcode
  rw [show Nat.ble 1000 (d + 1000) = true from Nat.ble_eq_true_of_le (Nat.le_add_left _ _)]
  rfl)
theorem zh_X5_leastByChoice (G : Nat × Nat) : ∀ pc ls st W, ev_ G 102 pc ls st W = zc_X5_leastByChoice G pc (ev_ G) (ev_ G 102) ls st W := fun pc ls st W => ev_eq G 102 pc ls st W
theorem zh_X11_least (G : Nat × Nat) : ∀ pc ls st W, ev_ G 103 pc ls st W = zc_X11_least G pc (ev_ G) (ev_ G 103) ls st W := fun pc ls st W => ev_eq G 103 pc ls st W
theorem zh_L_least (G : Nat × Nat) : ∀ pc ls st W, ev_ G 104 pc ls st W = zc_L_least G pc (ev_ G) (ev_ G 104) ls st W := fun pc ls st W => ev_eq G 104 pc ls st W
theorem zh_X12_weightOfFamilies (G : Nat × Nat) : ∀ pc ls st W, ev_ G 105 pc ls st W = zc_X12_weightOfFamilies G pc (ev_ G) (ev_ G 105) ls st W := fun pc ls st W => ev_eq G 105 pc ls st W
theorem zh_X12_leastOf (G : Nat × Nat) : ∀ pc ls st W, ev_ G 106 pc ls st W = zc_X12_leastOf G pc (ev_ G) (ev_ G 106) ls st W := fun pc ls st W => ev_eq G 106 pc ls st W
theorem zh_X12_least (G : Nat × Nat) : ∀ pc ls st W, ev_ G 107 pc ls st W = zc_X12_least G pc (ev_ G) (ev_ G 107) ls st W := fun pc ls st W => ev_eq G 107 pc ls st W
theorem zh_X5_leastWithOneMore (G : Nat × Nat) : ∀ pc ls st W, ev_ G 108 pc ls st W = zc_X5_leastWithOneMore G pc (ev_ G) (ev_ G 108) ls st W := fun pc ls st W => ev_eq G 108 pc ls st W
theorem zh_X5_addFamily (G : Nat × Nat) : ∀ pc ls st W, ev_ G 109 pc ls st W = zc_X5_addFamily G pc (ev_ G) (ev_ G 109) ls st W := fun pc ls st W => ev_eq G 109 pc ls st W
theorem zh_X5_leastByTable (G : Nat × Nat) : ∀ pc ls st W, ev_ G 110 pc ls st W = zc_X5_leastByTable G pc (ev_ G) (ev_ G 110) ls st W := fun pc ls st W => ev_eq G 110 pc ls st W
theorem zh_X11_leastAnew (G : Nat × Nat) : ∀ pc ls st W, ev_ G 111 pc ls st W = zc_X11_leastAnew G pc (ev_ G) (ev_ G 111) ls st W := fun pc ls st W => ev_eq G 111 pc ls st W
theorem zh_L_leastAnew (G : Nat × Nat) : ∀ pc ls st W, ev_ G 112 pc ls st W = zc_L_leastAnew G pc (ev_ G) (ev_ G 112) ls st W := fun pc ls st W => ev_eq G 112 pc ls st W
theorem zh_X12_leastAnew (G : Nat × Nat) : ∀ pc ls st W, ev_ G 113 pc ls st W = zc_X12_leastAnew G pc (ev_ G) (ev_ G 113) ls st W := fun pc ls st W => ev_eq G 113 pc ls st W
theorem zh_J9_floorDiv_7cf53 (G : Nat × Nat) : ∀ pc ls st W, ev_ G 114 pc ls st W = zc_J9_floorDiv_7cf53 G pc (ev_ G) (ev_ G 114) ls st W := fun pc ls st W => ev_eq G 114 pc ls st W
theorem zh_X11_divideDown (G : Nat × Nat) : ∀ pc ls st W, ev_ G 115 pc ls st W = zc_X11_divideDown G pc (ev_ G) (ev_ G 115) ls st W := fun pc ls st W => ev_eq G 115 pc ls st W
theorem zh_X3_window (G : Nat × Nat) : ∀ pc ls st W, ev_ G 116 pc ls st W = zc_X3_window G pc (ev_ G) (ev_ G 116) ls st W := fun pc ls st W => ev_eq G 116 pc ls st W
theorem zh_J9_abs_0f7a4 (G : Nat × Nat) : ∀ pc ls st W, ev_ G 117 pc ls st W = zc_J9_abs_0f7a4 G pc (ev_ G) (ev_ G 117) ls st W := fun pc ls st W => ev_eq G 117 pc ls st W
theorem zh_X3_judge (G : Nat × Nat) : ∀ pc ls st W, ev_ G 118 pc ls st W = zc_X3_judge G pc (ev_ G) (ev_ G 118) ls st W := fun pc ls st W => ev_eq G 118 pc ls st W
theorem zh_X11_crimp (G : Nat × Nat) : ∀ pc ls st W, ev_ G 119 pc ls st W = zc_X11_crimp G pc (ev_ G) (ev_ G 119) ls st W := fun pc ls st W => ev_eq G 119 pc ls st W
theorem zh_L_crimp (G : Nat × Nat) : ∀ pc ls st W, ev_ G 120 pc ls st W = zc_L_crimp G pc (ev_ G) (ev_ G 120) ls st W := fun pc ls st W => ev_eq G 120 pc ls st W
theorem zh_X12_window (G : Nat × Nat) : ∀ pc ls st W, ev_ G 121 pc ls st W = zc_X12_window G pc (ev_ G) (ev_ G 121) ls st W := fun pc ls st W => ev_eq G 121 pc ls st W
theorem zh_X12_crimp (G : Nat × Nat) : ∀ pc ls st W, ev_ G 122 pc ls st W = zc_X12_crimp G pc (ev_ G) (ev_ G 122) ls st W := fun pc ls st W => ev_eq G 122 pc ls st W
theorem zh_X11_crimps (G : Nat × Nat) : ∀ pc ls st W, ev_ G 123 pc ls st W = zc_X11_crimps G pc (ev_ G) (ev_ G 123) ls st W := fun pc ls st W => ev_eq G 123 pc ls st W
theorem zh_L_crimps (G : Nat × Nat) : ∀ pc ls st W, ev_ G 124 pc ls st W = zc_L_crimps G pc (ev_ G) (ev_ G 124) ls st W := fun pc ls st W => ev_eq G 124 pc ls st W
theorem zh_X12_crimps (G : Nat × Nat) : ∀ pc ls st W, ev_ G 125 pc ls st W = zc_X12_crimps G pc (ev_ G) (ev_ G 125) ls st W := fun pc ls st W => ev_eq G 125 pc ls st W
theorem zh_X7_init (G : Nat × Nat) : ∀ pc ls st W, ev_ G 126 pc ls st W = zc_X7_init G pc (ev_ G) (ev_ G 126) ls st W := fun pc ls st W => ev_eq G 126 pc ls st W
theorem zh_X11_reel (G : Nat × Nat) : ∀ pc ls st W, ev_ G 127 pc ls st W = zc_X11_reel G pc (ev_ G) (ev_ G 127) ls st W := fun pc ls st W => ev_eq G 127 pc ls st W
theorem zh_L_reel (G : Nat × Nat) : ∀ pc ls st W, ev_ G 128 pc ls st W = zc_L_reel G pc (ev_ G) (ev_ G 128) ls st W := fun pc ls st W => ev_eq G 128 pc ls st W
theorem zh_X12_reel (G : Nat × Nat) : ∀ pc ls st W, ev_ G 129 pc ls st W = zc_X12_reel G pc (ev_ G) (ev_ G 129) ls st W := fun pc ls st W => ev_eq G 129 pc ls st W
theorem zh_X11_reelAt (G : Nat × Nat) : ∀ pc ls st W, ev_ G 130 pc ls st W = zc_X11_reelAt G pc (ev_ G) (ev_ G 130) ls st W := fun pc ls st W => ev_eq G 130 pc ls st W
theorem zh_X7_beginClock (G : Nat × Nat) : ∀ pc ls st W, ev_ G 131 pc ls st W = zc_X7_beginClock G pc (ev_ G) (ev_ G 131) ls st W := fun pc ls st W => ev_eq G 131 pc ls st W
theorem zh_X7_clockAt (G : Nat × Nat) : ∀ pc ls st W, ev_ G 132 pc ls st W = zc_X7_clockAt G pc (ev_ G) (ev_ G 132) ls st W := fun pc ls st W => ev_eq G 132 pc ls st W
theorem zh_X11_open (G : Nat × Nat) : ∀ pc ls st W, ev_ G 133 pc ls st W = zc_X11_open G pc (ev_ G) (ev_ G 133) ls st W := fun pc ls st W => ev_eq G 133 pc ls st W
theorem zh_L_open (G : Nat × Nat) : ∀ pc ls st W, ev_ G 134 pc ls st W = zc_L_open G pc (ev_ G) (ev_ G 134) ls st W := fun pc ls st W => ev_eq G 134 pc ls st W
theorem zh_X12_isReel (G : Nat × Nat) : ∀ pc ls st W, ev_ G 135 pc ls st W = zc_X12_isReel G pc (ev_ G) (ev_ G 135) ls st W := fun pc ls st W => ev_eq G 135 pc ls st W
theorem zh_X12_runs (G : Nat × Nat) : ∀ pc ls st W, ev_ G 136 pc ls st W = zc_X12_runs G pc (ev_ G) (ev_ G 136) ls st W := fun pc ls st W => ev_eq G 136 pc ls st W
theorem zh_X12_open (G : Nat × Nat) : ∀ pc ls st W, ev_ G 137 pc ls st W = zc_X12_open G pc (ev_ G) (ev_ G 137) ls st W := fun pc ls st W => ev_eq G 137 pc ls st W
theorem zh_X11_ofReel (G : Nat × Nat) : ∀ pc ls st W, ev_ G 138 pc ls st W = zc_X11_ofReel G pc (ev_ G) (ev_ G 138) ls st W := fun pc ls st W => ev_eq G 138 pc ls st W
theorem zh_L_ofReel (G : Nat × Nat) : ∀ pc ls st W, ev_ G 139 pc ls st W = zc_L_ofReel G pc (ev_ G) (ev_ G 139) ls st W := fun pc ls st W => ev_eq G 139 pc ls st W
theorem zh_X12_ofReel (G : Nat × Nat) : ∀ pc ls st W, ev_ G 140 pc ls st W = zc_X12_ofReel G pc (ev_ G) (ev_ G 140) ls st W := fun pc ls st W => ev_eq G 140 pc ls st W
theorem zh_X9_init (G : Nat × Nat) : ∀ pc ls st W, ev_ G 141 pc ls st W = zc_X9_init G pc (ev_ G) (ev_ G 141) ls st W := fun pc ls st W => ev_eq G 141 pc ls st W
theorem zh_X0_init (G : Nat × Nat) : ∀ pc ls st W, ev_ G 142 pc ls st W = zc_X0_init G pc (ev_ G) (ev_ G 142) ls st W := fun pc ls st W => ev_eq G 142 pc ls st W
theorem zh_X11_board (G : Nat × Nat) : ∀ pc ls st W, ev_ G 143 pc ls st W = zc_X11_board G pc (ev_ G) (ev_ G 143) ls st W := fun pc ls st W => ev_eq G 143 pc ls st W
theorem zh_L_board (G : Nat × Nat) : ∀ pc ls st W, ev_ G 144 pc ls st W = zc_L_board G pc (ev_ G) (ev_ G 144) ls st W := fun pc ls st W => ev_eq G 144 pc ls st W
theorem zh_X12_board (G : Nat × Nat) : ∀ pc ls st W, ev_ G 145 pc ls st W = zc_X12_board G pc (ev_ G) (ev_ G 145) ls st W := fun pc ls st W => ev_eq G 145 pc ls st W
theorem zh_X11_boardAt (G : Nat × Nat) : ∀ pc ls st W, ev_ G 146 pc ls st W = zc_X11_boardAt G pc (ev_ G) (ev_ G 146) ls st W := fun pc ls st W => ev_eq G 146 pc ls st W
theorem zh_X0_slotAt (G : Nat × Nat) : ∀ pc ls st W, ev_ G 147 pc ls st W = zc_X0_slotAt G pc (ev_ G) (ev_ G 147) ls st W := fun pc ls st W => ev_eq G 147 pc ls st W
theorem zh_X9_hasPart (G : Nat × Nat) : ∀ pc ls st W, ev_ G 148 pc ls st W = zc_X9_hasPart G pc (ev_ G) (ev_ G 148) ls st W := fun pc ls st W => ev_eq G 148 pc ls st W
theorem zh_X7_gives (G : Nat × Nat) : ∀ pc ls st W, ev_ G 149 pc ls st W = zc_X7_gives G pc (ev_ G) (ev_ G 149) ls st W := fun pc ls st W => ev_eq G 149 pc ls st W
theorem zh_X9_fill (G : Nat × Nat) : ∀ pc ls st W, ev_ G 150 pc ls st W = zc_X9_fill G pc (ev_ G) (ev_ G 150) ls st W := fun pc ls st W => ev_eq G 150 pc ls st W
theorem zh_X11_place (G : Nat × Nat) : ∀ pc ls st W, ev_ G 151 pc ls st W = zc_X11_place G pc (ev_ G) (ev_ G 151) ls st W := fun pc ls st W => ev_eq G 151 pc ls st W
theorem zh_L_place (G : Nat × Nat) : ∀ pc ls st W, ev_ G 152 pc ls st W = zc_L_place G pc (ev_ G) (ev_ G 152) ls st W := fun pc ls st W => ev_eq G 152 pc ls st W
theorem zh_X12_isBoard (G : Nat × Nat) : ∀ pc ls st W, ev_ G 153 pc ls st W = zc_X12_isBoard G pc (ev_ G) (ev_ G 153) ls st W := fun pc ls st W => ev_eq G 153 pc ls st W
theorem zh_X12_isSlot (G : Nat × Nat) : ∀ pc ls st W, ev_ G 154 pc ls st W = zc_X12_isSlot G pc (ev_ G) (ev_ G 154) ls st W := fun pc ls st W => ev_eq G 154 pc ls st W
theorem zh_X12_gives (G : Nat × Nat) : ∀ pc ls st W, ev_ G 155 pc ls st W = zc_X12_gives G pc (ev_ G) (ev_ G 155) ls st W := fun pc ls st W => ev_eq G 155 pc ls st W
theorem zh_X12_place (G : Nat × Nat) : ∀ pc ls st W, ev_ G 156 pc ls st W = zc_X12_place G pc (ev_ G) (ev_ G 156) ls st W := fun pc ls st W => ev_eq G 156 pc ls st W
theorem zh_X11_limits (G : Nat × Nat) : ∀ pc ls st W, ev_ G 157 pc ls st W = zc_X11_limits G pc (ev_ G) (ev_ G 157) ls st W := fun pc ls st W => ev_eq G 157 pc ls st W
theorem zh_L_limits (G : Nat × Nat) : ∀ pc ls st W, ev_ G 158 pc ls st W = zc_L_limits G pc (ev_ G) (ev_ G 158) ls st W := fun pc ls st W => ev_eq G 158 pc ls st W
theorem zh_X12_limits (G : Nat × Nat) : ∀ pc ls st W, ev_ G 159 pc ls st W = zc_X12_limits G pc (ev_ G) (ev_ G 159) ls st W := fun pc ls st W => ev_eq G 159 pc ls st W
theorem zh_X8_copyFrom (G : Nat × Nat) : ∀ pc ls st W, ev_ G 160 pc ls st W = zc_X8_copyFrom G pc (ev_ G) (ev_ G 160) ls st W := fun pc ls st W => ev_eq G 160 pc ls st W
theorem zh_X0_mass (G : Nat × Nat) : ∀ pc ls st W, ev_ G 161 pc ls st W = zc_X0_mass G pc (ev_ G) (ev_ G 161) ls st W := fun pc ls st W => ev_eq G 161 pc ls st W
theorem zh_X6_peakOf (G : Nat × Nat) : ∀ pc ls st W, ev_ G 162 pc ls st W = zc_X6_peakOf G pc (ev_ G) (ev_ G 162) ls st W := fun pc ls st W => ev_eq G 162 pc ls st W
theorem zh_X0_peak (G : Nat × Nat) : ∀ pc ls st W, ev_ G 163 pc ls st W = zc_X0_peak G pc (ev_ G) (ev_ G 163) ls st W := fun pc ls st W => ev_eq G 163 pc ls st W
theorem zh_X9_jointFor (G : Nat × Nat) : ∀ pc ls st W, ev_ G 164 pc ls st W = zc_X9_jointFor G pc (ev_ G) (ev_ G 164) ls st W := fun pc ls st W => ev_eq G 164 pc ls st W
theorem zh_X9_join (G : Nat × Nat) : ∀ pc ls st W, ev_ G 165 pc ls st W = zc_X9_join G pc (ev_ G) (ev_ G 165) ls st W := fun pc ls st W => ev_eq G 165 pc ls st W
theorem zh_X0_goThrough (G : Nat × Nat) : ∀ pc ls st W, ev_ G 166 pc ls st W = zc_X0_goThrough G pc (ev_ G) (ev_ G 166) ls st W := fun pc ls st W => ev_eq G 166 pc ls st W
theorem zh_X11_solder (G : Nat × Nat) : ∀ pc ls st W, ev_ G 167 pc ls st W = zc_X11_solder G pc (ev_ G) (ev_ G 167) ls st W := fun pc ls st W => ev_eq G 167 pc ls st W
theorem zh_L_solder (G : Nat × Nat) : ∀ pc ls st W, ev_ G 168 pc ls st W = zc_L_solder G pc (ev_ G) (ev_ G 168) ls st W := fun pc ls st W => ev_eq G 168 pc ls st W
theorem zh_X12_down (G : Nat × Nat) : ∀ pc ls st W, ev_ G 169 pc ls st W = zc_X12_down G pc (ev_ G) (ev_ G 169) ls st W := fun pc ls st W => ev_eq G 169 pc ls st W
theorem zh_X12_peakOf (G : Nat × Nat) : ∀ pc ls st W, ev_ G 170 pc ls st W = zc_X12_peakOf G pc (ev_ G) (ev_ G 170) ls st W := fun pc ls st W => ev_eq G 170 pc ls st W
theorem zh_X12_solder (G : Nat × Nat) : ∀ pc ls st W, ev_ G 171 pc ls st W = zc_X12_solder G pc (ev_ G) (ev_ G 171) ls st W := fun pc ls st W => ev_eq G 171 pc ls st W
theorem zh_X11_flaw (G : Nat × Nat) : ∀ pc ls st W, ev_ G 172 pc ls st W = zc_X11_flaw G pc (ev_ G) (ev_ G 172) ls st W := fun pc ls st W => ev_eq G 172 pc ls st W
theorem zh_L_flaw (G : Nat × Nat) : ∀ pc ls st W, ev_ G 173 pc ls st W = zc_L_flaw G pc (ev_ G) (ev_ G 173) ls st W := fun pc ls st W => ev_eq G 173 pc ls st W
theorem zh_X12_flaw (G : Nat × Nat) : ∀ pc ls st W, ev_ G 174 pc ls st W = zc_X12_flaw G pc (ev_ G) (ev_ G 174) ls st W := fun pc ls st W => ev_eq G 174 pc ls st W
theorem zh_J6_bitCount_0f7a4 (G : Nat × Nat) : ∀ pc ls st W, ev_ G 175 pc ls st W = zc_J6_bitCount_0f7a4 G pc (ev_ G) (ev_ G 175) ls st W := fun pc ls st W => ev_eq G 175 pc ls st W
theorem zh_X11_cover (G : Nat × Nat) : ∀ pc ls st W, ev_ G 176 pc ls st W = zc_X11_cover G pc (ev_ G) (ev_ G 176) ls st W := fun pc ls st W => ev_eq G 176 pc ls st W
theorem zh_L_cover (G : Nat × Nat) : ∀ pc ls st W, ev_ G 177 pc ls st W = zc_L_cover G pc (ev_ G) (ev_ G 177) ls st W := fun pc ls st W => ev_eq G 177 pc ls st W
theorem zh_X12_cover (G : Nat × Nat) : ∀ pc ls st W, ev_ G 178 pc ls st W = zc_X12_cover G pc (ev_ G) (ev_ G 178) ls st W := fun pc ls st W => ev_eq G 178 pc ls st W
theorem zh_X0_findFaults (G : Nat × Nat) : ∀ pc ls st W, ev_ G 179 pc ls st W = zc_X0_findFaults G pc (ev_ G) (ev_ G 179) ls st W := fun pc ls st W => ev_eq G 179 pc ls st W
theorem zh_X0_faultsFound (G : Nat × Nat) : ∀ pc ls st W, ev_ G 180 pc ls st W = zc_X0_faultsFound G pc (ev_ G) (ev_ G 180) ls st W := fun pc ls st W => ev_eq G 180 pc ls st W
theorem zh_X11_test (G : Nat × Nat) : ∀ pc ls st W, ev_ G 181 pc ls st W = zc_X11_test G pc (ev_ G) (ev_ G 181) ls st W := fun pc ls st W => ev_eq G 181 pc ls st W
theorem zh_L_test (G : Nat × Nat) : ∀ pc ls st W, ev_ G 182 pc ls st W = zc_L_test G pc (ev_ G) (ev_ G 182) ls st W := fun pc ls st W => ev_eq G 182 pc ls st W
theorem zh_X12_faults (G : Nat × Nat) : ∀ pc ls st W, ev_ G 183 pc ls st W = zc_X12_faults G pc (ev_ G) (ev_ G 183) ls st W := fun pc ls st W => ev_eq G 183 pc ls st W
theorem zh_X12_test (G : Nat × Nat) : ∀ pc ls st W, ev_ G 184 pc ls st W = zc_X12_test G pc (ev_ G) (ev_ G 184) ls st W := fun pc ls st W => ev_eq G 184 pc ls st W
theorem zh_X9_mend (G : Nat × Nat) : ∀ pc ls st W, ev_ G 185 pc ls st W = zc_X9_mend G pc (ev_ G) (ev_ G 185) ls st W := fun pc ls st W => ev_eq G 185 pc ls st W
theorem zh_X11_repair (G : Nat × Nat) : ∀ pc ls st W, ev_ G 186 pc ls st W = zc_X11_repair G pc (ev_ G) (ev_ G 186) ls st W := fun pc ls st W => ev_eq G 186 pc ls st W
theorem zh_L_repair (G : Nat × Nat) : ∀ pc ls st W, ev_ G 187 pc ls st W = zc_L_repair G pc (ev_ G) (ev_ G 187) ls st W := fun pc ls st W => ev_eq G 187 pc ls st W
theorem zh_X12_repair (G : Nat × Nat) : ∀ pc ls st W, ev_ G 188 pc ls st W = zc_X12_repair G pc (ev_ G) (ev_ G 188) ls st W := fun pc ls st W => ev_eq G 188 pc ls st W
theorem zh_X11_ship (G : Nat × Nat) : ∀ pc ls st W, ev_ G 189 pc ls st W = zc_X11_ship G pc (ev_ G) (ev_ G 189) ls st W := fun pc ls st W => ev_eq G 189 pc ls st W
theorem zh_L_ship (G : Nat × Nat) : ∀ pc ls st W, ev_ G 190 pc ls st W = zc_L_ship G pc (ev_ G) (ev_ G 190) ls st W := fun pc ls st W => ev_eq G 190 pc ls st W
theorem zh_X12_ship (G : Nat × Nat) : ∀ pc ls st W, ev_ G 191 pc ls st W = zc_X12_ship G pc (ev_ G) (ev_ G 191) ls st W := fun pc ls st W => ev_eq G 191 pc ls st W
theorem zh_X11_pass (G : Nat × Nat) : ∀ pc ls st W, ev_ G 192 pc ls st W = zc_X11_pass G pc (ev_ G) (ev_ G 192) ls st W := fun pc ls st W => ev_eq G 192 pc ls st W
theorem zh_L_pass (G : Nat × Nat) : ∀ pc ls st W, ev_ G 193 pc ls st W = zc_L_pass G pc (ev_ G) (ev_ G 193) ls st W := fun pc ls st W => ev_eq G 193 pc ls st W
theorem zh_X12_pass (G : Nat × Nat) : ∀ pc ls st W, ev_ G 194 pc ls st W = zc_X12_pass G pc (ev_ G) (ev_ G 194) ls st W := fun pc ls st W => ev_eq G 194 pc ls st W
theorem zh_X11_ofSlot (G : Nat × Nat) : ∀ pc ls st W, ev_ G 195 pc ls st W = zc_X11_ofSlot G pc (ev_ G) (ev_ G 195) ls st W := fun pc ls st W => ev_eq G 195 pc ls st W
theorem zh_L_ofSlot (G : Nat × Nat) : ∀ pc ls st W, ev_ G 196 pc ls st W = zc_L_ofSlot G pc (ev_ G) (ev_ G 196) ls st W := fun pc ls st W => ev_eq G 196 pc ls st W
theorem zh_X12_ofSlot (G : Nat × Nat) : ∀ pc ls st W, ev_ G 197 pc ls st W = zc_X12_ofSlot G pc (ev_ G) (ev_ G 197) ls st W := fun pc ls st W => ev_eq G 197 pc ls st W
theorem zh_X11_jointAnew (G : Nat × Nat) : ∀ pc ls st W, ev_ G 198 pc ls st W = zc_X11_jointAnew G pc (ev_ G) (ev_ G 198) ls st W := fun pc ls st W => ev_eq G 198 pc ls st W
theorem zh_L_jointAnew (G : Nat × Nat) : ∀ pc ls st W, ev_ G 199 pc ls st W = zc_L_jointAnew G pc (ev_ G) (ev_ G 199) ls st W := fun pc ls st W => ev_eq G 199 pc ls st W
theorem zh_X12_jointAnew (G : Nat × Nat) : ∀ pc ls st W, ev_ G 200 pc ls st W = zc_X12_jointAnew G pc (ev_ G) (ev_ G 200) ls st W := fun pc ls st W => ev_eq G 200 pc ls st W
theorem zh_X0_hasPartOf (G : Nat × Nat) : ∀ pc ls st W, ev_ G 201 pc ls st W = zc_X0_hasPartOf G pc (ev_ G) (ev_ G 201) ls st W := fun pc ls st W => ev_eq G 201 pc ls st W
theorem zh_X11_recall (G : Nat × Nat) : ∀ pc ls st W, ev_ G 202 pc ls st W = zc_X11_recall G pc (ev_ G) (ev_ G 202) ls st W := fun pc ls st W => ev_eq G 202 pc ls st W
theorem zh_L_recall (G : Nat × Nat) : ∀ pc ls st W, ev_ G 203 pc ls st W = zc_L_recall G pc (ev_ G) (ev_ G 203) ls st W := fun pc ls st W => ev_eq G 203 pc ls st W
theorem zh_X12_recall (G : Nat × Nat) : ∀ pc ls st W, ev_ G 204 pc ls st W = zc_X12_recall G pc (ev_ G) (ev_ G 204) ls st W := fun pc ls st W => ev_eq G 204 pc ls st W
theorem zh_L_law (G : Nat × Nat) : ∀ pc ls st W, ev_ G 205 pc ls st W = zc_L_law G pc (ev_ G) (ev_ G 205) ls st W := fun pc ls st W => ev_eq G 205 pc ls st W
