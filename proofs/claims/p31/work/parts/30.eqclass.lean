/-! the class: its stretches, by program -/
set_option maxRecDepth 100000 in
theorem q_Jxa1e45_init_da8c8_0 (G : Nat × Nat) (a0 : Nat) (W : zW) : ev_ G 0 0 [.ref a0] [] W =
 some (.inl none, W) :=
 (zx_st (zh_Jxa1e45_init_da8c8 G) [] 400 0 _ _ _).trans rfl
set_option maxRecDepth 100000 in
theorem q_Jxc12de_init_da8c8_0 (G : Nat × Nat) (a0 : Nat) (W : zW) : ev_ G 1 0 [.ref a0] [] W =
 zthV (ev_ G 0 0 [.ref a0] [] W)
  (fun W1 =>
 (zpt 0 0 W1 a0 (.int 0)).bind fun W3 =>
  some (.inl none, W3))
  zxe :=
 (zx_st (zh_Jxc12de_init_da8c8 G) [] 400 0 _ _ _).trans rfl
set_option maxRecDepth 100000 in
theorem q_Jx4a65c_init_da8c8_0 (G : Nat × Nat) (a0 : Nat) (W : zW) : ev_ G 2 0 [.ref a0] [] W =
 zthV (ev_ G 1 0 [.ref a0] [] W)
  (fun W1 =>
 (zpt 0 1 W1 a0 (.ref G.1)).bind fun W3 =>
  some (.inl none, W3))
  zxe :=
 (zx_st (zh_Jx4a65c_init_da8c8 G) [] 400 0 _ _ _).trans rfl
set_option maxRecDepth 100000 in
theorem q_X8_init_0 (G : Nat × Nat) (a0 : Nat) (x1 : Int32) (W : zW) : ev_ G 3 0 [.ref a0, .int x1] [] W =
 if 0 ≤ x1 then
  (if zbad x1 then none else
   (zpt 9 0 (znai 0 x1 W) a0 (.ref W.1)).bind fun W1 =>
   some (.inl none, W1))
 else
  if zbad 0 then none else
  (zpt 9 0 (znai 0 0 W) a0 (.ref W.1)).bind fun W2 =>
  some (.inl none, W2) :=
 (zx_st (zh_X8_init G) [] 400 0 _ _ _).trans rfl
set_option maxRecDepth 100000 in
theorem q_X4_init_0 (G : Nat × Nat) (a0 : Nat) (W : zW) : ev_ G 4 0 [.ref a0] [] W =
 zthV (ev_ G 2 0 [.ref W.1] [] (znew 0 3 [.int 0, .null, .int 0] W))
  (fun W1 =>
 (zpt 5 0 W1 a0 (.ref W.1)).bind fun W3 =>
  zthV (ev_ G 2 0 [.ref W3.1] [] (znew 0 3 [.int 0, .null, .int 0] W3))
   (fun W4 =>
  (zpt 5 1 W4 a0 (.ref W3.1)).bind fun W6 =>
   zthV (ev_ G 2 0 [.ref W6.1] [] (znew 0 3 [.int 0, .null, .int 0] W6))
    (fun W7 =>
   (zpt 5 2 W7 a0 (.ref W6.1)).bind fun W9 =>
    zthV (ev_ G 3 0 [.ref W9.1, .int 8] [] (znew 9 1 [.null] W9))
     (fun W10 =>
    (zpt 5 3 W10 a0 (.ref W9.1)).bind fun W12 =>
     some (.inl none, W12))
     zxe)
    zxe)
   zxe)
  zxe :=
 (zx_st (zh_X4_init G) [] 400 0 _ _ _).trans rfl
set_option maxRecDepth 100000 in
theorem q_X5_init_0 (G : Nat × Nat) (a0 : Nat) (W : zW) : ev_ G 5 0 [.ref a0] [] W =
 zthV (ev_ G 3 0 [.ref W.1, .int 5] [] (znew 9 1 [.null] W))
  (fun W1 =>
 (zpt 6 0 W1 a0 (.ref W.1)).bind fun W3 =>
  zthV (ev_ G 3 0 [.ref W3.1, .int 5] [] (znew 9 1 [.null] W3))
   (fun W4 =>
  (zpt 6 1 W4 a0 (.ref W3.1)).bind fun W6 =>
   zthV (ev_ G 3 0 [.ref W6.1, .int 32] [] (znew 9 1 [.null] W6))
    (fun W7 =>
   (zpt 6 2 W7 a0 (.ref W6.1)).bind fun W9 =>
    zthV (ev_ G 3 0 [.ref W9.1, .int 32] [] (znew 9 1 [.null] W9))
     (fun W10 =>
    (zpt 6 3 W10 a0 (.ref W9.1)).bind fun W12 =>
     some (.inl none, W12))
     zxe)
    zxe)
   zxe)
  zxe :=
 (zx_st (zh_X5_init G) [] 400 0 _ _ _).trans rfl
set_option maxRecDepth 100000 in
theorem q_X3_init_0 (G : Nat × Nat) (a0 : Nat) (W : zW) : ev_ G 6 0 [.ref a0] [] W =
 zthV (ev_ G 3 0 [.ref W.1, .int 8] [] (znew 9 1 [.null] W))
  (fun W1 =>
 (zpt 4 2 W1 a0 (.ref W.1)).bind fun W3 =>
  some (.inl none, W3))
  zxe :=
 (zx_st (zh_X3_init G) [] 400 0 _ _ _).trans rfl
set_option maxRecDepth 100000 in
theorem q_X8_put_0 (G : Nat × Nat) (a0 : Nat) (x1 : Int32) (x2 : Int32) (W : zW) : ev_ G 7 0 [.ref a0, .int x1, .int x2] [] W =
 if x1 < 0 then
  (some (.inl none, W))
 else
  (zgR 9 0 W a0).bind fun t1 =>
  (zlen W t1).bind fun t2 =>
  if (t2 ≤ x1 : Prop) then
   (some (.inl none, W))
  else
   (zgR 9 0 W a0).bind fun t3 =>
   (zsto 0 W t3 x1 x2).bind fun W4 =>
   some (.inl none, W4) :=
 (zx_st (zh_X8_put G) [] 400 0 _ _ _).trans rfl
set_option maxRecDepth 100000 in
theorem q_X8_fill_0 (G : Nat × Nat) (a0 : Nat) (x1 : Int32) (W : zW) : ev_ G 8 0 [.ref a0, .int x1, zU] [] W =
 ev_ G 8 2 [.ref a0, .int x1, .int 0] [] W :=
 (zx_st (zh_X8_fill G) [2] 400 0 _ _ _).trans rfl
set_option maxRecDepth 100000 in
theorem q_X8_fill_2 (G : Nat × Nat) (a0 : Nat) (x1 : Int32) (x2 : Int32) (W : zW) : ev_ G 8 2 [.ref a0, .int x1, .int x2] [] W =
 (zgR 9 0 W a0).bind fun t1 =>
 (zlen W t1).bind fun t2 =>
 if (t2 ≤ x2 : Prop) then
  (some (.inl none, W))
 else
  (zgR 9 0 W a0).bind fun t3 =>
  (zsto 0 W t3 x2 x1).bind fun W4 =>
  ev_ G 8 2 [.ref a0, .int x1, .int (x2 + 1)] [] W4 :=
 (zx_st (zh_X8_fill G) [2] 400 2 _ _ _).trans rfl
set_option maxRecDepth 100000 in
theorem q_X6_init_0 (G : Nat × Nat) (a0 : Nat) (W : zW) : ev_ G 9 0 [.ref a0] [] W =
 zthV (ev_ G 3 0 [.ref W.1, .int 4] [] (znew 9 1 [.null] W))
  (fun W1 =>
 (zpt 7 0 W1 a0 (.ref W.1)).bind fun W3 =>
  zthV (ev_ G 3 0 [.ref W3.1, .int 6] [] (znew 9 1 [.null] W3))
   (fun W4 =>
  (zpt 7 1 W4 a0 (.ref W3.1)).bind fun W6 =>
   zthV (ev_ G 3 0 [.ref W6.1, .int 6] [] (znew 9 1 [.null] W6))
    (fun W7 =>
   (zpt 7 2 W7 a0 (.ref W6.1)).bind fun W9 =>
    (zgR 7 0 W9 a0).bind fun t10 =>
    zthV (zck 9 W9 t10 (ev_ G 7 0 [.ref t10, .int 0, .int 150] [] W9))
     (fun W11 =>
    (zgR 7 0 W11 a0).bind fun t13 =>
     zthV (zck 9 W11 t13 (ev_ G 7 0 [.ref t13, .int 1, .int 200] [] W11))
      (fun W14 =>
     (zgR 7 0 W14 a0).bind fun t16 =>
      zthV (zck 9 W14 t16 (ev_ G 7 0 [.ref t16, .int 2, .int 240] [] W14))
       (fun W17 =>
      (zgR 7 0 W17 a0).bind fun t19 =>
       zthV (zck 9 W17 t19 (ev_ G 7 0 [.ref t19, .int 3, .int 100] [] W17))
        (fun W20 =>
       (zgR 7 1 W20 a0).bind fun t22 =>
        zthV (zck 9 W20 t22 (ev_ G 8 0 [.ref t22, .int 180, zU] [] W20))
         (fun W23 =>
        (zgR 7 2 W23 a0).bind fun t25 =>
         zthV (zck 9 W23 t25 (ev_ G 8 0 [.ref t25, .int 260, zU] [] W23))
          (fun W26 =>
         some (.inl none, W26))
          zxe)
         zxe)
        zxe)
       zxe)
      zxe)
     zxe)
    zxe)
   zxe)
  zxe :=
 (zx_st (zh_X6_init G) [] 400 0 _ _ _).trans rfl
set_option maxRecDepth 100000 in
theorem q_X11_init_0 (G : Nat × Nat) (a0 : Nat) (W : zW) : ev_ G 10 0 [.ref a0] [] W =
 zthV (ev_ G 4 0 [.ref W.1] [] (znew 5 4 [.null, .null, .null, .null] W))
  (fun W1 =>
 (zpt 12 0 W1 a0 (.ref W.1)).bind fun W3 =>
  zthV (ev_ G 5 0 [.ref W3.1] [] (znew 6 5 [.null, .null, .null, .null, .int 0] W3))
   (fun W4 =>
  (zpt 12 1 W4 a0 (.ref W3.1)).bind fun W6 =>
   zthV (ev_ G 6 0 [.ref W6.1] [] (znew 4 4 [.int 0, .int 0, .null, .int 0] W6))
    (fun W7 =>
   (zpt 12 2 W7 a0 (.ref W6.1)).bind fun W9 =>
    zthV (ev_ G 9 0 [.ref W9.1] [] (znew 7 3 [.null, .null, .null] W9))
     (fun W10 =>
    (zpt 12 3 W10 a0 (.ref W9.1)).bind fun W12 =>
     zthV (ev_ G 2 0 [.ref W12.1] [] (znew 0 3 [.int 0, .null, .int 0] W12))
      (fun W13 =>
     (zpt 12 4 W13 a0 (.ref W12.1)).bind fun W15 =>
      zthV (ev_ G 2 0 [.ref W15.1] [] (znew 0 3 [.int 0, .null, .int 0] W15))
       (fun W16 =>
      (zpt 12 5 W16 a0 (.ref W15.1)).bind fun W18 =>
       (zpt 12 6 W18 a0 (.int 255)).bind fun W19 =>
       (zpt 12 7 W19 a0 (.int 0)).bind fun W20 =>
       some (.inl none, W20))
       zxe)
      zxe)
     zxe)
    zxe)
   zxe)
  zxe :=
 (zx_st (zh_X11_init G) [] 400 0 _ _ _).trans rfl
set_option maxRecDepth 100000 in
theorem q_X11_isIndex_0 (G : Nat × Nat) (x0 : Int32) (x1 : Int32) (W : zW) : ev_ G 12 0 [.int x0, .int x1] [] W =
 if x0 < 0 then
  (if (0 : Int32) &&& 1 = 0 then some (.inl (some (.int 0)), W) else none)
 else
  if (x1 ≤ x0 : Prop) then
   (if (0 : Int32) &&& 1 = 0 then some (.inl (some (.int 0)), W) else none)
  else
   if (1 : Int32) &&& 1 = 1 then some (.inl (some (.int 1)), W) else none :=
 (zx_st (zh_X11_isIndex G) [] 400 0 _ _ _).trans rfl
set_option maxRecDepth 100000 in
theorem q_X11_checkIndex_0 (G : Nat × Nat) (x0 : Int32) (W : zW) : ev_ G 13 0 [.int x0] [] W =
 if x0 = 0 then
  (some (.inr 0, (W.1 + 1, W.2.1 + 6, W.2.2)))
 else
  some (.inl none, W) :=
 (zx_st (zh_X11_checkIndex G) [] 400 0 _ _ _).trans rfl
set_option maxRecDepth 100000 in
theorem q_X11_isWithin_0 (G : Nat × Nat) (x0 : Int32) (x1 : Int32) (x2 : Int32) (W : zW) : ev_ G 14 0 [.int x0, .int x1, .int x2] [] W =
 if (x0 < x1 : Prop) then
  (if (0 : Int32) &&& 1 = 0 then some (.inl (some (.int 0)), W) else none)
 else
  if (x2 < x0 : Prop) then
   (if (0 : Int32) &&& 1 = 0 then some (.inl (some (.int 0)), W) else none)
  else
   if (1 : Int32) &&& 1 = 1 then some (.inl (some (.int 1)), W) else none :=
 (zx_st (zh_X11_isWithin G) [] 400 0 _ _ _).trans rfl
set_option maxRecDepth 100000 in
theorem q_X11_checkArgument_0 (G : Nat × Nat) (x0 : Int32) (W : zW) : ev_ G 15 0 [.int x0] [] W =
 if x0 = 0 then
  (some (.inr 1, (W.1 + 1, W.2.1 + 6, W.2.2)))
 else
  some (.inl none, W) :=
 (zx_st (zh_X11_checkArgument G) [] 400 0 _ _ _).trans rfl
set_option maxRecDepth 100000 in
theorem q_Jx4a65c_size_8abf5_0 (G : Nat × Nat) (a0 : Nat) (W : zW) : ev_ G 16 0 [.ref a0] [] W =
 (zgI 0 2 W a0).bind fun t1 =>
 some (.inl (some (.int t1)), W) :=
 (zx_st (zh_Jx4a65c_size_8abf5 G) [] 400 0 _ _ _).trans rfl
set_option maxRecDepth 100000 in
theorem q_X11_checkState_0 (G : Nat × Nat) (x0 : Int32) (W : zW) : ev_ G 17 0 [.int x0] [] W =
 if x0 = 0 then
  (some (.inr 2, (W.1 + 1, W.2.1 + 6, W.2.2)))
 else
  some (.inl none, W) :=
 (zx_st (zh_X11_checkState G) [] 400 0 _ _ _).trans rfl
set_option maxRecDepth 100000 in
theorem q_X1_init_0 (G : Nat × Nat) (a0 : Nat) (x1 : Int32) (x2 : Int32) (x3 : Int32) (x4 : Int32) (x5 : Int32) (W : zW) : ev_ G 18 0 [.ref a0, .int x1, .int x2, .int x3, .int x4, .int x5] [] W =
 (zpt 2 0 W a0 (.int x1)).bind fun W1 =>
 (zpt 2 1 W1 a0 (.int x2)).bind fun W2 =>
 (zpt 2 2 W2 a0 (.int x3)).bind fun W3 =>
 (zpt 2 3 W3 a0 (.int x4)).bind fun W4 =>
 (zpt 2 4 W4 a0 (.int x5)).bind fun W5 =>
 some (.inl none, W5) :=
 (zx_st (zh_X1_init G) [] 400 0 _ _ _).trans rfl
set_option maxRecDepth 100000 in
theorem q_J9_max_7cf53_0 (G : Nat × Nat) (x0 : Int32) (x1 : Int32) (W : zW) : ev_ G 19 0 [.int x0, .int x1] [] W =
 if (x0 < x1 : Prop) then
  (some (.inl (some (.int x1)), W))
 else
  some (.inl (some (.int x0)), W) :=
 (zx_st (zh_J9_max_7cf53 G) [] 400 0 _ _ _).trans rfl
set_option maxRecDepth 100000 in
theorem q_J8_newLength_cabcc_0 (G : Nat × Nat) (x0 : Int32) (x1 : Int32) (x2 : Int32) (W : zW) : ev_ G 20 0 [.int x0, .int x1, .int x2, zU] [] W =
 zthI (ev_ G 19 0 [.int x1, .int x2] [] W)
  (fun t2 W1 =>
 if ((x0 + t2) ≤ 0 : Prop) then
   (none)
  else
   if (2147483639 < (x0 + t2) : Prop) then
    (none)
   else
    some (.inl (some (.int (x0 + t2))), W1))
  zxe :=
 (zx_st (zh_J8_newLength_cabcc G) [] 400 0 _ _ _).trans rfl
set_option maxRecDepth 100000 in
theorem q_J9_min_7cf53_0 (G : Nat × Nat) (x0 : Int32) (x1 : Int32) (W : zW) : ev_ G 21 0 [.int x0, .int x1] [] W =
 if (x1 < x0 : Prop) then
  (some (.inl (some (.int x1)), W))
 else
  some (.inl (some (.int x0)), W) :=
 (zx_st (zh_J9_min_7cf53 G) [] 400 0 _ _ _).trans rfl
set_option maxRecDepth 100000 in
theorem q_J7_copyOf_6403c_0 (G : Nat × Nat) (a0 : Nat) (x1 : Int32) (a2 : Nat) (W : zW) : ev_ G 22 0 [.ref a0, .int x1, .ref a2, zU] [] W =
 if a2 = G.2 then
  (if zbad x1 then none else
   (zlen (znaq x1 W) a0).bind fun t1 =>
   zthI (ev_ G 21 0 [.int t1, .int x1] [] (znaq x1 W))
    (fun t3 W2 =>
   (zcpy W2 a0 0 W.1 0 t3).bind fun W4 =>
    some (.inl (some (.ref W.1)), W4))
    zxe)
 else
  none :=
 (zx_st (zh_J7_copyOf_6403c G) [] 400 0 _ _ _).trans rfl
set_option maxRecDepth 100000 in
theorem q_J7_copyOf_1904c_0 (G : Nat × Nat) (a0 : Nat) (x1 : Int32) (W : zW) : ev_ G 23 0 [.ref a0, .int x1] [] W =
 zckq W a0 (zthR (ev_ G 22 0 [.ref a0, .int x1, .ref G.2, zU] [] W)
   (fun t2 W1 =>
  some (.inl (some (.ref t2)), W1))
   zxe) :=
 (zx_st (zh_J7_copyOf_1904c G) [] 400 0 _ _ _).trans rfl
set_option maxRecDepth 100000 in
theorem q_Jx4a65c_grow_92f84_0 (G : Nat × Nat) (a0 : Nat) (x1 : Int32) (W : zW) : ev_ G 24 0 [.ref a0, .int x1, zU, zU] [] W =
 (zgR 0 1 W a0).bind fun t1 =>
 (zlen W t1).bind fun t2 =>
 if 0 < t2 then
  (ev_ G 24 20 [.ref a0, .int x1, .int t2, zU] [] W)
 else
  (zgR 0 1 W a0).bind fun t3 =>
  if t3 = G.1 then
   (zthI (ev_ G 19 0 [.int 10, .int x1] [] W)
     (fun t5 W4 =>
    if zbad t5 then none else
     (zpt 0 1 (znaq t5 W4) a0 (.ref W4.1)).bind fun W6 =>
     some (.inl (some (.ref W4.1)), W6))
     zxe)
  else
   ev_ G 24 20 [.ref a0, .int x1, .int t2, zU] [] W :=
 (zx_st (zh_Jx4a65c_grow_92f84 G) [20] 400 0 _ _ _).trans rfl
set_option maxRecDepth 100000 in
theorem q_Jx4a65c_grow_92f84_20 (G : Nat × Nat) (a0 : Nat) (x1 : Int32) (x2 : Int32) (W : zW) : ev_ G 24 20 [.ref a0, .int x1, .int x2, zU] [] W =
 zthI (ev_ G 20 0 [.int x2, .int (x1 - x2), .int (x2 >>> (1 &&& 31)), zU] [] W)
  (fun t2 W1 =>
 (zgR 0 1 W1 a0).bind fun t3 =>
  zthR (ev_ G 23 0 [.ref t3, .int t2] [] W1)
   (fun t5 W4 =>
  (zpt 0 1 W4 a0 (.ref t5)).bind fun W6 =>
   some (.inl (some (.ref t5)), W6))
   zxe)
  zxe :=
 (zx_st (zh_Jx4a65c_grow_92f84 G) [20] 400 20 _ _ _).trans rfl
set_option maxRecDepth 100000 in
theorem q_Jx4a65c_grow_d5877_0 (G : Nat × Nat) (a0 : Nat) (W : zW) : ev_ G 25 0 [.ref a0] [] W =
 (zgI 0 2 W a0).bind fun t1 =>
 zthR (zck 0 W a0 (ev_ G 24 0 [.ref a0, .int (t1 + 1), zU, zU] [] W))
  (fun t3 W2 =>
 some (.inl (some (.ref t3)), W2))
  zxe :=
 (zx_st (zh_Jx4a65c_grow_d5877 G) [] 400 0 _ _ _).trans rfl
set_option maxRecDepth 100000 in
theorem q_Jx4a65c_add_72be8_0 (G : Nat × Nat) (a0 : Nat) (a1 : Nat) (a2 : Nat) (x3 : Int32) (W : zW) : ev_ G 26 0 [.ref a0, .ref a1, .ref a2, .int x3] [] W =
 (zlen W a2).bind fun t1 =>
 if (x3 = t1 : Prop) then
  (zthR (zck 0 W a0 (ev_ G 25 0 [.ref a0] [] W))
    (fun t3 W2 =>
   ev_ G 26 11 [.ref a0, .ref a1, .ref t3, .int x3] [] W2)
    zxe)
 else
  ev_ G 26 11 [.ref a0, .ref a1, .ref a2, .int x3] [] W :=
 (zx_st (zh_Jx4a65c_add_72be8 G) [11] 400 0 _ _ _).trans rfl
set_option maxRecDepth 100000 in
theorem q_Jx4a65c_add_72be8_11 (G : Nat × Nat) (a0 : Nat) (a1 : Nat) (a2 : Nat) (x3 : Int32) (W : zW) : ev_ G 26 11 [.ref a0, .ref a1, .ref a2, .int x3] [] W =
 zany W a1 ((zstq W a2 x3 a1).bind fun W1 =>
 (zpt 0 2 W1 a0 (.int (x3 + 1))).bind fun W2 =>
 some (.inl none, W2)) :=
 (zx_st (zh_Jx4a65c_add_72be8 G) [11] 400 11 _ _ _).trans rfl
set_option maxRecDepth 100000 in
theorem q_Jx4a65c_add_9ea2d_0 (G : Nat × Nat) (a0 : Nat) (a1 : Nat) (W : zW) : ev_ G 27 0 [.ref a0, .ref a1] [] W =
 (zgI 0 0 W a0).bind fun t1 =>
 (zpt 0 0 W a0 (.int (t1 + 1))).bind fun W2 =>
 (zgR 0 1 W2 a0).bind fun t3 =>
 (zgI 0 2 W2 a0).bind fun t4 =>
 zthV (zck 0 W2 a0 (ev_ G 26 0 [.ref a0, .ref a1, .ref t3, .int t4] [] W2))
  (fun W5 =>
 if (1 : Int32) &&& 1 = 1 then some (.inl (some (.int 1)), W5) else none)
  zxe :=
 (zx_st (zh_Jx4a65c_add_9ea2d G) [] 400 0 _ _ _).trans rfl
set_option maxRecDepth 100000 in
theorem q_X4_addBundle_0 (G : Nat × Nat) (a0 : Nat) (x1 : Int32) (x2 : Int32) (x3 : Int32) (x4 : Int32) (W : zW) : ev_ G 28 0 [.ref a0, .int x1, .int x2, .int x3, .int x4] [] W =
 (zgR 5 0 W a0).bind fun t1 =>
 (zgR 5 0 (znew 2 5 [.int 0, .int 0, .int 0, .int 0, .int 0] W) a0).bind fun t2 =>
 zthI (zck 0 (znew 2 5 [.int 0, .int 0, .int 0, .int 0, .int 0] W) t2 (ev_ G 16 0 [.ref t2] [] (znew 2 5 [.int 0, .int 0, .int 0, .int 0, .int 0] W)))
  (fun t4 W3 =>
 zthV (ev_ G 18 0 [.ref W.1, .int t4, .int x1, .int x2, .int x3, .int x4] [] W3)
   (fun W5 =>
  zthI (zck 0 W5 t1 (ev_ G 27 0 [.ref t1, .ref W.1] [] W5))
    (fun t8 W7 =>
   (zgR 5 0 W7 a0).bind fun t9 =>
    zthI (zck 0 W7 t9 (ev_ G 16 0 [.ref t9] [] W7))
     (fun t11 W10 =>
    some (.inl (some (.int (t11 - 1))), W10))
     zxe)
    zxe)
   zxe)
  zxe :=
 (zx_st (zh_X4_addBundle G) [] 400 0 _ _ _).trans rfl
set_option maxRecDepth 100000 in
theorem q_X11_bundle_0 (G : Nat × Nat) (a0 : Nat) (x1 : Int32) (x2 : Int32) (x3 : Int32) (x4 : Int32) (W : zW) : ev_ G 29 0 [.ref a0, .int x1, .int x2, .int x3, .int x4] [] W =
 zthI (ev_ G 12 0 [.int x1, .int 8] [] W)
  (fun t2 W1 =>
 if t2 = 0 then
   (ev_ G 29 23 [.ref a0, .int x1, .int x2, .int x3, .int x4] [.int 0] W1)
  else
   zthI (ev_ G 12 0 [.int x2, .int 8] [] W1)
    (fun t4 W3 =>
   if t4 = 0 then
     (ev_ G 29 23 [.ref a0, .int x1, .int x2, .int x3, .int x4] [.int 0] W3)
    else
     ev_ G 29 23 [.ref a0, .int x1, .int x2, .int x3, .int x4] [.int 1] W3)
    zxe)
  zxe :=
 (zx_st (zh_X11_bundle G) [23, 58, 81] 400 0 _ _ _).trans rfl
set_option maxRecDepth 100000 in
theorem q_X11_bundle_23 (G : Nat × Nat) (a0 : Nat) (x1 : Int32) (x2 : Int32) (x3 : Int32) (x4 : Int32) (x_0 : Int32) (W : zW) : ev_ G 29 23 [.ref a0, .int x1, .int x2, .int x3, .int x4] [.int x_0] W =
 zthV (ev_ G 13 0 [.int x_0] [] W)
  (fun W1 =>
 if (x1 = x2 : Prop) then
   (ev_ G 29 58 [.ref a0, .int x1, .int x2, .int x3, .int x4] [.int 0] W1)
  else
   zthI (ev_ G 14 0 [.int x3, .int 1, .int 999] [] W1)
    (fun t4 W3 =>
   if t4 = 0 then
     (ev_ G 29 58 [.ref a0, .int x1, .int x2, .int x3, .int x4] [.int 0] W3)
    else
     zthI (ev_ G 14 0 [.int x4, .int 1, .int 24] [] W3)
      (fun t6 W5 =>
     if t6 = 0 then
       (ev_ G 29 58 [.ref a0, .int x1, .int x2, .int x3, .int x4] [.int 0] W5)
      else
       ev_ G 29 58 [.ref a0, .int x1, .int x2, .int x3, .int x4] [.int 1] W5)
      zxe)
    zxe)
  zxe :=
 (zx_st (zh_X11_bundle G) [23, 58, 81] 400 23 _ _ _).trans rfl
set_option maxRecDepth 100000 in
theorem q_X11_bundle_58 (G : Nat × Nat) (a0 : Nat) (x1 : Int32) (x2 : Int32) (x3 : Int32) (x4 : Int32) (x_0 : Int32) (W : zW) : ev_ G 29 58 [.ref a0, .int x1, .int x2, .int x3, .int x4] [.int x_0] W =
 zthV (ev_ G 15 0 [.int x_0] [] W)
  (fun W1 =>
 (zgR 12 0 W1 a0).bind fun t3 =>
  (zgR 5 0 W1 t3).bind fun t4 =>
  zthI (zck 0 W1 t4 (ev_ G 16 0 [.ref t4] [] W1))
   (fun t6 W5 =>
  if (16 ≤ t6 : Prop) then
    (ev_ G 29 81 [.ref a0, .int x1, .int x2, .int x3, .int x4] [.int 0] W5)
   else
    ev_ G 29 81 [.ref a0, .int x1, .int x2, .int x3, .int x4] [.int 1] W5)
   zxe)
  zxe :=
 (zx_st (zh_X11_bundle G) [23, 58, 81] 400 58 _ _ _).trans rfl
set_option maxRecDepth 100000 in
theorem q_X11_bundle_81 (G : Nat × Nat) (a0 : Nat) (x1 : Int32) (x2 : Int32) (x3 : Int32) (x4 : Int32) (x_0 : Int32) (W : zW) : ev_ G 29 81 [.ref a0, .int x1, .int x2, .int x3, .int x4] [.int x_0] W =
 zthV (ev_ G 17 0 [.int x_0] [] W)
  (fun W1 =>
 (zgR 12 0 W1 a0).bind fun t3 =>
  zthI (zck 5 W1 t3 (ev_ G 28 0 [.ref t3, .int x1, .int x2, .int x3, .int x4] [] W1))
   (fun t5 W4 =>
  some (.inl (some (.int t5)), W4))
   zxe)
  zxe :=
 (zx_st (zh_X11_bundle G) [23, 58, 81] 400 81 _ _ _).trans rfl
set_option maxRecDepth 100000 in
theorem q_X2_init_0 (G : Nat × Nat) (a0 : Nat) (x1 : Int32) (x2 : Int32) (x3 : Int32) (W : zW) : ev_ G 36 0 [.ref a0, .int x1, .int x2, .int x3] [] W =
 (zpt 3 3 W a0 (.int (-1))).bind fun W1 =>
 (zpt 3 0 W1 a0 (.int x1)).bind fun W2 =>
 (zpt 3 1 W2 a0 (.int x2)).bind fun W3 =>
 (zpt 3 2 W3 a0 (.int x3)).bind fun W4 =>
 some (.inl none, W4) :=
 (zx_st (zh_X2_init G) [] 400 0 _ _ _).trans rfl
set_option maxRecDepth 100000 in
theorem q_X4_addConnector_0 (G : Nat × Nat) (a0 : Nat) (x1 : Int32) (x2 : Int32) (x3 : Int32) (W : zW) : ev_ G 37 0 [.ref a0, .int x1, .int x2, .int x3] [] W =
 (zgR 5 1 W a0).bind fun t1 =>
 zthV (ev_ G 36 0 [.ref W.1, .int x1, .int x2, .int x3] [] (znew 3 5 [.int 0, .int 0, .int 0, .int 0, .int 0] W))
  (fun W2 =>
 zthI (zck 0 W2 t1 (ev_ G 27 0 [.ref t1, .ref W.1] [] W2))
   (fun t5 W4 =>
  (zgR 5 1 W4 a0).bind fun t6 =>
   zthI (zck 0 W4 t6 (ev_ G 16 0 [.ref t6] [] W4))
    (fun t8 W7 =>
   some (.inl (some (.int (t8 - 1))), W7))
    zxe)
   zxe)
  zxe :=
 (zx_st (zh_X4_addConnector G) [] 400 0 _ _ _).trans rfl
set_option maxRecDepth 100000 in
theorem q_X11_connector_0 (G : Nat × Nat) (a0 : Nat) (x1 : Int32) (x2 : Int32) (x3 : Int32) (W : zW) : ev_ G 38 0 [.ref a0, .int x1, .int x2, .int x3] [] W =
 zthI (ev_ G 12 0 [.int x1, .int 8] [] W)
  (fun t2 W1 =>
 zthV (ev_ G 13 0 [.int t2] [] W1)
   (fun W3 =>
  zthI (ev_ G 14 0 [.int x2, .int 1, .int 8] [] W3)
    (fun t6 W5 =>
   if t6 = 0 then
     (ev_ G 38 34 [.ref a0, .int x1, .int x2, .int x3] [.int 0] W5)
    else
     zthI (ev_ G 14 0 [.int x3, .int 0, .int 9] [] W5)
      (fun t8 W7 =>
     if t8 = 0 then
       (ev_ G 38 34 [.ref a0, .int x1, .int x2, .int x3] [.int 0] W7)
      else
       ev_ G 38 34 [.ref a0, .int x1, .int x2, .int x3] [.int 1] W7)
      zxe)
    zxe)
   zxe)
  zxe :=
 (zx_st (zh_X11_connector G) [34, 57] 400 0 _ _ _).trans rfl
set_option maxRecDepth 100000 in
theorem q_X11_connector_34 (G : Nat × Nat) (a0 : Nat) (x1 : Int32) (x2 : Int32) (x3 : Int32) (x_0 : Int32) (W : zW) : ev_ G 38 34 [.ref a0, .int x1, .int x2, .int x3] [.int x_0] W =
 zthV (ev_ G 15 0 [.int x_0] [] W)
  (fun W1 =>
 (zgR 12 0 W1 a0).bind fun t3 =>
  (zgR 5 1 W1 t3).bind fun t4 =>
  zthI (zck 0 W1 t4 (ev_ G 16 0 [.ref t4] [] W1))
   (fun t6 W5 =>
  if (8 ≤ t6 : Prop) then
    (ev_ G 38 57 [.ref a0, .int x1, .int x2, .int x3] [.int 0] W5)
   else
    ev_ G 38 57 [.ref a0, .int x1, .int x2, .int x3] [.int 1] W5)
   zxe)
  zxe :=
 (zx_st (zh_X11_connector G) [34, 57] 400 34 _ _ _).trans rfl
set_option maxRecDepth 100000 in
theorem q_X11_connector_57 (G : Nat × Nat) (a0 : Nat) (x1 : Int32) (x2 : Int32) (x3 : Int32) (x_0 : Int32) (W : zW) : ev_ G 38 57 [.ref a0, .int x1, .int x2, .int x3] [.int x_0] W =
 zthV (ev_ G 17 0 [.int x_0] [] W)
  (fun W1 =>
 (zgR 12 0 W1 a0).bind fun t3 =>
  zthI (zck 5 W1 t3 (ev_ G 37 0 [.ref t3, .int x1, .int x2, .int x3] [] W1))
   (fun t5 W4 =>
  some (.inl (some (.int t5)), W4))
   zxe)
  zxe :=
 (zx_st (zh_X11_connector G) [34, 57] 400 57 _ _ _).trans rfl
set_option maxRecDepth 100000 in
theorem q_J3_checkIndex_8e157_0 (G : Nat × Nat) (x0 : Int32) (x1 : Int32) (W : zW) : ev_ G 41 0 [.int x0, .int x1, .null] [] W =
 if x0 < 0 then
  (none)
 else
  if (x0 < x1 : Prop) then
   (some (.inl (some (.int x0)), W))
  else
   none :=
 (zx_st (zh_J3_checkIndex_8e157 G) [] 400 0 _ _ _).trans rfl
set_option maxRecDepth 100000 in
theorem q_J15_checkIndex_7cf53_0 (G : Nat × Nat) (x0 : Int32) (x1 : Int32) (W : zW) : ev_ G 42 0 [.int x0, .int x1] [] W =
 zthI (ev_ G 41 0 [.int x0, .int x1, .null] [] W)
  (fun t2 W1 =>
 some (.inl (some (.int t2)), W1))
  zxe :=
 (zx_st (zh_J15_checkIndex_7cf53 G) [] 400 0 _ _ _).trans rfl
set_option maxRecDepth 100000 in
theorem q_Jx4a65c_elementData_915e3_0 (G : Nat × Nat) (a0 : Nat) (x1 : Int32) (W : zW) : ev_ G 43 0 [.ref a0, .int x1] [] W =
 (zgR 0 1 W a0).bind fun t1 =>
 (zldq W t1 x1).bind fun t2 =>
 some (.inl (some (.ref t2)), W) :=
 (zx_st (zh_Jx4a65c_elementData_915e3 G) [] 400 0 _ _ _).trans rfl
set_option maxRecDepth 100000 in
theorem q_Jx4a65c_get_915e3_0 (G : Nat × Nat) (a0 : Nat) (x1 : Int32) (W : zW) : ev_ G 44 0 [.ref a0, .int x1] [] W =
 (zgI 0 2 W a0).bind fun t1 =>
 zthI (ev_ G 42 0 [.int x1, .int t1] [] W)
  (fun t3 W2 =>
 zthR (zck 0 W2 a0 (ev_ G 43 0 [.ref a0, .int x1] [] W2))
   (fun t5 W4 =>
  some (.inl (some (.ref t5)), W4))
   zxe)
  zxe :=
 (zx_st (zh_Jx4a65c_get_915e3 G) [] 400 0 _ _ _).trans rfl
set_option maxRecDepth 100000 in
theorem q_X11_connectorAt_0 (G : Nat × Nat) (a0 : Nat) (x1 : Int32) (W : zW) : ev_ G 45 0 [.ref a0, .int x1] [] W =
 (zgR 12 0 W a0).bind fun t1 =>
 (zgR 5 1 W t1).bind fun t2 =>
 zthI (zck 0 W t2 (ev_ G 16 0 [.ref t2] [] W))
  (fun t4 W3 =>
 zthI (ev_ G 12 0 [.int x1, .int t4] [] W3)
   (fun t6 W5 =>
  if t6 = 0 then
    (some (.inr 0, (W5.1 + 1, W5.2.1 + 6, W5.2.2)))
   else
    (zgR 12 0 W5 a0).bind fun t7 =>
    (zgR 5 1 W5 t7).bind fun t8 =>
    zthR (zck 0 W5 t8 (ev_ G 44 0 [.ref t8, .int x1] [] W5))
     (fun t10 W9 =>
    zck 3 W9 t10 (some (.inl (some (.ref t10)), W9)))
     zxe)
   zxe)
  zxe :=
 (zx_st (zh_X11_connectorAt G) [] 400 0 _ _ _).trans rfl
set_option maxRecDepth 100000 in
theorem q_X2_fits_0 (G : Nat × Nat) (a0 : Nat) (a1 : Nat) (W : zW) : ev_ G 46 0 [.ref a0, .ref a1] [] W =
 (zgI 3 1 W a0).bind fun t1 =>
 (zgI 3 1 W a1).bind fun t2 =>
 if (t1 = t2 : Prop) then
  ((zgI 3 2 W a0).bind fun t3 =>
   (zgI 3 2 W a1).bind fun t4 =>
   if (t3 = t4 : Prop) then
    (if (1 : Int32) &&& 1 = 1 then some (.inl (some (.int 1)), W) else none)
   else
    if (0 : Int32) &&& 1 = 0 then some (.inl (some (.int 0)), W) else none)
 else
  if (0 : Int32) &&& 1 = 0 then some (.inl (some (.int 0)), W) else none :=
 (zx_st (zh_X2_fits G) [] 400 0 _ _ _).trans rfl
set_option maxRecDepth 100000 in
theorem q_X4_pairsThatFitWrong_0 (G : Nat × Nat) (a0 : Nat) (W : zW) : ev_ G 47 0 [.ref a0, zU, zU, zU, zU] [] W =
 ev_ G 47 4 [.ref a0, .int 0, .int 0, zU, zU] [] W :=
 (zx_st (zh_X4_pairsThatFitWrong G) [4, 32] 400 0 _ _ _).trans rfl
set_option maxRecDepth 100000 in
theorem q_X4_pairsThatFitWrong_4 (G : Nat × Nat) (a0 : Nat) (x1 : Int32) (x2 : Int32) (u3 : Value) (u4 : Value) (W : zW) : ev_ G 47 4 [.ref a0, .int x1, .int x2, u3, u4] [] W =
 (zgR 5 1 W a0).bind fun t1 =>
 zthI (zck 0 W t1 (ev_ G 16 0 [.ref t1] [] W))
  (fun t3 W2 =>
 if (t3 ≤ x2 : Prop) then
   (some (.inl (some (.int x1)), W2))
  else
   (zgR 5 1 W2 a0).bind fun t4 =>
   zthR (zck 0 W2 t4 (ev_ G 44 0 [.ref t4, .int x2] [] W2))
    (fun t6 W5 =>
   zck 3 W5 t6 (ev_ G 47 32 [.ref a0, .int x1, .int x2, .ref t6, .int (x2 + 1)] [] W5))
    zxe)
  zxe :=
 (zx_st (zh_X4_pairsThatFitWrong G) [4, 32] 400 4 _ _ _).trans rfl
set_option maxRecDepth 100000 in
theorem q_X4_pairsThatFitWrong_32 (G : Nat × Nat) (a0 : Nat) (x1 : Int32) (x2 : Int32) (a3 : Nat) (x4 : Int32) (W : zW) : ev_ G 47 32 [.ref a0, .int x1, .int x2, .ref a3, .int x4] [] W =
 (zgR 5 1 W a0).bind fun t1 =>
 zthI (zck 0 W t1 (ev_ G 16 0 [.ref t1] [] W))
  (fun t3 W2 =>
 if (t3 ≤ x4 : Prop) then
   (ev_ G 47 4 [.ref a0, .int x1, .int (x2 + 1), .ref a3, .int x4] [] W2)
  else
   (zgR 5 1 W2 a0).bind fun t4 =>
   zthR (zck 0 W2 t4 (ev_ G 44 0 [.ref t4, .int x4] [] W2))
    (fun t6 W5 =>
   zck 3 W5 t6 (zthI (zck 3 W5 a3 (ev_ G 46 0 [.ref a3, .ref t6] [] W5))
      (fun t8 W7 =>
     if t8 = 0 then
       (ev_ G 47 32 [.ref a0, .int x1, .int x2, .ref a3, .int (x4 + 1)] [] W7)
      else
       (zgI 3 3 W7 a3).bind fun t9 =>
       if (t9 = x4 : Prop) then
        (ev_ G 47 32 [.ref a0, .int x1, .int x2, .ref a3, .int (x4 + 1)] [] W7)
       else
        ev_ G 47 32 [.ref a0, .int (x1 + 1), .int x2, .ref a3, .int (x4 + 1)] [] W7)
      zxe))
    zxe)
  zxe :=
 (zx_st (zh_X4_pairsThatFitWrong G) [4, 32] 400 32 _ _ _).trans rfl
set_option maxRecDepth 100000 in
theorem q_X11_mates_0 (G : Nat × Nat) (a0 : Nat) (x1 : Int32) (x2 : Int32) (W : zW) : ev_ G 48 0 [.ref a0, .int x1, .int x2, zU, zU] [] W =
 zthR (zck 12 W a0 (ev_ G 45 0 [.ref a0, .int x1] [] W))
  (fun t2 W1 =>
 zthR (zck 12 W1 a0 (ev_ G 45 0 [.ref a0, .int x2] [] W1))
   (fun t4 W3 =>
  if (x1 = x2 : Prop) then
    (ev_ G 48 23 [.ref a0, .int x1, .int x2, .ref t2, .ref t4] [.int 0] W3)
   else
    ev_ G 48 23 [.ref a0, .int x1, .int x2, .ref t2, .ref t4] [.int 1] W3)
   zxe)
  zxe :=
 (zx_st (zh_X11_mates G) [23, 57] 400 0 _ _ _).trans rfl
set_option maxRecDepth 100000 in
theorem q_X11_mates_23 (G : Nat × Nat) (a0 : Nat) (x1 : Int32) (x2 : Int32) (a3 : Nat) (a4 : Nat) (x_0 : Int32) (W : zW) : ev_ G 48 23 [.ref a0, .int x1, .int x2, .ref a3, .ref a4] [.int x_0] W =
 zthV (ev_ G 15 0 [.int x_0] [] W)
  (fun W1 =>
 zthI (zck 3 W1 a3 (ev_ G 46 0 [.ref a3, .ref a4] [] W1))
   (fun t4 W3 =>
  if t4 = 0 then
    (ev_ G 48 57 [.ref a0, .int x1, .int x2, .ref a3, .ref a4] [.int 0] W3)
   else
    (zgI 3 3 W3 a3).bind fun t5 =>
    if (t5 = (-1) : Prop) then
     ((zgI 3 3 W3 a4).bind fun t6 =>
      if (t6 = (-1) : Prop) then
       (ev_ G 48 57 [.ref a0, .int x1, .int x2, .ref a3, .ref a4] [.int 1] W3)
      else
       ev_ G 48 57 [.ref a0, .int x1, .int x2, .ref a3, .ref a4] [.int 0] W3)
    else
     ev_ G 48 57 [.ref a0, .int x1, .int x2, .ref a3, .ref a4] [.int 0] W3)
   zxe)
  zxe :=
 (zx_st (zh_X11_mates G) [23, 57] 400 23 _ _ _).trans rfl
set_option maxRecDepth 100000 in
theorem q_X11_mates_57 (G : Nat × Nat) (a0 : Nat) (x1 : Int32) (x2 : Int32) (a3 : Nat) (a4 : Nat) (x_0 : Int32) (W : zW) : ev_ G 48 57 [.ref a0, .int x1, .int x2, .ref a3, .ref a4] [.int x_0] W =
 zthV (ev_ G 17 0 [.int x_0] [] W)
  (fun W1 =>
 (zpt 3 3 W1 a3 (.int x2)).bind fun W3 =>
  (zpt 3 3 W3 a4 (.int x1)).bind fun W4 =>
  (zgR 12 0 W4 a0).bind fun t5 =>
  zthI (zck 5 W4 t5 (ev_ G 47 0 [.ref t5, zU, zU, zU, zU] [] W4))
   (fun t7 W6 =>
  some (.inl (some (.int t7)), W6))
   zxe)
  zxe :=
 (zx_st (zh_X11_mates G) [23, 57] 400 57 _ _ _).trans rfl
set_option maxRecDepth 100000 in
theorem q_X2_isFree_0 (G : Nat × Nat) (a0 : Nat) (x1 : Int32) (W : zW) : ev_ G 53 0 [.ref a0, .int x1] [] W =
 (zgI 3 4 W a0).bind fun t1 =>
 if (t1 &&& (1 <<< (x1 &&& 31))) = 0 then
  (if (1 : Int32) &&& 1 = 1 then some (.inl (some (.int 1)), W) else none)
 else
  if (0 : Int32) &&& 1 = 0 then some (.inl (some (.int 0)), W) else none :=
 (zx_st (zh_X2_isFree G) [] 400 0 _ _ _).trans rfl
set_option maxRecDepth 100000 in
theorem q_X8_at_0 (G : Nat × Nat) (a0 : Nat) (x1 : Int32) (W : zW) : ev_ G 54 0 [.ref a0, .int x1] [] W =
 if x1 < 0 then
  (some (.inl (some (.int 0)), W))
 else
  (zgR 9 0 W a0).bind fun t1 =>
  (zlen W t1).bind fun t2 =>
  if (t2 ≤ x1 : Prop) then
   (some (.inl (some (.int 0)), W))
  else
   (zgR 9 0 W a0).bind fun t3 =>
   (zld false W t3 x1).bind fun t4 =>
   some (.inl (some (.int t4)), W) :=
 (zx_st (zh_X8_at G) [] 400 0 _ _ _).trans rfl
set_option maxRecDepth 100000 in
theorem q_X1_cost_0 (G : Nat × Nat) (a0 : Nat) (W : zW) : ev_ G 55 0 [.ref a0] [] W =
 (zgI 2 3 W a0).bind fun t1 =>
 some (.inl (some (.int ((t1 * 16) + 1))), W) :=
 (zx_st (zh_X1_cost G) [] 400 0 _ _ _).trans rfl
set_option maxRecDepth 100000 in
theorem q_X1_across_0 (G : Nat × Nat) (a0 : Nat) (x1 : Int32) (W : zW) : ev_ G 56 0 [.ref a0, .int x1] [] W =
 (zgI 2 1 W a0).bind fun t1 =>
 if (x1 = t1 : Prop) then
  ((zgI 2 2 W a0).bind fun t2 =>
   some (.inl (some (.int t2)), W))
 else
  (zgI 2 2 W a0).bind fun t3 =>
  if (x1 = t3 : Prop) then
   ((zgI 2 1 W a0).bind fun t4 =>
    some (.inl (some (.int t4)), W))
  else
   some (.inl (some (.int (-1))), W) :=
 (zx_st (zh_X1_across G) [] 400 0 _ _ _).trans rfl
set_option maxRecDepth 100000 in
theorem q_X4_lowerCost_0 (G : Nat × Nat) (a0 : Nat) (x1 : Int32) (a2 : Nat) (W : zW) : ev_ G 57 0 [.ref a0, .int x1, .ref a2] [] W =
 (zgR 5 3 W a0).bind fun t1 =>
 (zgR 5 3 W a0).bind fun t2 =>
 zthI (zck 9 W t2 (ev_ G 54 0 [.ref t2, .int x1] [] W))
  (fun t4 W3 =>
 zthI (zck 2 W3 a2 (ev_ G 55 0 [.ref a2] [] W3))
   (fun t6 W5 =>
  (zgR 5 3 W5 a0).bind fun t7 =>
   zthI (zck 2 W5 a2 (ev_ G 56 0 [.ref a2, .int x1] [] W5))
    (fun t9 W8 =>
   zthI (zck 9 W8 t7 (ev_ G 54 0 [.ref t7, .int t9] [] W8))
     (fun t11 W10 =>
    zthI (ev_ G 21 0 [.int t4, .int (t6 + t11)] [] W10)
      (fun t13 W12 =>
     zthV (zck 9 W12 t1 (ev_ G 7 0 [.ref t1, .int x1, .int t13] [] W12))
       (fun W14 =>
      some (.inl none, W14))
       zxe)
      zxe)
     zxe)
    zxe)
   zxe)
  zxe :=
 (zx_st (zh_X4_lowerCost G) [] 400 0 _ _ _).trans rfl
set_option maxRecDepth 100000 in
theorem q_X4_findCosts_0 (G : Nat × Nat) (a0 : Nat) (x1 : Int32) (W : zW) : ev_ G 58 0 [.ref a0, .int x1, zU, zU, zU] [] W =
 (zgR 5 3 W a0).bind fun t1 =>
 zthV (zck 9 W t1 (ev_ G 8 0 [.ref t1, .int 1000000, zU] [] W))
  (fun W2 =>
 (zgR 5 3 W2 a0).bind fun t4 =>
  zthV (zck 9 W2 t4 (ev_ G 7 0 [.ref t4, .int x1, .int 0] [] W2))
   (fun W5 =>
  ev_ G 58 20 [.ref a0, .int x1, .int 1, zU, zU] [] W5)
   zxe)
  zxe :=
 (zx_st (zh_X4_findCosts G) [20, 28] 400 0 _ _ _).trans rfl
set_option maxRecDepth 100000 in
theorem q_X4_findCosts_20 (G : Nat × Nat) (a0 : Nat) (x1 : Int32) (x2 : Int32) (u3 : Value) (u4 : Value) (W : zW) : ev_ G 58 20 [.ref a0, .int x1, .int x2, u3, u4] [] W =
 if (8 ≤ x2 : Prop) then
  (some (.inl none, W))
 else
  ev_ G 58 28 [.ref a0, .int x1, .int x2, .int 0, u4] [] W :=
 (zx_st (zh_X4_findCosts G) [20, 28] 400 20 _ _ _).trans rfl
set_option maxRecDepth 100000 in
theorem q_X4_findCosts_28 (G : Nat × Nat) (a0 : Nat) (x1 : Int32) (x2 : Int32) (x3 : Int32) (u4 : Value) (W : zW) : ev_ G 58 28 [.ref a0, .int x1, .int x2, .int x3, u4] [] W =
 (zgR 5 0 W a0).bind fun t1 =>
 zthI (zck 0 W t1 (ev_ G 16 0 [.ref t1] [] W))
  (fun t3 W2 =>
 if (t3 ≤ x3 : Prop) then
   (ev_ G 58 20 [.ref a0, .int x1, .int (x2 + 1), .int x3, u4] [] W2)
  else
   (zgR 5 0 W2 a0).bind fun t4 =>
   zthR (zck 0 W2 t4 (ev_ G 44 0 [.ref t4, .int x3] [] W2))
    (fun t6 W5 =>
   zck 2 W5 t6 ((zgI 2 4 W5 t6).bind fun t7 =>
     if t7 ≤ 0 then
      (ev_ G 58 28 [.ref a0, .int x1, .int x2, .int (x3 + 1), .ref t6] [] W5)
     else
      (zgI 2 1 W5 t6).bind fun t8 =>
      zthV (zck 5 W5 a0 (ev_ G 57 0 [.ref a0, .int t8, .ref t6] [] W5))
       (fun W9 =>
      (zgI 2 2 W9 t6).bind fun t11 =>
       zthV (zck 5 W9 a0 (ev_ G 57 0 [.ref a0, .int t11, .ref t6] [] W9))
        (fun W12 =>
       ev_ G 58 28 [.ref a0, .int x1, .int x2, .int (x3 + 1), .ref t6] [] W12)
        zxe)
       zxe))
    zxe)
  zxe :=
 (zx_st (zh_X4_findCosts G) [20, 28] 400 28 _ _ _).trans rfl
set_option maxRecDepth 100000 in
theorem q_X4_hasWay_0 (G : Nat × Nat) (a0 : Nat) (x1 : Int32) (x2 : Int32) (W : zW) : ev_ G 59 0 [.ref a0, .int x1, .int x2] [] W =
 zthV (zck 5 W a0 (ev_ G 58 0 [.ref a0, .int x2, zU, zU, zU] [] W))
  (fun W1 =>
 (zgR 5 3 W1 a0).bind fun t3 =>
  zthI (zck 9 W1 t3 (ev_ G 54 0 [.ref t3, .int x1] [] W1))
   (fun t5 W4 =>
  if (1000000 ≤ t5 : Prop) then
    (if (0 : Int32) &&& 1 = 0 then some (.inl (some (.int 0)), W4) else none)
   else
    if (1 : Int32) &&& 1 = 1 then some (.inl (some (.int 1)), W4) else none)
   zxe)
  zxe :=
 (zx_st (zh_X4_hasWay G) [] 400 0 _ _ _).trans rfl
set_option maxRecDepth 100000 in
theorem q_X10_init_0 (G : Nat × Nat) (a0 : Nat) (a1 : Nat) (x2 : Int32) (a3 : Nat) (x4 : Int32) (x5 : Int32) (W : zW) : ev_ G 60 0 [.ref a0, .ref a1, .int x2, .ref a3, .int x4, .int x5] [] W =
 (zpt 11 0 W a0 (.ref a1)).bind fun W1 =>
 (zpt 11 1 W1 a0 (.int x2)).bind fun W2 =>
 (zpt 11 2 W2 a0 (.ref a3)).bind fun W3 =>
 (zpt 11 3 W3 a0 (.int x4)).bind fun W4 =>
 (zpt 11 4 W4 a0 (.int x5)).bind fun W5 =>
 zthV (ev_ G 2 0 [.ref W5.1] [] (znew 0 3 [.int 0, .null, .int 0] W5))
  (fun W6 =>
 (zpt 11 7 W6 a0 (.ref W5.1)).bind fun W8 =>
  some (.inl none, W8))
  zxe :=
 (zx_st (zh_X10_init G) [] 400 0 _ _ _).trans rfl
set_option maxRecDepth 100000 in
theorem q_X2_take_0 (G : Nat × Nat) (a0 : Nat) (x1 : Int32) (W : zW) : ev_ G 61 0 [.ref a0, .int x1] [] W =
 (zgI 3 4 W a0).bind fun t1 =>
 (zpt 3 4 W a0 (.int ((t1 ||| (1 <<< (x1 &&& 31)))))).bind fun W2 =>
 some (.inl none, W2) :=
 (zx_st (zh_X2_take G) [] 400 0 _ _ _).trans rfl
set_option maxRecDepth 100000 in
theorem q_X10_putIn_0 (G : Nat × Nat) (a0 : Nat) (W : zW) : ev_ G 62 0 [.ref a0] [] W =
 (zgR 11 0 W a0).bind fun t1 =>
 (zgI 11 1 W a0).bind fun t2 =>
 zthV (zck 3 W t1 (ev_ G 61 0 [.ref t1, .int t2] [] W))
  (fun W3 =>
 (zgR 11 2 W3 a0).bind fun t5 =>
  (zgI 11 3 W3 a0).bind fun t6 =>
  zthV (zck 3 W3 t5 (ev_ G 61 0 [.ref t5, .int t6] [] W3))
   (fun W7 =>
  some (.inl none, W7))
   zxe)
  zxe :=
 (zx_st (zh_X10_putIn G) [] 400 0 _ _ _).trans rfl
set_option maxRecDepth 100000 in
theorem q_X4_lowestOnward_0 (G : Nat × Nat) (a0 : Nat) (x1 : Int32) (W : zW) : ev_ G 63 0 [.ref a0, .int x1, zU, zU, zU] [] W =
 ev_ G 63 2 [.ref a0, .int x1, .int 0, zU, zU] [] W :=
 (zx_st (zh_X4_lowestOnward G) [2] 400 0 _ _ _).trans rfl
set_option maxRecDepth 100000 in
theorem q_X4_lowestOnward_2 (G : Nat × Nat) (a0 : Nat) (x1 : Int32) (x2 : Int32) (u3 : Value) (u4 : Value) (W : zW) : ev_ G 63 2 [.ref a0, .int x1, .int x2, u3, u4] [] W =
 (zgR 5 0 W a0).bind fun t1 =>
 zthI (zck 0 W t1 (ev_ G 16 0 [.ref t1] [] W))
  (fun t3 W2 =>
 if (t3 ≤ x2 : Prop) then
   (some (.inl (some (.null)), W2))
  else
   (zgR 5 0 W2 a0).bind fun t4 =>
   zthR (zck 0 W2 t4 (ev_ G 44 0 [.ref t4, .int x2] [] W2))
    (fun t6 W5 =>
   zck 2 W5 t6 (zthI (zck 2 W5 t6 (ev_ G 56 0 [.ref t6, .int x1] [] W5))
      (fun t8 W7 =>
     (zgI 2 4 W7 t6).bind fun t9 =>
      if t9 ≤ 0 then
       (ev_ G 63 2 [.ref a0, .int x1, .int (x2 + 1), .ref t6, .int t8] [] W7)
      else
       if (t8 = (-1) : Prop) then
        (ev_ G 63 2 [.ref a0, .int x1, .int (x2 + 1), .ref t6, .int t8] [] W7)
       else
        zthI (zck 2 W7 t6 (ev_ G 55 0 [.ref t6] [] W7))
         (fun t11 W10 =>
        (zgR 5 3 W10 a0).bind fun t12 =>
         zthI (zck 9 W10 t12 (ev_ G 54 0 [.ref t12, .int t8] [] W10))
          (fun t14 W13 =>
         (zgR 5 3 W13 a0).bind fun t15 =>
          zthI (zck 9 W13 t15 (ev_ G 54 0 [.ref t15, .int x1] [] W13))
           (fun t17 W16 =>
          if ((t11 + t14) = t17 : Prop) then
            (some (.inl (some (.ref t6)), W16))
           else
            ev_ G 63 2 [.ref a0, .int x1, .int (x2 + 1), .ref t6, .int t8] [] W16)
           zxe)
          zxe)
         zxe)
      zxe))
    zxe)
  zxe :=
 (zx_st (zh_X4_lowestOnward G) [2] 400 2 _ _ _).trans rfl
set_option maxRecDepth 100000 in
theorem q_X10_goBy_0 (G : Nat × Nat) (a0 : Nat) (a1 : Nat) (W : zW) : ev_ G 64 0 [.ref a0, .ref a1] [] W =
 (zgR 11 7 W a0).bind fun t1 =>
 zthI (zck 0 W t1 (ev_ G 27 0 [.ref t1, .ref a1] [] W))
  (fun t3 W2 =>
 (zgI 2 4 W2 a1).bind fun t4 =>
  (zpt 2 4 W2 a1 (.int (t4 - 1))).bind fun W5 =>
  (zgI 11 5 W5 a0).bind fun t6 =>
  (zgI 2 3 W5 a1).bind fun t7 =>
  (zpt 11 5 W5 a0 (.int (t6 + t7))).bind fun W8 =>
  some (.inl none, W8))
  zxe :=
 (zx_st (zh_X10_goBy G) [] 400 0 _ _ _).trans rfl
set_option maxRecDepth 100000 in
theorem q_X4_layAlong_0 (G : Nat × Nat) (a0 : Nat) (a1 : Nat) (W : zW) : ev_ G 65 0 [.ref a0, .ref a1, zU, zU, zU] [] W =
 (zgR 11 2 W a1).bind fun t1 =>
 (zgI 3 0 W t1).bind fun t2 =>
 zthV (zck 5 W a0 (ev_ G 58 0 [.ref a0, .int t2, zU, zU, zU] [] W))
  (fun W3 =>
 (zgR 11 0 W3 a1).bind fun t5 =>
  (zgI 3 0 W3 t5).bind fun t6 =>
  ev_ G 65 21 [.ref a0, .ref a1, .int t6, .int 1, zU] [] W3)
  zxe :=
 (zx_st (zh_X4_layAlong G) [21] 400 0 _ _ _).trans rfl
set_option maxRecDepth 100000 in
theorem q_X4_layAlong_21 (G : Nat × Nat) (a0 : Nat) (a1 : Nat) (x2 : Int32) (x3 : Int32) (u4 : Value) (W : zW) : ev_ G 65 21 [.ref a0, .ref a1, .int x2, .int x3, u4] [] W =
 if (8 ≤ x3 : Prop) then
  (some (.inl none, W))
 else
  (zgR 11 2 W a1).bind fun t1 =>
  (zgI 3 0 W t1).bind fun t2 =>
  if (x2 = t2 : Prop) then
   (some (.inl none, W))
  else
   zthN (zck 5 W a0 (ev_ G 63 0 [.ref a0, .int x2, zU, zU, zU] [] W))
    (fun t4 W3 =>
   zthV (zck 11 W3 a1 (ev_ G 64 0 [.ref a1, .ref t4] [] W3))
     (fun W5 =>
    zthI (zck 2 W5 t4 (ev_ G 56 0 [.ref t4, .int x2] [] W5))
      (fun t8 W7 =>
     ev_ G 65 21 [.ref a0, .ref a1, .int t8, .int (x3 + 1), .ref t4] [] W7)
      zxe)
     zxe)
    (fun W3 =>
   some (.inl none, W3))
    zxe :=
 (zx_st (zh_X4_layAlong G) [21] 400 21 _ _ _).trans rfl
set_option maxRecDepth 100000 in
theorem q_X4_addWire_0 (G : Nat × Nat) (a0 : Nat) (a1 : Nat) (W : zW) : ev_ G 66 0 [.ref a0, .ref a1] [] W =
 zthV (zck 11 W a1 (ev_ G 62 0 [.ref a1] [] W))
  (fun W1 =>
 zthV (zck 5 W1 a0 (ev_ G 65 0 [.ref a0, .ref a1, zU, zU, zU] [] W1))
   (fun W3 =>
  (zgR 5 2 W3 a0).bind fun t5 =>
   zthI (zck 0 W3 t5 (ev_ G 27 0 [.ref t5, .ref a1] [] W3))
    (fun t7 W6 =>
   (zgR 5 2 W6 a0).bind fun t8 =>
    zthI (zck 0 W6 t8 (ev_ G 16 0 [.ref t8] [] W6))
     (fun t10 W9 =>
    some (.inl (some (.int (t10 - 1))), W9))
     zxe)
    zxe)
   zxe)
  zxe :=
 (zx_st (zh_X4_addWire G) [] 400 0 _ _ _).trans rfl
set_option maxRecDepth 100000 in
theorem q_X11_wire_0 (G : Nat × Nat) (a0 : Nat) (x1 : Int32) (x2 : Int32) (x3 : Int32) (x4 : Int32) (x5 : Int32) (W : zW) : ev_ G 67 0 [.ref a0, .int x1, .int x2, .int x3, .int x4, .int x5, zU, zU] [] W =
 zthR (zck 12 W a0 (ev_ G 45 0 [.ref a0, .int x1] [] W))
  (fun t2 W1 =>
 zthR (zck 12 W1 a0 (ev_ G 45 0 [.ref a0, .int x3] [] W1))
   (fun t4 W3 =>
  (zgI 3 1 W3 t2).bind fun t5 =>
   zthI (ev_ G 12 0 [.int x2, .int t5] [] W3)
    (fun t7 W6 =>
   if t7 = 0 then
     (ev_ G 67 44 [.ref a0, .int x1, .int x2, .int x3, .int x4, .int x5, .ref t2, .ref t4] [.int 0] W6)
    else
     (zgI 3 1 W6 t4).bind fun t8 =>
     zthI (ev_ G 12 0 [.int x4, .int t8] [] W6)
      (fun t10 W9 =>
     if t10 = 0 then
       (ev_ G 67 44 [.ref a0, .int x1, .int x2, .int x3, .int x4, .int x5, .ref t2, .ref t4] [.int 0] W9)
      else
       ev_ G 67 44 [.ref a0, .int x1, .int x2, .int x3, .int x4, .int x5, .ref t2, .ref t4] [.int 1] W9)
      zxe)
    zxe)
   zxe)
  zxe :=
 (zx_st (zh_X11_wire G) [44, 67, 94, 137] 400 0 _ _ _).trans rfl
set_option maxRecDepth 100000 in
theorem q_X11_wire_44 (G : Nat × Nat) (a0 : Nat) (x1 : Int32) (x2 : Int32) (x3 : Int32) (x4 : Int32) (x5 : Int32) (a6 : Nat) (a7 : Nat) (x_0 : Int32) (W : zW) : ev_ G 67 44 [.ref a0, .int x1, .int x2, .int x3, .int x4, .int x5, .ref a6, .ref a7] [.int x_0] W =
 zthV (ev_ G 13 0 [.int x_0] [] W)
  (fun W1 =>
 if (x1 = x3 : Prop) then
   (ev_ G 67 67 [.ref a0, .int x1, .int x2, .int x3, .int x4, .int x5, .ref a6, .ref a7] [.int 0] W1)
  else
   zthI (ev_ G 12 0 [.int x5, .int 8] [] W1)
    (fun t4 W3 =>
   if t4 = 0 then
     (ev_ G 67 67 [.ref a0, .int x1, .int x2, .int x3, .int x4, .int x5, .ref a6, .ref a7] [.int 0] W3)
    else
     ev_ G 67 67 [.ref a0, .int x1, .int x2, .int x3, .int x4, .int x5, .ref a6, .ref a7] [.int 1] W3)
    zxe)
  zxe :=
 (zx_st (zh_X11_wire G) [44, 67, 94, 137] 400 44 _ _ _).trans rfl
set_option maxRecDepth 100000 in
theorem q_X11_wire_67 (G : Nat × Nat) (a0 : Nat) (x1 : Int32) (x2 : Int32) (x3 : Int32) (x4 : Int32) (x5 : Int32) (a6 : Nat) (a7 : Nat) (x_0 : Int32) (W : zW) : ev_ G 67 67 [.ref a0, .int x1, .int x2, .int x3, .int x4, .int x5, .ref a6, .ref a7] [.int x_0] W =
 zthV (ev_ G 15 0 [.int x_0] [] W)
  (fun W1 =>
 zthI (zck 3 W1 a6 (ev_ G 53 0 [.ref a6, .int x2] [] W1))
   (fun t4 W3 =>
  if t4 = 0 then
    (ev_ G 67 94 [.ref a0, .int x1, .int x2, .int x3, .int x4, .int x5, .ref a6, .ref a7] [.int 0] W3)
   else
    zthI (zck 3 W3 a7 (ev_ G 53 0 [.ref a7, .int x4] [] W3))
     (fun t6 W5 =>
    if t6 = 0 then
      (ev_ G 67 94 [.ref a0, .int x1, .int x2, .int x3, .int x4, .int x5, .ref a6, .ref a7] [.int 0] W5)
     else
      ev_ G 67 94 [.ref a0, .int x1, .int x2, .int x3, .int x4, .int x5, .ref a6, .ref a7] [.int 1] W5)
     zxe)
   zxe)
  zxe :=
 (zx_st (zh_X11_wire G) [44, 67, 94, 137] 400 67 _ _ _).trans rfl
set_option maxRecDepth 100000 in
theorem q_X11_wire_94 (G : Nat × Nat) (a0 : Nat) (x1 : Int32) (x2 : Int32) (x3 : Int32) (x4 : Int32) (x5 : Int32) (a6 : Nat) (a7 : Nat) (x_0 : Int32) (W : zW) : ev_ G 67 94 [.ref a0, .int x1, .int x2, .int x3, .int x4, .int x5, .ref a6, .ref a7] [.int x_0] W =
 zthV (ev_ G 17 0 [.int x_0] [] W)
  (fun W1 =>
 (zgR 12 0 W1 a0).bind fun t3 =>
  (zgR 5 2 W1 t3).bind fun t4 =>
  zthI (zck 0 W1 t4 (ev_ G 16 0 [.ref t4] [] W1))
   (fun t6 W5 =>
  if (24 ≤ t6 : Prop) then
    (ev_ G 67 137 [.ref a0, .int x1, .int x2, .int x3, .int x4, .int x5, .ref a6, .ref a7] [.int 0] W5)
   else
    (zgR 12 0 W5 a0).bind fun t7 =>
    (zgI 3 0 W5 a6).bind fun t8 =>
    (zgI 3 0 W5 a7).bind fun t9 =>
    zthI (zck 5 W5 t7 (ev_ G 59 0 [.ref t7, .int t8, .int t9] [] W5))
     (fun t11 W10 =>
    if t11 = 0 then
      (ev_ G 67 137 [.ref a0, .int x1, .int x2, .int x3, .int x4, .int x5, .ref a6, .ref a7] [.int 0] W10)
     else
      ev_ G 67 137 [.ref a0, .int x1, .int x2, .int x3, .int x4, .int x5, .ref a6, .ref a7] [.int 1] W10)
     zxe)
   zxe)
  zxe :=
 (zx_st (zh_X11_wire G) [44, 67, 94, 137] 400 94 _ _ _).trans rfl
set_option maxRecDepth 100000 in
theorem q_X11_wire_137 (G : Nat × Nat) (a0 : Nat) (x1 : Int32) (x2 : Int32) (x3 : Int32) (x4 : Int32) (x5 : Int32) (a6 : Nat) (a7 : Nat) (x_0 : Int32) (W : zW) : ev_ G 67 137 [.ref a0, .int x1, .int x2, .int x3, .int x4, .int x5, .ref a6, .ref a7] [.int x_0] W =
 zthV (ev_ G 17 0 [.int x_0] [] W)
  (fun W1 =>
 (zgR 12 0 W1 a0).bind fun t3 =>
  zthV (ev_ G 60 0 [.ref W1.1, .ref a6, .int x2, .ref a7, .int x4, .int x5] [] (znew 11 8 [.null, .int 0, .null, .int 0, .int 0, .int 0, .int 0, .null] W1))
   (fun W4 =>
  zthI (zck 5 W4 t3 (ev_ G 66 0 [.ref t3, .ref W1.1] [] W4))
    (fun t7 W6 =>
   some (.inl (some (.int t7)), W6))
    zxe)
   zxe)
  zxe :=
 (zx_st (zh_X11_wire G) [44, 67, 94, 137] 400 137 _ _ _).trans rfl
set_option maxRecDepth 100000 in
theorem q_X11_wireAt_0 (G : Nat × Nat) (a0 : Nat) (x1 : Int32) (W : zW) : ev_ G 76 0 [.ref a0, .int x1] [] W =
 (zgR 12 0 W a0).bind fun t1 =>
 (zgR 5 2 W t1).bind fun t2 =>
 zthI (zck 0 W t2 (ev_ G 16 0 [.ref t2] [] W))
  (fun t4 W3 =>
 zthI (ev_ G 12 0 [.int x1, .int t4] [] W3)
   (fun t6 W5 =>
  if t6 = 0 then
    (some (.inr 0, (W5.1 + 1, W5.2.1 + 6, W5.2.2)))
   else
    (zgR 12 0 W5 a0).bind fun t7 =>
    (zgR 5 2 W5 t7).bind fun t8 =>
    zthR (zck 0 W5 t8 (ev_ G 44 0 [.ref t8, .int x1] [] W5))
     (fun t10 W9 =>
    zck 11 W9 t10 (some (.inl (some (.ref t10)), W9)))
     zxe)
   zxe)
  zxe :=
 (zx_st (zh_X11_wireAt G) [] 400 0 _ _ _).trans rfl
set_option maxRecDepth 100000 in
theorem q_X2_release_0 (G : Nat × Nat) (a0 : Nat) (x1 : Int32) (W : zW) : ev_ G 77 0 [.ref a0, .int x1] [] W =
 (zgI 3 4 W a0).bind fun t1 =>
 (zpt 3 4 W a0 (.int ((t1 &&& ((1 <<< (x1 &&& 31)) ^^^ (-1)))))).bind fun W2 =>
 some (.inl none, W2) :=
 (zx_st (zh_X2_release G) [] 400 0 _ _ _).trans rfl
set_option maxRecDepth 100000 in
theorem q_X10_takeOut_0 (G : Nat × Nat) (a0 : Nat) (W : zW) : ev_ G 78 0 [.ref a0, zU] [] W =
 if (1 : Int32) &&& 1 = 1 then ((zpt 11 6 W a0 (.int 1)).bind fun W1 =>
 (zgR 11 0 W1 a0).bind fun t2 =>
 (zgI 11 1 W1 a0).bind fun t3 =>
 zthV (zck 3 W1 t2 (ev_ G 77 0 [.ref t2, .int t3] [] W1))
  (fun W4 =>
 (zgR 11 2 W4 a0).bind fun t6 =>
  (zgI 11 3 W4 a0).bind fun t7 =>
  zthV (zck 3 W4 t6 (ev_ G 77 0 [.ref t6, .int t7] [] W4))
   (fun W8 =>
  ev_ G 78 29 [.ref a0, .int 0] [] W8)
   zxe)
  zxe) else none :=
 (zx_st (zh_X10_takeOut G) [29] 400 0 _ _ _).trans rfl
set_option maxRecDepth 100000 in
theorem q_X10_takeOut_29 (G : Nat × Nat) (a0 : Nat) (x1 : Int32) (W : zW) : ev_ G 78 29 [.ref a0, .int x1] [] W =
 (zgR 11 7 W a0).bind fun t1 =>
 zthI (zck 0 W t1 (ev_ G 16 0 [.ref t1] [] W))
  (fun t3 W2 =>
 if (t3 ≤ x1 : Prop) then
   (some (.inl none, W2))
  else
   (zgR 11 7 W2 a0).bind fun t4 =>
   zthR (zck 0 W2 t4 (ev_ G 44 0 [.ref t4, .int x1] [] W2))
    (fun t6 W5 =>
   zck 2 W5 t6 ((zgI 2 4 W5 t6).bind fun t7 =>
     (zpt 2 4 W5 t6 (.int (t7 + 1))).bind fun W8 =>
     ev_ G 78 29 [.ref a0, .int (x1 + 1)] [] W8))
    zxe)
  zxe :=
 (zx_st (zh_X10_takeOut G) [29] 400 29 _ _ _).trans rfl
set_option maxRecDepth 100000 in
theorem q_X11_pull_0 (G : Nat × Nat) (a0 : Nat) (x1 : Int32) (W : zW) : ev_ G 79 0 [.ref a0, .int x1, zU] [] W =
 zthR (zck 12 W a0 (ev_ G 76 0 [.ref a0, .int x1] [] W))
  (fun t2 W1 =>
 (zgI 11 6 W1 t2).bind fun t3 =>
  if t3 = 0 then
   (zthV (ev_ G 17 0 [.int 1] [] W1)
     (fun W4 =>
    zthV (zck 11 W4 t2 (ev_ G 78 0 [.ref t2, zU] [] W4))
      (fun W6 =>
     (zgI 11 5 W6 t2).bind fun t8 =>
      some (.inl (some (.int t8)), W6))
      zxe)
     zxe)
  else
   zthV (ev_ G 17 0 [.int 0] [] W1)
    (fun W9 =>
   zthV (zck 11 W9 t2 (ev_ G 78 0 [.ref t2, zU] [] W9))
     (fun W11 =>
    (zgI 11 5 W11 t2).bind fun t13 =>
     some (.inl (some (.int t13)), W11))
     zxe)
    zxe)
  zxe :=
 (zx_st (zh_X11_pull G) [] 400 0 _ _ _).trans rfl
set_option maxRecDepth 100000 in
theorem q_X10_bundleAt_0 (G : Nat × Nat) (a0 : Nat) (x1 : Int32) (W : zW) : ev_ G 84 0 [.ref a0, .int x1] [] W =
 if x1 < 0 then
  (some (.inl (some (.int (-1))), W))
 else
  (zgR 11 7 W a0).bind fun t1 =>
  zthI (zck 0 W t1 (ev_ G 16 0 [.ref t1] [] W))
   (fun t3 W2 =>
  if (t3 ≤ x1 : Prop) then
    (some (.inl (some (.int (-1))), W2))
   else
    (zgR 11 7 W2 a0).bind fun t4 =>
    zthR (zck 0 W2 t4 (ev_ G 44 0 [.ref t4, .int x1] [] W2))
     (fun t6 W5 =>
    zck 2 W5 t6 ((zgI 2 0 W5 t6).bind fun t7 =>
      some (.inl (some (.int t7)), W5)))
     zxe)
   zxe :=
 (zx_st (zh_X10_bundleAt G) [] 400 0 _ _ _).trans rfl
set_option maxRecDepth 100000 in
theorem q_X11_ofWire_0 (G : Nat × Nat) (a0 : Nat) (x1 : Int32) (x2 : Int32) (W : zW) : ev_ G 85 0 [.ref a0, .int x1, .int x2, zU] [] W =
 zthR (zck 12 W a0 (ev_ G 76 0 [.ref a0, .int x1] [] W))
  (fun t2 W1 =>
 if (x2 < (-1) : Prop) then
   (ev_ G 85 16 [.ref a0, .int x1, .int x2, .ref t2] [.int 0] W1)
  else
   ev_ G 85 16 [.ref a0, .int x1, .int x2, .ref t2] [.int 1] W1)
  zxe :=
 (zx_st (zh_X11_ofWire G) [16] 400 0 _ _ _).trans rfl
set_option maxRecDepth 100000 in
theorem q_X11_ofWire_16 (G : Nat × Nat) (a0 : Nat) (x1 : Int32) (x2 : Int32) (a3 : Nat) (x_0 : Int32) (W : zW) : ev_ G 85 16 [.ref a0, .int x1, .int x2, .ref a3] [.int x_0] W =
 zthV (ev_ G 13 0 [.int x_0] [] W)
  (fun W1 =>
 if (x2 = (-1) : Prop) then
   ((zgI 11 6 W1 a3).bind fun t3 =>
    if t3 = 0 then
     ((zgI 11 5 W1 a3).bind fun t4 =>
      some (.inl (some (.int t4)), W1))
    else
     some (.inl (some (.int 0)), W1))
  else
   (zgI 11 6 W1 a3).bind fun t5 =>
   if t5 = 0 then
    (zthI (zck 11 W1 a3 (ev_ G 84 0 [.ref a3, .int x2] [] W1))
      (fun t7 W6 =>
     some (.inl (some (.int t7)), W6))
      zxe)
   else
    some (.inl (some (.int (-1))), W1))
  zxe :=
 (zx_st (zh_X11_ofWire G) [16] 400 16 _ _ _).trans rfl
set_option maxRecDepth 100000 in
theorem q_X5_add_0 (G : Nat × Nat) (a0 : Nat) (x1 : Int32) (x2 : Int32) (W : zW) : ev_ G 94 0 [.ref a0, .int x1, .int x2] [] W =
 (zgR 6 0 W a0).bind fun t1 =>
 (zgI 6 4 W a0).bind fun t2 =>
 zthV (zck 9 W t1 (ev_ G 7 0 [.ref t1, .int t2, .int x1] [] W))
  (fun W3 =>
 (zgR 6 1 W3 a0).bind fun t5 =>
  (zgI 6 4 W3 a0).bind fun t6 =>
  zthV (zck 9 W3 t5 (ev_ G 7 0 [.ref t5, .int t6, .int x2] [] W3))
   (fun W7 =>
  (zgI 6 4 W7 a0).bind fun t9 =>
   (zpt 6 4 W7 a0 (.int (t9 + 1))).bind fun W10 =>
   (zgI 6 4 W10 a0).bind fun t11 =>
   some (.inl (some (.int (t11 - 1))), W10))
   zxe)
  zxe :=
 (zx_st (zh_X5_add G) [] 400 0 _ _ _).trans rfl
set_option maxRecDepth 100000 in
theorem q_X11_order_0 (G : Nat × Nat) (a0 : Nat) (x1 : Int32) (x2 : Int32) (W : zW) : ev_ G 95 0 [.ref a0, .int x1, .int x2] [] W =
 zthI (ev_ G 14 0 [.int x1, .int 0, .int 255] [] W)
  (fun t2 W1 =>
 if t2 = 0 then
   (ev_ G 95 26 [.ref a0, .int x1, .int x2] [.int 0] W1)
  else
   zthI (ev_ G 14 0 [.int x2, .int 1, .int 99] [] W1)
    (fun t4 W3 =>
   if t4 = 0 then
     (ev_ G 95 26 [.ref a0, .int x1, .int x2] [.int 0] W3)
    else
     ev_ G 95 26 [.ref a0, .int x1, .int x2] [.int 1] W3)
    zxe)
  zxe :=
 (zx_st (zh_X11_order G) [26] 400 0 _ _ _).trans rfl
set_option maxRecDepth 100000 in
theorem q_X11_order_26 (G : Nat × Nat) (a0 : Nat) (x1 : Int32) (x2 : Int32) (x_0 : Int32) (W : zW) : ev_ G 95 26 [.ref a0, .int x1, .int x2] [.int x_0] W =
 zthV (ev_ G 15 0 [.int x_0] [] W)
  (fun W1 =>
 (zgR 12 1 W1 a0).bind fun t3 =>
  (zgI 6 4 W1 t3).bind fun t4 =>
  if (5 ≤ t4 : Prop) then
   (zthV (ev_ G 17 0 [.int 0] [] W1)
     (fun W5 =>
    (zgR 12 1 W5 a0).bind fun t7 =>
     zthI (zck 6 W5 t7 (ev_ G 94 0 [.ref t7, .int x1, .int x2] [] W5))
      (fun t9 W8 =>
     some (.inl (some (.int t9)), W8))
      zxe)
     zxe)
  else
   zthV (ev_ G 17 0 [.int 1] [] W1)
    (fun W10 =>
   (zgR 12 1 W10 a0).bind fun t12 =>
    zthI (zck 6 W10 t12 (ev_ G 94 0 [.ref t12, .int x1, .int x2] [] W10))
     (fun t14 W13 =>
    some (.inl (some (.int t14)), W13))
     zxe)
    zxe)
  zxe :=
 (zx_st (zh_X11_order G) [26] 400 26 _ _ _).trans rfl
set_option maxRecDepth 100000 in
theorem q_J9_floorDiv_7cf53_0 (G : Nat × Nat) (x0 : Int32) (x1 : Int32) (W : zW) : ev_ G 114 0 [.int x0, .int x1, zU] [] W =
 if x1 = 0 then none else
 if 0 ≤ (x0 ^^^ x1) then
  (some (.inl (some (.int (x0 / x1))), W))
 else
  if (((x0 / x1) * x1) = x0 : Prop) then
   (some (.inl (some (.int (x0 / x1))), W))
  else
   some (.inl (some (.int ((x0 / x1) - 1))), W) :=
 (zx_st (zh_J9_floorDiv_7cf53 G) [] 400 0 _ _ _).trans rfl
set_option maxRecDepth 100000 in
theorem q_X11_divideDown_0 (G : Nat × Nat) (x0 : Int32) (x1 : Int32) (W : zW) : ev_ G 115 0 [.int x0, .int x1] [] W =
 if (1 ≤ x1 : Prop) then
  (zthI (ev_ G 114 0 [.int x0, .int x1, zU] [] W)
    (fun t2 W1 =>
   some (.inl (some (.int t2)), W1))
    zxe)
 else
  some (.inl (some (.int 0)), W) :=
 (zx_st (zh_X11_divideDown G) [] 400 0 _ _ _).trans rfl
set_option maxRecDepth 100000 in
theorem q_X3_window_0 (G : Nat × Nat) (a0 : Nat) (W : zW) : ev_ G 116 0 [.ref a0, zU, zU] [] W =
 (zgI 4 1 W a0).bind fun t1 =>
 if (3 ≤ t1 : Prop) then
  (ev_ G 116 14 [.ref a0, .int 0, .int 0] [] W)
 else
  some (.inl (some (.int 0)), W) :=
 (zx_st (zh_X3_window G) [14] 400 0 _ _ _).trans rfl
set_option maxRecDepth 100000 in
theorem q_X3_window_14 (G : Nat × Nat) (a0 : Nat) (x1 : Int32) (x2 : Int32) (W : zW) : ev_ G 116 14 [.ref a0, .int x1, .int x2] [] W =
 if (8 ≤ x2 : Prop) then
  ((zgI 4 1 W a0).bind fun t1 =>
   zthI (ev_ G 21 0 [.int t1, .int 8] [] W)
    (fun t3 W2 =>
   zthI (ev_ G 115 0 [.int x1, .int t3] [] W2)
     (fun t5 W4 =>
    some (.inl (some (.int t5)), W4))
     zxe)
    zxe)
 else
  (zgR 4 2 W a0).bind fun t6 =>
  zthI (zck 9 W t6 (ev_ G 54 0 [.ref t6, .int x2] [] W))
   (fun t8 W7 =>
  ev_ G 116 14 [.ref a0, .int (x1 + t8), .int (x2 + 1)] [] W7)
   zxe :=
 (zx_st (zh_X3_window G) [14] 400 14 _ _ _).trans rfl
set_option maxRecDepth 100000 in
theorem q_J9_abs_0f7a4_0 (G : Nat × Nat) (x0 : Int32) (W : zW) : ev_ G 117 0 [.int x0] [] W =
 if 0 ≤ x0 then
  (some (.inl (some (.int x0)), W))
 else
  some (.inl (some (.int (-x0))), W) :=
 (zx_st (zh_J9_abs_0f7a4 G) [] 400 0 _ _ _).trans rfl
set_option maxRecDepth 100000 in
theorem q_X3_judge_0 (G : Nat × Nat) (a0 : Nat) (x1 : Int32) (W : zW) : ev_ G 118 0 [.ref a0, .int x1, zU] [] W =
 (zgI 4 1 W a0).bind fun t1 =>
 if (t1 < 3 : Prop) then
  (ev_ G 118 32 [.ref a0, .int x1, zU] [.int 1] W)
 else
  zthI (zck 4 W a0 (ev_ G 116 0 [.ref a0, zU, zU] [] W))
   (fun t3 W2 =>
  zthI (ev_ G 117 0 [.int (x1 - t3)] [] W2)
    (fun t5 W4 =>
   zthI (zck 4 W4 a0 (ev_ G 116 0 [.ref a0, zU, zU] [] W4))
     (fun t7 W6 =>
    if (t7 < (t5 * 10) : Prop) then
      (ev_ G 118 32 [.ref a0, .int x1, zU] [.int 0] W6)
     else
      ev_ G 118 32 [.ref a0, .int x1, zU] [.int 1] W6)
     zxe)
    zxe)
   zxe :=
 (zx_st (zh_X3_judge G) [32] 400 0 _ _ _).trans rfl
set_option maxRecDepth 100000 in
theorem q_X3_judge_32 (G : Nat × Nat) (a0 : Nat) (x1 : Int32) (x_0 : Int32) (W : zW) : ev_ G 118 32 [.ref a0, .int x1, zU] [.int x_0] W =
 (zgI 4 0 W a0).bind fun t1 =>
 (zpt 4 0 W a0 (.int (t1 + 1))).bind fun W2 =>
 if x_0 = 0 then
  (if x_0 &&& 1 = x_0 then some (.inl (some (.int x_0)), W2) else none)
 else
  (zgI 4 1 W2 a0).bind fun t3 =>
  (zpt 4 1 W2 a0 (.int (t3 + 1))).bind fun W4 =>
  (zgR 4 2 W4 a0).bind fun t5 =>
  (zgI 4 3 W4 a0).bind fun t6 =>
  zthV (zck 9 W4 t5 (ev_ G 7 0 [.ref t5, .int t6, .int x1] [] W4))
   (fun W7 =>
  (zgI 4 3 W7 a0).bind fun t9 =>
   if (8 ≤ (t9 + 1) : Prop) then
    ((zpt 4 3 W7 a0 (.int 0)).bind fun W10 =>
     if x_0 &&& 1 = x_0 then some (.inl (some (.int x_0)), W10) else none)
   else
    (zgI 4 3 W7 a0).bind fun t11 =>
    (zpt 4 3 W7 a0 (.int (t11 + 1))).bind fun W12 =>
    if x_0 &&& 1 = x_0 then some (.inl (some (.int x_0)), W12) else none)
   zxe :=
 (zx_st (zh_X3_judge G) [32] 400 32 _ _ _).trans rfl
set_option maxRecDepth 100000 in
theorem q_X11_crimp_0 (G : Nat × Nat) (a0 : Nat) (x1 : Int32) (W : zW) : ev_ G 119 0 [.ref a0, .int x1] [] W =
 zthI (ev_ G 14 0 [.int x1, .int 1, .int 9999] [] W)
  (fun t2 W1 =>
 zthV (ev_ G 15 0 [.int t2] [] W1)
   (fun W3 =>
  (zgR 12 2 W3 a0).bind fun t5 =>
   zthI (zck 4 W3 t5 (ev_ G 118 0 [.ref t5, .int x1, zU] [] W3))
    (fun t7 W6 =>
   if t7 &&& 1 = t7 then some (.inl (some (.int t7)), W6) else none)
    zxe)
   zxe)
  zxe :=
 (zx_st (zh_X11_crimp G) [] 400 0 _ _ _).trans rfl
set_option maxRecDepth 100000 in
theorem q_X7_init_0 (G : Nat × Nat) (a0 : Nat) (x1 : Int32) (x2 : Int32) (x3 : Int32) (W : zW) : ev_ G 126 0 [.ref a0, .int x1, .int x2, .int x3] [] W =
 (zpt 8 0 W a0 (.int x1)).bind fun W1 =>
 (zpt 8 1 W1 a0 (.int x3)).bind fun W2 =>
 (zpt 8 2 W2 a0 (.int x2)).bind fun W3 =>
 some (.inl none, W3) :=
 (zx_st (zh_X7_init G) [] 400 0 _ _ _).trans rfl
set_option maxRecDepth 100000 in
theorem q_X11_reel_0 (G : Nat × Nat) (a0 : Nat) (x1 : Int32) (x2 : Int32) (x3 : Int32) (W : zW) : ev_ G 127 0 [.ref a0, .int x1, .int x2, .int x3] [] W =
 zthI (ev_ G 12 0 [.int x1, .int 6] [] W)
  (fun t2 W1 =>
 zthV (ev_ G 13 0 [.int t2] [] W1)
   (fun W3 =>
  zthI (ev_ G 14 0 [.int x2, .int 1, .int 99] [] W3)
    (fun t6 W5 =>
   if t6 = 0 then
     (ev_ G 127 35 [.ref a0, .int x1, .int x2, .int x3] [.int 0] W5)
    else
     zthI (ev_ G 14 0 [.int x3, .int 1, .int 5000] [] W5)
      (fun t8 W7 =>
     if t8 = 0 then
       (ev_ G 127 35 [.ref a0, .int x1, .int x2, .int x3] [.int 0] W7)
      else
       ev_ G 127 35 [.ref a0, .int x1, .int x2, .int x3] [.int 1] W7)
      zxe)
    zxe)
   zxe)
  zxe :=
 (zx_st (zh_X11_reel G) [35, 55] 400 0 _ _ _).trans rfl
set_option maxRecDepth 100000 in
theorem q_X11_reel_35 (G : Nat × Nat) (a0 : Nat) (x1 : Int32) (x2 : Int32) (x3 : Int32) (x_0 : Int32) (W : zW) : ev_ G 127 35 [.ref a0, .int x1, .int x2, .int x3] [.int x_0] W =
 zthV (ev_ G 15 0 [.int x_0] [] W)
  (fun W1 =>
 (zgR 12 4 W1 a0).bind fun t3 =>
  zthI (zck 0 W1 t3 (ev_ G 16 0 [.ref t3] [] W1))
   (fun t5 W4 =>
  if (12 ≤ t5 : Prop) then
    (ev_ G 127 55 [.ref a0, .int x1, .int x2, .int x3] [.int 0] W4)
   else
    ev_ G 127 55 [.ref a0, .int x1, .int x2, .int x3] [.int 1] W4)
   zxe)
  zxe :=
 (zx_st (zh_X11_reel G) [35, 55] 400 35 _ _ _).trans rfl
set_option maxRecDepth 100000 in
theorem q_X11_reel_55 (G : Nat × Nat) (a0 : Nat) (x1 : Int32) (x2 : Int32) (x3 : Int32) (x_0 : Int32) (W : zW) : ev_ G 127 55 [.ref a0, .int x1, .int x2, .int x3] [.int x_0] W =
 zthV (ev_ G 17 0 [.int x_0] [] W)
  (fun W1 =>
 (zgR 12 4 W1 a0).bind fun t3 =>
  zthV (ev_ G 126 0 [.ref W1.1, .int x1, .int x2, .int x3] [] (znew 8 5 [.int 0, .int 0, .int 0, .int 0, .int 0] W1))
   (fun W4 =>
  zthI (zck 0 W4 t3 (ev_ G 27 0 [.ref t3, .ref W1.1] [] W4))
    (fun t7 W6 =>
   (zgR 12 4 W6 a0).bind fun t8 =>
    zthI (zck 0 W6 t8 (ev_ G 16 0 [.ref t8] [] W6))
     (fun t10 W9 =>
    some (.inl (some (.int (t10 - 1))), W9))
     zxe)
    zxe)
   zxe)
  zxe :=
 (zx_st (zh_X11_reel G) [35, 55] 400 55 _ _ _).trans rfl
set_option maxRecDepth 100000 in
theorem q_X11_reelAt_0 (G : Nat × Nat) (a0 : Nat) (x1 : Int32) (W : zW) : ev_ G 130 0 [.ref a0, .int x1] [] W =
 (zgR 12 4 W a0).bind fun t1 =>
 zthI (zck 0 W t1 (ev_ G 16 0 [.ref t1] [] W))
  (fun t3 W2 =>
 zthI (ev_ G 12 0 [.int x1, .int t3] [] W2)
   (fun t5 W4 =>
  if t5 = 0 then
    (some (.inr 0, (W4.1 + 1, W4.2.1 + 6, W4.2.2)))
   else
    (zgR 12 4 W4 a0).bind fun t6 =>
    zthR (zck 0 W4 t6 (ev_ G 44 0 [.ref t6, .int x1] [] W4))
     (fun t8 W7 =>
    zck 8 W7 t8 (some (.inl (some (.ref t8)), W7)))
     zxe)
   zxe)
  zxe :=
 (zx_st (zh_X11_reelAt G) [] 400 0 _ _ _).trans rfl
set_option maxRecDepth 100000 in
theorem q_X7_beginClock_0 (G : Nat × Nat) (a0 : Nat) (x1 : Int32) (W : zW) : ev_ G 131 0 [.ref a0, .int x1] [] W =
 if (1 : Int32) &&& 1 = 1 then ((zpt 8 3 W a0 (.int 1)).bind fun W1 =>
 (zpt 8 4 W1 a0 (.int x1)).bind fun W2 =>
 some (.inl none, W2)) else none :=
 (zx_st (zh_X7_beginClock G) [] 400 0 _ _ _).trans rfl
set_option maxRecDepth 100000 in
theorem q_X7_clockAt_0 (G : Nat × Nat) (a0 : Nat) (x1 : Int32) (W : zW) : ev_ G 132 0 [.ref a0, .int x1, zU] [] W =
 (zgI 8 1 W a0).bind fun t1 =>
 (zgI 8 4 W a0).bind fun t2 =>
 (zgI 8 3 W a0).bind fun t3 =>
 if t3 = 0 then
  (some (.inl (some (.int (-1))), W))
 else
  if (t1 - (x1 - t2)) < 0 then
   (some (.inl (some (.int (-1))), W))
  else
   some (.inl (some (.int (t1 - (x1 - t2)))), W) :=
 (zx_st (zh_X7_clockAt G) [] 400 0 _ _ _).trans rfl
set_option maxRecDepth 100000 in
theorem q_X11_open_0 (G : Nat × Nat) (a0 : Nat) (x1 : Int32) (x2 : Int32) (W : zW) : ev_ G 133 0 [.ref a0, .int x1, .int x2, zU] [] W =
 zthR (zck 12 W a0 (ev_ G 130 0 [.ref a0, .int x1] [] W))
  (fun t2 W1 =>
 if x2 = 0 then
   ((zgI 8 3 W1 t2).bind fun t3 =>
    if t3 = 0 then
     (ev_ G 133 22 [.ref a0, .int x1, .int x2, .ref t2] [.int 1] W1)
    else
     ev_ G 133 22 [.ref a0, .int x1, .int x2, .ref t2] [.int 0] W1)
  else
   ev_ G 133 22 [.ref a0, .int x1, .int x2, .ref t2] [.int 1] W1)
  zxe :=
 (zx_st (zh_X11_open G) [22] 400 0 _ _ _).trans rfl
set_option maxRecDepth 100000 in
theorem q_X11_open_22 (G : Nat × Nat) (a0 : Nat) (x1 : Int32) (x2 : Int32) (a3 : Nat) (x_0 : Int32) (W : zW) : ev_ G 133 22 [.ref a0, .int x1, .int x2, .ref a3] [.int x_0] W =
 zthV (ev_ G 17 0 [.int x_0] [] W)
  (fun W1 =>
 (zgI 12 7 W1 a0).bind fun t3 =>
  zthV (zck 8 W1 a3 (ev_ G 131 0 [.ref a3, .int t3] [] W1))
   (fun W4 =>
  (zgI 12 7 W4 a0).bind fun t6 =>
   zthI (zck 8 W4 a3 (ev_ G 132 0 [.ref a3, .int t6, zU] [] W4))
    (fun t8 W7 =>
   some (.inl (some (.int t8)), W7))
    zxe)
   zxe)
  zxe :=
 (zx_st (zh_X11_open G) [22] 400 22 _ _ _).trans rfl
set_option maxRecDepth 100000 in
theorem q_X11_ofReel_0 (G : Nat × Nat) (a0 : Nat) (x1 : Int32) (x2 : Int32) (W : zW) : ev_ G 138 0 [.ref a0, .int x1, .int x2, zU] [] W =
 zthR (zck 12 W a0 (ev_ G 130 0 [.ref a0, .int x1] [] W))
  (fun t2 W1 =>
 zthI (ev_ G 14 0 [.int x2, .int 0, .int 2] [] W1)
   (fun t4 W3 =>
  zthV (ev_ G 13 0 [.int t4] [] W3)
    (fun W5 =>
   if x2 = 0 then
     ((zgI 8 0 W5 t2).bind fun t7 =>
      some (.inl (some (.int t7)), W5))
    else
     if (x2 = 1 : Prop) then
      ((zgI 8 2 W5 t2).bind fun t8 =>
       some (.inl (some (.int t8)), W5))
     else
      (zgI 12 7 W5 a0).bind fun t9 =>
      zthI (zck 8 W5 t2 (ev_ G 132 0 [.ref t2, .int t9, zU] [] W5))
       (fun t11 W10 =>
      some (.inl (some (.int t11)), W10))
       zxe)
    zxe)
   zxe)
  zxe :=
 (zx_st (zh_X11_ofReel G) [] 400 0 _ _ _).trans rfl
set_option maxRecDepth 100000 in
theorem q_X9_init_0 (G : Nat × Nat) (a0 : Nat) (W : zW) : ev_ G 141 0 [.ref a0] [] W =
 (zpt 10 0 W a0 (.int (-1))).bind fun W1 =>
 (zpt 10 1 W1 a0 (.int (-1))).bind fun W2 =>
 (zpt 10 2 W2 a0 (.int (-1))).bind fun W3 =>
 (zpt 10 3 W3 a0 (.int 0)).bind fun W4 =>
 some (.inl none, W4) :=
 (zx_st (zh_X9_init G) [] 400 0 _ _ _).trans rfl
set_option maxRecDepth 100000 in
theorem q_X0_init_0 (G : Nat × Nat) (a0 : Nat) (W : zW) : ev_ G 142 0 [.ref a0, zU] [] W =
 zthV (ev_ G 2 0 [.ref W.1] [] (znew 0 3 [.int 0, .null, .int 0] W))
  (fun W1 =>
 (zpt 1 3 W1 a0 (.ref W.1)).bind fun W3 =>
  zthV (ev_ G 3 0 [.ref W3.1, .int 4] [] (znew 9 1 [.null] W3))
   (fun W4 =>
  (zpt 1 4 W4 a0 (.ref W3.1)).bind fun W6 =>
   ev_ G 142 29 [.ref a0, .int 0] [] W6)
   zxe)
  zxe :=
 (zx_st (zh_X0_init G) [29] 400 0 _ _ _).trans rfl
set_option maxRecDepth 100000 in
theorem q_X0_init_29 (G : Nat × Nat) (a0 : Nat) (x1 : Int32) (W : zW) : ev_ G 142 29 [.ref a0, .int x1] [] W =
 if (8 ≤ x1 : Prop) then
  (some (.inl none, W))
 else
  (zgR 1 3 W a0).bind fun t1 =>
  zthV (ev_ G 141 0 [.ref W.1] [] (znew 10 8 [.int 0, .int 0, .int 0, .int 0, .int 0, .int 0, .int 0, .int 0] W))
   (fun W2 =>
  zthI (zck 0 W2 t1 (ev_ G 27 0 [.ref t1, .ref W.1] [] W2))
    (fun t5 W4 =>
   ev_ G 142 29 [.ref a0, .int (x1 + 1)] [] W4)
    zxe)
   zxe :=
 (zx_st (zh_X0_init G) [29] 400 29 _ _ _).trans rfl
set_option maxRecDepth 100000 in
theorem q_X11_board_0 (G : Nat × Nat) (a0 : Nat) (W : zW) : ev_ G 143 0 [.ref a0] [] W =
 (zgR 12 5 W a0).bind fun t1 =>
 zthI (zck 0 W t1 (ev_ G 16 0 [.ref t1] [] W))
  (fun t3 W2 =>
 if (12 ≤ t3 : Prop) then
   (ev_ G 143 17 [.ref a0] [.int 0] W2)
  else
   ev_ G 143 17 [.ref a0] [.int 1] W2)
  zxe :=
 (zx_st (zh_X11_board G) [17] 400 0 _ _ _).trans rfl
set_option maxRecDepth 100000 in
theorem q_X11_board_17 (G : Nat × Nat) (a0 : Nat) (x_0 : Int32) (W : zW) : ev_ G 143 17 [.ref a0] [.int x_0] W =
 zthV (ev_ G 17 0 [.int x_0] [] W)
  (fun W1 =>
 (zgR 12 5 W1 a0).bind fun t3 =>
  zthV (ev_ G 142 0 [.ref W1.1, zU] [] (znew 1 5 [.int 0, .int 0, .int 0, .null, .null] W1))
   (fun W4 =>
  zthI (zck 0 W4 t3 (ev_ G 27 0 [.ref t3, .ref W1.1] [] W4))
    (fun t7 W6 =>
   (zgR 12 5 W6 a0).bind fun t8 =>
    zthI (zck 0 W6 t8 (ev_ G 16 0 [.ref t8] [] W6))
     (fun t10 W9 =>
    some (.inl (some (.int (t10 - 1))), W9))
     zxe)
    zxe)
   zxe)
  zxe :=
 (zx_st (zh_X11_board G) [17] 400 17 _ _ _).trans rfl
set_option maxRecDepth 100000 in
theorem q_X11_boardAt_0 (G : Nat × Nat) (a0 : Nat) (x1 : Int32) (W : zW) : ev_ G 146 0 [.ref a0, .int x1] [] W =
 (zgR 12 5 W a0).bind fun t1 =>
 zthI (zck 0 W t1 (ev_ G 16 0 [.ref t1] [] W))
  (fun t3 W2 =>
 zthI (ev_ G 12 0 [.int x1, .int t3] [] W2)
   (fun t5 W4 =>
  if t5 = 0 then
    (some (.inr 0, (W4.1 + 1, W4.2.1 + 6, W4.2.2)))
   else
    (zgR 12 5 W4 a0).bind fun t6 =>
    zthR (zck 0 W4 t6 (ev_ G 44 0 [.ref t6, .int x1] [] W4))
     (fun t8 W7 =>
    zck 1 W7 t8 (some (.inl (some (.ref t8)), W7)))
     zxe)
   zxe)
  zxe :=
 (zx_st (zh_X11_boardAt G) [] 400 0 _ _ _).trans rfl
set_option maxRecDepth 100000 in
theorem q_X0_slotAt_0 (G : Nat × Nat) (a0 : Nat) (x1 : Int32) (W : zW) : ev_ G 147 0 [.ref a0, .int x1] [] W =
 (zgR 1 3 W a0).bind fun t1 =>
 zthI (zck 0 W t1 (ev_ G 16 0 [.ref t1] [] W))
  (fun t3 W2 =>
 zthI (ev_ G 12 0 [.int x1, .int t3] [] W2)
   (fun t5 W4 =>
  if t5 = 0 then
    (some (.inr 0, (W4.1 + 1, W4.2.1 + 6, W4.2.2)))
   else
    (zgR 1 3 W4 a0).bind fun t6 =>
    zthR (zck 0 W4 t6 (ev_ G 44 0 [.ref t6, .int x1] [] W4))
     (fun t8 W7 =>
    zck 10 W7 t8 (some (.inl (some (.ref t8)), W7)))
     zxe)
   zxe)
  zxe :=
 (zx_st (zh_X0_slotAt G) [] 400 0 _ _ _).trans rfl
set_option maxRecDepth 100000 in
theorem q_X9_hasPart_0 (G : Nat × Nat) (a0 : Nat) (W : zW) : ev_ G 148 0 [.ref a0] [] W =
 (zgI 10 0 W a0).bind fun t1 =>
 if (t1 = (-1) : Prop) then
  (if (0 : Int32) &&& 1 = 0 then some (.inl (some (.int 0)), W) else none)
 else
  if (1 : Int32) &&& 1 = 1 then some (.inl (some (.int 1)), W) else none :=
 (zx_st (zh_X9_hasPart G) [] 400 0 _ _ _).trans rfl
set_option maxRecDepth 100000 in
theorem q_X7_gives_0 (G : Nat × Nat) (a0 : Nat) (x1 : Int32) (W : zW) : ev_ G 149 0 [.ref a0, .int x1] [] W =
 (zgI 8 2 W a0).bind fun t1 =>
 if t1 ≤ 0 then
  (if (0 : Int32) &&& 1 = 0 then some (.inl (some (.int 0)), W) else none)
 else
  zthI (zck 8 W a0 (ev_ G 132 0 [.ref a0, .int x1, zU] [] W))
   (fun t3 W2 =>
  if (t3 = (-1) : Prop) then
    (if (0 : Int32) &&& 1 = 0 then some (.inl (some (.int 0)), W2) else none)
   else
    if (1 : Int32) &&& 1 = 1 then some (.inl (some (.int 1)), W2) else none)
   zxe :=
 (zx_st (zh_X7_gives G) [] 400 0 _ _ _).trans rfl
set_option maxRecDepth 100000 in
theorem q_X9_fill_0 (G : Nat × Nat) (a0 : Nat) (x1 : Int32) (a2 : Nat) (x3 : Int32) (W : zW) : ev_ G 150 0 [.ref a0, .int x1, .ref a2, .int x3] [] W =
 (zgI 8 2 W a2).bind fun t1 =>
 (zpt 8 2 W a2 (.int (t1 - 1))).bind fun W2 =>
 (zgI 8 0 W2 a2).bind fun t3 =>
 (zpt 10 0 W2 a0 (.int t3)).bind fun W4 =>
 (zpt 10 1 W4 a0 (.int x1)).bind fun W5 =>
 (zpt 10 2 W5 a0 (.int x3)).bind fun W6 =>
 some (.inl none, W6) :=
 (zx_st (zh_X9_fill G) [] 400 0 _ _ _).trans rfl
set_option maxRecDepth 100000 in
theorem q_X11_place_0 (G : Nat × Nat) (a0 : Nat) (x1 : Int32) (x2 : Int32) (x3 : Int32) (W : zW) : ev_ G 151 0 [.ref a0, .int x1, .int x2, .int x3, zU, zU, zU] [] W =
 zthR (zck 12 W a0 (ev_ G 146 0 [.ref a0, .int x1] [] W))
  (fun t2 W1 =>
 zthR (zck 1 W1 t2 (ev_ G 147 0 [.ref t2, .int x2] [] W1))
   (fun t4 W3 =>
  zthR (zck 12 W3 a0 (ev_ G 130 0 [.ref a0, .int x3] [] W3))
    (fun t6 W5 =>
   (zgI 1 0 W5 t2).bind fun t7 =>
    if t7 = 0 then
     (zthI (zck 10 W5 t4 (ev_ G 148 0 [.ref t4] [] W5))
       (fun t9 W8 =>
      if t9 = 0 then
        ((zgI 12 7 W8 a0).bind fun t10 =>
         zthI (zck 8 W8 t6 (ev_ G 149 0 [.ref t6, .int t10] [] W8))
          (fun t12 W11 =>
         if t12 = 0 then
           (ev_ G 151 55 [.ref a0, .int x1, .int x2, .int x3, .ref t2, .ref t4, .ref t6] [.int 0] W11)
          else
           ev_ G 151 55 [.ref a0, .int x1, .int x2, .int x3, .ref t2, .ref t4, .ref t6] [.int 1] W11)
          zxe)
       else
        ev_ G 151 55 [.ref a0, .int x1, .int x2, .int x3, .ref t2, .ref t4, .ref t6] [.int 0] W8)
       zxe)
    else
     ev_ G 151 55 [.ref a0, .int x1, .int x2, .int x3, .ref t2, .ref t4, .ref t6] [.int 0] W5)
    zxe)
   zxe)
  zxe :=
 (zx_st (zh_X11_place G) [55] 400 0 _ _ _).trans rfl
set_option maxRecDepth 100000 in
theorem q_X11_place_55 (G : Nat × Nat) (a0 : Nat) (x1 : Int32) (x2 : Int32) (x3 : Int32) (a4 : Nat) (a5 : Nat) (a6 : Nat) (x_0 : Int32) (W : zW) : ev_ G 151 55 [.ref a0, .int x1, .int x2, .int x3, .ref a4, .ref a5, .ref a6] [.int x_0] W =
 zthV (ev_ G 17 0 [.int x_0] [] W)
  (fun W1 =>
 (zgI 12 7 W1 a0).bind fun t3 =>
  zthV (zck 10 W1 a5 (ev_ G 150 0 [.ref a5, .int x3, .ref a6, .int t3] [] W1))
   (fun W4 =>
  (zgI 8 2 W4 a6).bind fun t6 =>
   some (.inl (some (.int t6)), W4))
   zxe)
  zxe :=
 (zx_st (zh_X11_place G) [55] 400 55 _ _ _).trans rfl
set_option maxRecDepth 100000 in
theorem q_X11_limits_0 (G : Nat × Nat) (a0 : Nat) (x1 : Int32) (x2 : Int32) (x3 : Int32) (x4 : Int32) (W : zW) : ev_ G 157 0 [.ref a0, .int x1, .int x2, .int x3, .int x4] [] W =
 if x1 = 0 then
  (ev_ G 157 11 [.ref a0, .int x1, .int x2, .int x3, .int x4] [.int 6, .int x2] W)
 else
  ev_ G 157 11 [.ref a0, .int x1, .int x2, .int x3, .int x4] [.int 4, .int x2] W :=
 (zx_st (zh_X11_limits G) [11, 49] 400 0 _ _ _).trans rfl
set_option maxRecDepth 100000 in
theorem q_X11_limits_11 (G : Nat × Nat) (a0 : Nat) (x1 : Int32) (x2 : Int32) (x3 : Int32) (x4 : Int32) (x_0 : Int32) (x_1 : Int32) (W : zW) : ev_ G 157 11 [.ref a0, .int x1, .int x2, .int x3, .int x4] [.int x_1, .int x_0] W =
 zthI (ev_ G 12 0 [.int x_0, .int x_1] [] W)
  (fun t2 W1 =>
 zthV (ev_ G 13 0 [.int t2] [] W1)
   (fun W3 =>
  zthI (ev_ G 14 0 [.int x3, .int 0, .int 400] [] W3)
    (fun t6 W5 =>
   if t6 = 0 then
     (ev_ G 157 49 [.ref a0, .int x1, .int x2, .int x3, .int x4] [.int 0] W5)
    else
     if x1 = 0 then
      (zthI (ev_ G 14 0 [.int x4, .int x3, .int 400] [] W5)
        (fun t8 W7 =>
       if t8 = 0 then
         (ev_ G 157 49 [.ref a0, .int x1, .int x2, .int x3, .int x4] [.int 0] W7)
        else
         ev_ G 157 49 [.ref a0, .int x1, .int x2, .int x3, .int x4] [.int 1] W7)
        zxe)
     else
      ev_ G 157 49 [.ref a0, .int x1, .int x2, .int x3, .int x4] [.int 1] W5)
    zxe)
   zxe)
  zxe :=
 (zx_st (zh_X11_limits G) [11, 49] 400 11 _ _ _).trans rfl
set_option maxRecDepth 100000 in
theorem q_X11_limits_49 (G : Nat × Nat) (a0 : Nat) (x1 : Int32) (x2 : Int32) (x3 : Int32) (x4 : Int32) (x_0 : Int32) (W : zW) : ev_ G 157 49 [.ref a0, .int x1, .int x2, .int x3, .int x4] [.int x_0] W =
 zthV (ev_ G 15 0 [.int x_0] [] W)
  (fun W1 =>
 if x1 = 0 then
   ((zgR 12 3 W1 a0).bind fun t3 =>
    (zgR 7 1 W1 t3).bind fun t4 =>
    zthV (zck 9 W1 t4 (ev_ G 7 0 [.ref t4, .int x2, .int x3] [] W1))
     (fun W5 =>
    (zgR 12 3 W5 a0).bind fun t7 =>
     (zgR 7 2 W5 t7).bind fun t8 =>
     zthV (zck 9 W5 t8 (ev_ G 7 0 [.ref t8, .int x2, .int x4] [] W5))
      (fun W9 =>
     some (.inl none, W9))
      zxe)
     zxe)
  else
   (zgR 12 3 W1 a0).bind fun t11 =>
   (zgR 7 0 W1 t11).bind fun t12 =>
   zthV (zck 9 W1 t12 (ev_ G 7 0 [.ref t12, .int x2, .int x3] [] W1))
    (fun W13 =>
   some (.inl none, W13))
    zxe)
  zxe :=
 (zx_st (zh_X11_limits G) [11, 49] 400 49 _ _ _).trans rfl
set_option maxRecDepth 100000 in
theorem q_X8_copyFrom_0 (G : Nat × Nat) (a0 : Nat) (a1 : Nat) (W : zW) : ev_ G 160 0 [.ref a0, .ref a1, zU] [] W =
 ev_ G 160 2 [.ref a0, .ref a1, .int 0] [] W :=
 (zx_st (zh_X8_copyFrom G) [2] 400 0 _ _ _).trans rfl
set_option maxRecDepth 100000 in
theorem q_X8_copyFrom_2 (G : Nat × Nat) (a0 : Nat) (a1 : Nat) (x2 : Int32) (W : zW) : ev_ G 160 2 [.ref a0, .ref a1, .int x2] [] W =
 (zgR 9 0 W a0).bind fun t1 =>
 (zlen W t1).bind fun t2 =>
 if (t2 ≤ x2 : Prop) then
  (some (.inl none, W))
 else
  (zgR 9 0 W a0).bind fun t3 =>
  zthI (zck 9 W a1 (ev_ G 54 0 [.ref a1, .int x2] [] W))
   (fun t5 W4 =>
  (zsto 0 W4 t3 x2 t5).bind fun W6 =>
   ev_ G 160 2 [.ref a0, .ref a1, .int (x2 + 1)] [] W6)
   zxe :=
 (zx_st (zh_X8_copyFrom G) [2] 400 2 _ _ _).trans rfl
set_option maxRecDepth 100000 in
theorem q_X0_mass_0 (G : Nat × Nat) (a0 : Nat) (W : zW) : ev_ G 161 0 [.ref a0, zU, zU] [] W =
 ev_ G 161 4 [.ref a0, .int 2, .int 0] [] W :=
 (zx_st (zh_X0_mass G) [4] 400 0 _ _ _).trans rfl
set_option maxRecDepth 100000 in
theorem q_X0_mass_4 (G : Nat × Nat) (a0 : Nat) (x1 : Int32) (x2 : Int32) (W : zW) : ev_ G 161 4 [.ref a0, .int x1, .int x2] [] W =
 (zgR 1 3 W a0).bind fun t1 =>
 zthI (zck 0 W t1 (ev_ G 16 0 [.ref t1] [] W))
  (fun t3 W2 =>
 if (t3 ≤ x2 : Prop) then
   (some (.inl (some (.int x1)), W2))
  else
   (zgR 1 3 W2 a0).bind fun t4 =>
   zthR (zck 0 W2 t4 (ev_ G 44 0 [.ref t4, .int x2] [] W2))
    (fun t6 W5 =>
   zck 10 W5 t6 (zthI (zck 10 W5 t6 (ev_ G 148 0 [.ref t6] [] W5))
      (fun t8 W7 =>
     if t8 = 0 then
       (ev_ G 161 4 [.ref a0, .int x1, .int (x2 + 1)] [] W7)
      else
       ev_ G 161 4 [.ref a0, .int (x1 + 1), .int (x2 + 1)] [] W7)
      zxe))
    zxe)
  zxe :=
 (zx_st (zh_X0_mass G) [4] 400 4 _ _ _).trans rfl
set_option maxRecDepth 100000 in
theorem q_X6_peakOf_0 (G : Nat × Nat) (a0 : Nat) (x1 : Int32) (W : zW) : ev_ G 162 0 [.ref a0, .int x1, zU, zU, zU, zU] [] W =
 ev_ G 162 8 [.ref a0, .int x1, .int 25, .int 0, .int 0, zU] [] W :=
 (zx_st (zh_X6_peakOf G) [8, 17] 400 0 _ _ _).trans rfl
set_option maxRecDepth 100000 in
theorem q_X6_peakOf_8 (G : Nat × Nat) (a0 : Nat) (x1 : Int32) (x2 : Int32) (x3 : Int32) (x4 : Int32) (u5 : Value) (W : zW) : ev_ G 162 8 [.ref a0, .int x1, .int x2, .int x3, .int x4, u5] [] W =
 if (4 ≤ x4 : Prop) then
  (some (.inl (some (.int x3)), W))
 else
  ev_ G 162 17 [.ref a0, .int x1, .int x2, .int x3, .int x4, .int 0] [] W :=
 (zx_st (zh_X6_peakOf G) [8, 17] 400 8 _ _ _).trans rfl
set_option maxRecDepth 100000 in
theorem q_X6_peakOf_17 (G : Nat × Nat) (a0 : Nat) (x1 : Int32) (x2 : Int32) (x3 : Int32) (x4 : Int32) (x5 : Int32) (W : zW) : ev_ G 162 17 [.ref a0, .int x1, .int x2, .int x3, .int x4, .int x5] [] W =
 if (3 ≤ x5 : Prop) then
  (ev_ G 162 8 [.ref a0, .int x1, .int x2, .int x3, .int (x4 + 1), .int x5] [] W)
 else
  zthI (zck 9 W a0 (ev_ G 54 0 [.ref a0, .int x4] [] W))
   (fun t2 W1 =>
  zthI (ev_ G 115 0 [.int (t2 - x2), .int x1] [] W1)
    (fun t4 W3 =>
   zthI (ev_ G 19 0 [.int x3, .int (x2 + t4)] [] W3)
     (fun t6 W5 =>
    ev_ G 162 17 [.ref a0, .int x1, .int (x2 + t4), .int t6, .int x4, .int (x5 + 1)] [] W5)
     zxe)
    zxe)
   zxe :=
 (zx_st (zh_X6_peakOf G) [8, 17] 400 17 _ _ _).trans rfl
set_option maxRecDepth 100000 in
theorem q_X0_peak_0 (G : Nat × Nat) (a0 : Nat) (W : zW) : ev_ G 163 0 [.ref a0] [] W =
 (zgR 1 4 W a0).bind fun t1 =>
 zthI (zck 1 W a0 (ev_ G 161 0 [.ref a0, zU, zU] [] W))
  (fun t3 W2 =>
 zthI (ev_ G 162 0 [.ref t1, .int t3, zU, zU, zU, zU] [] W2)
   (fun t5 W4 =>
  some (.inl (some (.int t5)), W4))
   zxe)
  zxe :=
 (zx_st (zh_X0_peak G) [] 400 0 _ _ _).trans rfl
set_option maxRecDepth 100000 in
theorem q_X9_jointFor_0 (G : Nat × Nat) (a0 : Nat) (x1 : Int32) (W : zW) : ev_ G 164 0 [.ref a0, .int x1] [] W =
 (zgI 10 6 W a0).bind fun t1 =>
 if (t1 ≤ x1 : Prop) then
  ((zgI 10 7 W a0).bind fun t2 =>
   if (x1 ≤ t2 : Prop) then
    (some (.inl (some (.int 0)), W))
   else
    some (.inl (some (.int 2)), W))
 else
  some (.inl (some (.int 1)), W) :=
 (zx_st (zh_X9_jointFor G) [] 400 0 _ _ _).trans rfl
set_option maxRecDepth 100000 in
theorem q_X9_join_0 (G : Nat × Nat) (a0 : Nat) (a1 : Nat) (x2 : Int32) (W : zW) : ev_ G 165 0 [.ref a0, .ref a1, .int x2] [] W =
 (zgR 7 1 W a1).bind fun t1 =>
 (zgI 10 0 W a0).bind fun t2 =>
 zthI (zck 9 W t1 (ev_ G 54 0 [.ref t1, .int t2] [] W))
  (fun t4 W3 =>
 (zpt 10 6 W3 a0 (.int t4)).bind fun W5 =>
  (zgR 7 2 W5 a1).bind fun t6 =>
  (zgI 10 0 W5 a0).bind fun t7 =>
  zthI (zck 9 W5 t6 (ev_ G 54 0 [.ref t6, .int t7] [] W5))
   (fun t9 W8 =>
  (zpt 10 7 W8 a0 (.int t9)).bind fun W10 =>
   zthI (zck 10 W10 a0 (ev_ G 164 0 [.ref a0, .int x2] [] W10))
    (fun t12 W11 =>
   (zpt 10 3 W11 a0 (.int t12)).bind fun W13 =>
    some (.inl none, W13))
    zxe)
   zxe)
  zxe :=
 (zx_st (zh_X9_join G) [] 400 0 _ _ _).trans rfl
set_option maxRecDepth 100000 in
theorem q_X0_goThrough_0 (G : Nat × Nat) (a0 : Nat) (a1 : Nat) (W : zW) : ev_ G 166 0 [.ref a0, .ref a1, zU, zU, zU] [] W =
 (zgR 1 4 W a0).bind fun t1 =>
 (zgR 7 0 W a1).bind fun t2 =>
 zthV (zck 9 W t1 (ev_ G 160 0 [.ref t1, .ref t2, zU] [] W))
  (fun W3 =>
 if (1 : Int32) &&& 1 = 1 then ((zpt 1 0 W3 a0 (.int 1)).bind fun W5 =>
  zthI (zck 1 W5 a0 (ev_ G 163 0 [.ref a0] [] W5))
   (fun t7 W6 =>
  ev_ G 166 23 [.ref a0, .ref a1, .int t7, .int 0, zU] [] W6)
   zxe) else none)
  zxe :=
 (zx_st (zh_X0_goThrough G) [23] 400 0 _ _ _).trans rfl
set_option maxRecDepth 100000 in
theorem q_X0_goThrough_23 (G : Nat × Nat) (a0 : Nat) (a1 : Nat) (x2 : Int32) (x3 : Int32) (u4 : Value) (W : zW) : ev_ G 166 23 [.ref a0, .ref a1, .int x2, .int x3, u4] [] W =
 (zgR 1 3 W a0).bind fun t1 =>
 zthI (zck 0 W t1 (ev_ G 16 0 [.ref t1] [] W))
  (fun t3 W2 =>
 if (t3 ≤ x3 : Prop) then
   (some (.inl (some (.int x2)), W2))
  else
   (zgR 1 3 W2 a0).bind fun t4 =>
   zthR (zck 0 W2 t4 (ev_ G 44 0 [.ref t4, .int x3] [] W2))
    (fun t6 W5 =>
   zck 10 W5 t6 (zthI (zck 10 W5 t6 (ev_ G 148 0 [.ref t6] [] W5))
      (fun t8 W7 =>
     if t8 = 0 then
       (ev_ G 166 23 [.ref a0, .ref a1, .int x2, .int (x3 + 1), .ref t6] [] W7)
      else
       zthV (zck 10 W7 t6 (ev_ G 165 0 [.ref t6, .ref a1, .int x2] [] W7))
        (fun W9 =>
       ev_ G 166 23 [.ref a0, .ref a1, .int x2, .int (x3 + 1), .ref t6] [] W9)
        zxe)
      zxe))
    zxe)
  zxe :=
 (zx_st (zh_X0_goThrough G) [23] 400 23 _ _ _).trans rfl
set_option maxRecDepth 100000 in
theorem q_X11_solder_0 (G : Nat × Nat) (a0 : Nat) (x1 : Int32) (W : zW) : ev_ G 167 0 [.ref a0, .int x1, zU] [] W =
 zthR (zck 12 W a0 (ev_ G 146 0 [.ref a0, .int x1] [] W))
  (fun t2 W1 =>
 (zgI 1 0 W1 t2).bind fun t3 =>
  if t3 = 0 then
   (zthV (ev_ G 17 0 [.int 1] [] W1)
     (fun W4 =>
    (zgR 12 3 W4 a0).bind fun t6 =>
     zthI (zck 1 W4 t2 (ev_ G 166 0 [.ref t2, .ref t6, zU, zU, zU] [] W4))
      (fun t8 W7 =>
     some (.inl (some (.int t8)), W7))
      zxe)
     zxe)
  else
   zthV (ev_ G 17 0 [.int 0] [] W1)
    (fun W9 =>
   (zgR 12 3 W9 a0).bind fun t11 =>
    zthI (zck 1 W9 t2 (ev_ G 166 0 [.ref t2, .ref t11, zU, zU, zU] [] W9))
     (fun t13 W12 =>
    some (.inl (some (.int t13)), W12))
     zxe)
    zxe)
  zxe :=
 (zx_st (zh_X11_solder G) [] 400 0 _ _ _).trans rfl
set_option maxRecDepth 100000 in
theorem q_X11_flaw_0 (G : Nat × Nat) (a0 : Nat) (x1 : Int32) (x2 : Int32) (W : zW) : ev_ G 172 0 [.ref a0, .int x1, .int x2, zU, zU] [] W =
 zthR (zck 12 W a0 (ev_ G 146 0 [.ref a0, .int x1] [] W))
  (fun t2 W1 =>
 zthR (zck 1 W1 t2 (ev_ G 147 0 [.ref t2, .int x2] [] W1))
   (fun t4 W3 =>
  (zgI 1 0 W3 t2).bind fun t5 =>
   if t5 = 0 then
    (ev_ G 172 40 [.ref a0, .int x1, .int x2, .ref t2, .ref t4] [.int 0] W3)
   else
    (zgI 1 2 W3 t2).bind fun t6 =>
    if t6 = 0 then
     (zthI (zck 10 W3 t4 (ev_ G 148 0 [.ref t4] [] W3))
       (fun t8 W7 =>
      if t8 = 0 then
        (ev_ G 172 40 [.ref a0, .int x1, .int x2, .ref t2, .ref t4] [.int 0] W7)
       else
        ev_ G 172 40 [.ref a0, .int x1, .int x2, .ref t2, .ref t4] [.int 1] W7)
       zxe)
    else
     ev_ G 172 40 [.ref a0, .int x1, .int x2, .ref t2, .ref t4] [.int 0] W3)
   zxe)
  zxe :=
 (zx_st (zh_X11_flaw G) [40] 400 0 _ _ _).trans rfl
set_option maxRecDepth 100000 in
theorem q_X11_flaw_40 (G : Nat × Nat) (a0 : Nat) (x1 : Int32) (x2 : Int32) (a3 : Nat) (a4 : Nat) (x_0 : Int32) (W : zW) : ev_ G 172 40 [.ref a0, .int x1, .int x2, .ref a3, .ref a4] [.int x_0] W =
 zthV (ev_ G 17 0 [.int x_0] [] W)
  (fun W1 =>
 (zpt 10 3 W1 a4 (.int 3)).bind fun W3 =>
  if (0 : Int32) &&& 1 = 0 then ((zpt 10 4 W3 a4 (.int 0)).bind fun W4 =>
  some (.inl none, W4)) else none)
  zxe :=
 (zx_st (zh_X11_flaw G) [40] 400 40 _ _ _).trans rfl
set_option maxRecDepth 100000 in
theorem q_J6_bitCount_0f7a4_0 (G : Nat × Nat) (x0 : Int32) (W : zW) : ev_ G 175 0 [.int x0] [] W =
 some (.inl (some (.int (((((((((x0 - ((z_ushr x0 1) &&& 1431655765)) &&& 858993459) + ((z_ushr (x0 - ((z_ushr x0 1) &&& 1431655765)) 2) &&& 858993459)) + (z_ushr (((x0 - ((z_ushr x0 1) &&& 1431655765)) &&& 858993459) + ((z_ushr (x0 - ((z_ushr x0 1) &&& 1431655765)) 2) &&& 858993459)) 4)) &&& 252645135) + (z_ushr (((((x0 - ((z_ushr x0 1) &&& 1431655765)) &&& 858993459) + ((z_ushr (x0 - ((z_ushr x0 1) &&& 1431655765)) 2) &&& 858993459)) + (z_ushr (((x0 - ((z_ushr x0 1) &&& 1431655765)) &&& 858993459) + ((z_ushr (x0 - ((z_ushr x0 1) &&& 1431655765)) 2) &&& 858993459)) 4)) &&& 252645135) 8)) + (z_ushr ((((((x0 - ((z_ushr x0 1) &&& 1431655765)) &&& 858993459) + ((z_ushr (x0 - ((z_ushr x0 1) &&& 1431655765)) 2) &&& 858993459)) + (z_ushr (((x0 - ((z_ushr x0 1) &&& 1431655765)) &&& 858993459) + ((z_ushr (x0 - ((z_ushr x0 1) &&& 1431655765)) 2) &&& 858993459)) 4)) &&& 252645135) + (z_ushr (((((x0 - ((z_ushr x0 1) &&& 1431655765)) &&& 858993459) + ((z_ushr (x0 - ((z_ushr x0 1) &&& 1431655765)) 2) &&& 858993459)) + (z_ushr (((x0 - ((z_ushr x0 1) &&& 1431655765)) &&& 858993459) + ((z_ushr (x0 - ((z_ushr x0 1) &&& 1431655765)) 2) &&& 858993459)) 4)) &&& 252645135) 8)) 16)) &&& 63)))), W) :=
 (zx_st (zh_J6_bitCount_0f7a4 G) [] 400 0 _ _ _).trans rfl
set_option maxRecDepth 100000 in
theorem q_X11_cover_0 (G : Nat × Nat) (a0 : Nat) (x1 : Int32) (x2 : Int32) (W : zW) : ev_ G 176 0 [.ref a0, .int x1, .int x2] [] W =
 zthI (ev_ G 12 0 [.int x1, .int 8] [] W)
  (fun t2 W1 =>
 zthV (ev_ G 13 0 [.int t2] [] W1)
   (fun W3 =>
  if x2 = 0 then
    ((zgI 12 6 W3 a0).bind fun t5 =>
     (zpt 12 6 W3 a0 (.int ((t5 &&& ((1 <<< (x1 &&& 31)) ^^^ (-1)))))).bind fun W6 =>
     (zgI 12 6 W6 a0).bind fun t7 =>
     zthI (ev_ G 175 0 [.int t7] [] W6)
      (fun t9 W8 =>
     some (.inl (some (.int t9)), W8))
      zxe)
   else
    (zgI 12 6 W3 a0).bind fun t10 =>
    (zpt 12 6 W3 a0 (.int ((t10 ||| (1 <<< (x1 &&& 31)))))).bind fun W11 =>
    (zgI 12 6 W11 a0).bind fun t12 =>
    zthI (ev_ G 175 0 [.int t12] [] W11)
     (fun t14 W13 =>
    some (.inl (some (.int t14)), W13))
     zxe)
   zxe)
  zxe :=
 (zx_st (zh_X11_cover G) [] 400 0 _ _ _).trans rfl
set_option maxRecDepth 100000 in
theorem q_X0_findFaults_0 (G : Nat × Nat) (a0 : Nat) (x1 : Int32) (W : zW) : ev_ G 179 0 [.ref a0, .int x1, zU, zU] [] W =
 if (1 : Int32) &&& 1 = 1 then ((zpt 1 1 W a0 (.int 1)).bind fun W1 =>
 ev_ G 179 7 [.ref a0, .int x1, .int 0, zU] [] W1) else none :=
 (zx_st (zh_X0_findFaults G) [7] 400 0 _ _ _).trans rfl
set_option maxRecDepth 100000 in
theorem q_X0_findFaults_7 (G : Nat × Nat) (a0 : Nat) (x1 : Int32) (x2 : Int32) (u3 : Value) (W : zW) : ev_ G 179 7 [.ref a0, .int x1, .int x2, u3] [] W =
 (zgR 1 3 W a0).bind fun t1 =>
 zthI (zck 0 W t1 (ev_ G 16 0 [.ref t1] [] W))
  (fun t3 W2 =>
 if (t3 ≤ x2 : Prop) then
   (some (.inl none, W2))
  else
   (zgR 1 3 W2 a0).bind fun t4 =>
   zthR (zck 0 W2 t4 (ev_ G 44 0 [.ref t4, .int x2] [] W2))
    (fun t6 W5 =>
   zck 10 W5 t6 (if (x1 &&& (1 <<< (x2 &&& 31))) = 0 then
      (ev_ G 179 7 [.ref a0, .int x1, .int (x2 + 1), .ref t6] [] W5)
     else
      (zgI 10 3 W5 t6).bind fun t7 =>
      if t7 = 0 then
       (ev_ G 179 7 [.ref a0, .int x1, .int (x2 + 1), .ref t6] [] W5)
      else
       if (1 : Int32) &&& 1 = 1 then ((zpt 10 4 W5 t6 (.int 1)).bind fun W8 =>
       ev_ G 179 7 [.ref a0, .int x1, .int (x2 + 1), .ref t6] [] W8) else none))
    zxe)
  zxe :=
 (zx_st (zh_X0_findFaults G) [7] 400 7 _ _ _).trans rfl
set_option maxRecDepth 100000 in
theorem q_X0_faultsFound_0 (G : Nat × Nat) (a0 : Nat) (x1 : Int32) (W : zW) : ev_ G 180 0 [.ref a0, .int x1, zU, zU, zU] [] W =
 ev_ G 180 4 [.ref a0, .int x1, .int 0, .int 0, zU] [] W :=
 (zx_st (zh_X0_faultsFound G) [4] 400 0 _ _ _).trans rfl
set_option maxRecDepth 100000 in
theorem q_X0_faultsFound_4 (G : Nat × Nat) (a0 : Nat) (x1 : Int32) (x2 : Int32) (x3 : Int32) (u4 : Value) (W : zW) : ev_ G 180 4 [.ref a0, .int x1, .int x2, .int x3, u4] [] W =
 (zgR 1 3 W a0).bind fun t1 =>
 zthI (zck 0 W t1 (ev_ G 16 0 [.ref t1] [] W))
  (fun t3 W2 =>
 if (t3 ≤ x3 : Prop) then
   (some (.inl (some (.int x2)), W2))
  else
   (zgR 1 3 W2 a0).bind fun t4 =>
   zthR (zck 0 W2 t4 (ev_ G 44 0 [.ref t4, .int x3] [] W2))
    (fun t6 W5 =>
   zck 10 W5 t6 ((zgI 10 3 W5 t6).bind fun t7 =>
     if t7 = 0 then
      (ev_ G 180 4 [.ref a0, .int x1, .int x2, .int (x3 + 1), .ref t6] [] W5)
     else
      (zgI 10 4 W5 t6).bind fun t8 =>
      if (t8 = x1 : Prop) then
       (ev_ G 180 4 [.ref a0, .int x1, .int (x2 + 1), .int (x3 + 1), .ref t6] [] W5)
      else
       ev_ G 180 4 [.ref a0, .int x1, .int x2, .int (x3 + 1), .ref t6] [] W5))
    zxe)
  zxe :=
 (zx_st (zh_X0_faultsFound G) [4] 400 4 _ _ _).trans rfl
set_option maxRecDepth 100000 in
theorem q_X11_test_0 (G : Nat × Nat) (a0 : Nat) (x1 : Int32) (W : zW) : ev_ G 181 0 [.ref a0, .int x1, zU] [] W =
 zthR (zck 12 W a0 (ev_ G 146 0 [.ref a0, .int x1] [] W))
  (fun t2 W1 =>
 (zgI 1 0 W1 t2).bind fun t3 =>
  if t3 = 0 then
   (ev_ G 181 25 [.ref a0, .int x1, .ref t2] [.int 0] W1)
  else
   (zgI 1 2 W1 t2).bind fun t4 =>
   if t4 = 0 then
    (ev_ G 181 25 [.ref a0, .int x1, .ref t2] [.int 1] W1)
   else
    ev_ G 181 25 [.ref a0, .int x1, .ref t2] [.int 0] W1)
  zxe :=
 (zx_st (zh_X11_test G) [25] 400 0 _ _ _).trans rfl
set_option maxRecDepth 100000 in
theorem q_X11_test_25 (G : Nat × Nat) (a0 : Nat) (x1 : Int32) (a2 : Nat) (x_0 : Int32) (W : zW) : ev_ G 181 25 [.ref a0, .int x1, .ref a2] [.int x_0] W =
 zthV (ev_ G 17 0 [.int x_0] [] W)
  (fun W1 =>
 (zgI 12 6 W1 a0).bind fun t3 =>
  zthV (zck 1 W1 a2 (ev_ G 179 0 [.ref a2, .int t3, zU, zU] [] W1))
   (fun W4 =>
  zthI (zck 1 W4 a2 (ev_ G 180 0 [.ref a2, .int 1, zU, zU, zU] [] W4))
    (fun t7 W6 =>
   some (.inl (some (.int t7)), W6))
    zxe)
   zxe)
  zxe :=
 (zx_st (zh_X11_test G) [25] 400 25 _ _ _).trans rfl
set_option maxRecDepth 100000 in
theorem q_X9_mend_0 (G : Nat × Nat) (a0 : Nat) (W : zW) : ev_ G 185 0 [.ref a0] [] W =
 (zpt 10 3 W a0 (.int 0)).bind fun W1 =>
 if (0 : Int32) &&& 1 = 0 then ((zpt 10 4 W1 a0 (.int 0)).bind fun W2 =>
 if (1 : Int32) &&& 1 = 1 then ((zpt 10 5 W2 a0 (.int 1)).bind fun W3 =>
 some (.inl none, W3)) else none) else none :=
 (zx_st (zh_X9_mend G) [] 400 0 _ _ _).trans rfl
set_option maxRecDepth 100000 in
theorem q_X11_repair_0 (G : Nat × Nat) (a0 : Nat) (x1 : Int32) (x2 : Int32) (x3 : Int32) (W : zW) : ev_ G 186 0 [.ref a0, .int x1, .int x2, .int x3, zU, zU, zU] [] W =
 zthR (zck 12 W a0 (ev_ G 146 0 [.ref a0, .int x1] [] W))
  (fun t2 W1 =>
 zthR (zck 1 W1 t2 (ev_ G 147 0 [.ref t2, .int x2] [] W1))
   (fun t4 W3 =>
  zthR (zck 12 W3 a0 (ev_ G 130 0 [.ref a0, .int x3] [] W3))
    (fun t6 W5 =>
   (zgI 10 4 W5 t4).bind fun t7 =>
    if t7 = 0 then
     (ev_ G 186 43 [.ref a0, .int x1, .int x2, .int x3, .ref t2, .ref t4, .ref t6] [.int 0] W5)
    else
     (zgI 10 5 W5 t4).bind fun t8 =>
     if t8 = 0 then
      (ev_ G 186 43 [.ref a0, .int x1, .int x2, .int x3, .ref t2, .ref t4, .ref t6] [.int 1] W5)
     else
      ev_ G 186 43 [.ref a0, .int x1, .int x2, .int x3, .ref t2, .ref t4, .ref t6] [.int 0] W5)
    zxe)
   zxe)
  zxe :=
 (zx_st (zh_X11_repair G) [43, 76] 400 0 _ _ _).trans rfl
set_option maxRecDepth 100000 in
theorem q_X11_repair_43 (G : Nat × Nat) (a0 : Nat) (x1 : Int32) (x2 : Int32) (x3 : Int32) (a4 : Nat) (a5 : Nat) (a6 : Nat) (x_0 : Int32) (W : zW) : ev_ G 186 43 [.ref a0, .int x1, .int x2, .int x3, .ref a4, .ref a5, .ref a6] [.int x_0] W =
 zthV (ev_ G 17 0 [.int x_0] [] W)
  (fun W1 =>
 (zgI 8 0 W1 a6).bind fun t3 =>
  (zgI 10 0 W1 a5).bind fun t4 =>
  if (t3 = t4 : Prop) then
   ((zgI 12 7 W1 a0).bind fun t5 =>
    zthI (zck 8 W1 a6 (ev_ G 149 0 [.ref a6, .int t5] [] W1))
     (fun t7 W6 =>
    if t7 = 0 then
      (ev_ G 186 76 [.ref a0, .int x1, .int x2, .int x3, .ref a4, .ref a5, .ref a6] [.int 0] W6)
     else
      ev_ G 186 76 [.ref a0, .int x1, .int x2, .int x3, .ref a4, .ref a5, .ref a6] [.int 1] W6)
     zxe)
  else
   ev_ G 186 76 [.ref a0, .int x1, .int x2, .int x3, .ref a4, .ref a5, .ref a6] [.int 0] W1)
  zxe :=
 (zx_st (zh_X11_repair G) [43, 76] 400 43 _ _ _).trans rfl
set_option maxRecDepth 100000 in
theorem q_X11_repair_76 (G : Nat × Nat) (a0 : Nat) (x1 : Int32) (x2 : Int32) (x3 : Int32) (a4 : Nat) (a5 : Nat) (a6 : Nat) (x_0 : Int32) (W : zW) : ev_ G 186 76 [.ref a0, .int x1, .int x2, .int x3, .ref a4, .ref a5, .ref a6] [.int x_0] W =
 zthV (ev_ G 17 0 [.int x_0] [] W)
  (fun W1 =>
 (zgI 12 7 W1 a0).bind fun t3 =>
  zthV (zck 10 W1 a5 (ev_ G 150 0 [.ref a5, .int x3, .ref a6, .int t3] [] W1))
   (fun W4 =>
  zthV (zck 10 W4 a5 (ev_ G 185 0 [.ref a5] [] W4))
    (fun W6 =>
   if (0 : Int32) &&& 1 = 0 then ((zpt 1 1 W6 a4 (.int 0)).bind fun W8 =>
    zthI (zck 1 W8 a4 (ev_ G 180 0 [.ref a4, .int 1, zU, zU, zU] [] W8))
     (fun t10 W9 =>
    some (.inl (some (.int t10)), W9))
     zxe) else none)
    zxe)
   zxe)
  zxe :=
 (zx_st (zh_X11_repair G) [43, 76] 400 76 _ _ _).trans rfl
set_option maxRecDepth 100000 in
theorem q_X11_ship_0 (G : Nat × Nat) (a0 : Nat) (x1 : Int32) (W : zW) : ev_ G 189 0 [.ref a0, .int x1, zU] [] W =
 zthR (zck 12 W a0 (ev_ G 146 0 [.ref a0, .int x1] [] W))
  (fun t2 W1 =>
 (zgI 1 2 W1 t2).bind fun t3 =>
  if t3 = 0 then
   ((zgI 1 1 W1 t2).bind fun t4 =>
    if t4 = 0 then
     (ev_ G 189 33 [.ref a0, .int x1, .ref t2] [.int 0] W1)
    else
     zthI (zck 1 W1 t2 (ev_ G 180 0 [.ref t2, .int 1, zU, zU, zU] [] W1))
      (fun t6 W5 =>
     if t6 = 0 then
       (ev_ G 189 33 [.ref a0, .int x1, .ref t2] [.int 1] W5)
      else
       ev_ G 189 33 [.ref a0, .int x1, .ref t2] [.int 0] W5)
      zxe)
  else
   ev_ G 189 33 [.ref a0, .int x1, .ref t2] [.int 0] W1)
  zxe :=
 (zx_st (zh_X11_ship G) [33] 400 0 _ _ _).trans rfl
set_option maxRecDepth 100000 in
theorem q_X11_ship_33 (G : Nat × Nat) (a0 : Nat) (x1 : Int32) (a2 : Nat) (x_0 : Int32) (W : zW) : ev_ G 189 33 [.ref a0, .int x1, .ref a2] [.int x_0] W =
 zthV (ev_ G 17 0 [.int x_0] [] W)
  (fun W1 =>
 if (1 : Int32) &&& 1 = 1 then ((zpt 1 2 W1 a2 (.int 1)).bind fun W3 =>
  zthI (zck 1 W3 a2 (ev_ G 180 0 [.ref a2, .int 0, zU, zU, zU] [] W3))
   (fun t5 W4 =>
  some (.inl (some (.int t5)), W4))
   zxe) else none)
  zxe :=
 (zx_st (zh_X11_ship G) [33] 400 33 _ _ _).trans rfl
set_option maxRecDepth 100000 in
theorem q_X11_pass_0 (G : Nat × Nat) (a0 : Nat) (x1 : Int32) (W : zW) : ev_ G 192 0 [.ref a0, .int x1] [] W =
 zthI (ev_ G 14 0 [.int x1, .int 1, .int 999] [] W)
  (fun t2 W1 =>
 zthV (ev_ G 15 0 [.int t2] [] W1)
   (fun W3 =>
  (zgI 12 7 W3 a0).bind fun t5 =>
   if (9999 < (t5 + x1) : Prop) then
    (ev_ G 192 28 [.ref a0, .int x1] [.int 0] W3)
   else
    ev_ G 192 28 [.ref a0, .int x1] [.int 1] W3)
   zxe)
  zxe :=
 (zx_st (zh_X11_pass G) [28] 400 0 _ _ _).trans rfl
set_option maxRecDepth 100000 in
theorem q_X11_pass_28 (G : Nat × Nat) (a0 : Nat) (x1 : Int32) (x_0 : Int32) (W : zW) : ev_ G 192 28 [.ref a0, .int x1] [.int x_0] W =
 zthV (ev_ G 17 0 [.int x_0] [] W)
  (fun W1 =>
 (zgI 12 7 W1 a0).bind fun t3 =>
  (zpt 12 7 W1 a0 (.int (t3 + x1))).bind fun W4 =>
  (zgI 12 7 W4 a0).bind fun t5 =>
  some (.inl (some (.int t5)), W4))
  zxe :=
 (zx_st (zh_X11_pass G) [28] 400 28 _ _ _).trans rfl
set_option maxRecDepth 100000 in
theorem q_X11_ofSlot_0 (G : Nat × Nat) (a0 : Nat) (x1 : Int32) (x2 : Int32) (x3 : Int32) (W : zW) : ev_ G 195 0 [.ref a0, .int x1, .int x2, .int x3, zU] [] W =
 zthR (zck 12 W a0 (ev_ G 146 0 [.ref a0, .int x1] [] W))
  (fun t2 W1 =>
 zthR (zck 1 W1 t2 (ev_ G 147 0 [.ref t2, .int x2] [] W1))
   (fun t4 W3 =>
  zthI (ev_ G 14 0 [.int x3, .int 0, .int 3] [] W3)
    (fun t6 W5 =>
   zthV (ev_ G 13 0 [.int t6] [] W5)
     (fun W7 =>
    if x3 = 0 then
      ((zgI 10 1 W7 t4).bind fun t9 =>
       some (.inl (some (.int t9)), W7))
     else
      if (x3 = 1 : Prop) then
       ((zgI 10 2 W7 t4).bind fun t10 =>
        some (.inl (some (.int t10)), W7))
      else
       if (x3 = 2 : Prop) then
        ((zgI 10 4 W7 t4).bind fun t11 =>
         if t11 = 0 then
          (some (.inl (some (.int 0)), W7))
         else
          (zgI 10 3 W7 t4).bind fun t12 =>
          some (.inl (some (.int t12)), W7))
       else
        (zgI 10 5 W7 t4).bind fun t13 =>
        if t13 = 0 then
         (some (.inl (some (.int 0)), W7))
        else
         some (.inl (some (.int 1)), W7))
     zxe)
    zxe)
   zxe)
  zxe :=
 (zx_st (zh_X11_ofSlot G) [] 400 0 _ _ _).trans rfl
set_option maxRecDepth 100000 in
theorem q_X0_hasPartOf_0 (G : Nat × Nat) (a0 : Nat) (x1 : Int32) (W : zW) : ev_ G 201 0 [.ref a0, .int x1, zU] [] W =
 ev_ G 201 2 [.ref a0, .int x1, .int 0] [] W :=
 (zx_st (zh_X0_hasPartOf G) [2] 400 0 _ _ _).trans rfl
set_option maxRecDepth 100000 in
theorem q_X0_hasPartOf_2 (G : Nat × Nat) (a0 : Nat) (x1 : Int32) (x2 : Int32) (W : zW) : ev_ G 201 2 [.ref a0, .int x1, .int x2] [] W =
 (zgR 1 3 W a0).bind fun t1 =>
 zthI (zck 0 W t1 (ev_ G 16 0 [.ref t1] [] W))
  (fun t3 W2 =>
 if (t3 ≤ x2 : Prop) then
   (if (0 : Int32) &&& 1 = 0 then some (.inl (some (.int 0)), W2) else none)
  else
   (zgR 1 3 W2 a0).bind fun t4 =>
   zthR (zck 0 W2 t4 (ev_ G 44 0 [.ref t4, .int x2] [] W2))
    (fun t6 W5 =>
   zck 10 W5 t6 ((zgI 10 1 W5 t6).bind fun t7 =>
     if (t7 = x1 : Prop) then
      (if (1 : Int32) &&& 1 = 1 then some (.inl (some (.int 1)), W5) else none)
     else
      ev_ G 201 2 [.ref a0, .int x1, .int (x2 + 1)] [] W5))
    zxe)
  zxe :=
 (zx_st (zh_X0_hasPartOf G) [2] 400 2 _ _ _).trans rfl
set_option maxRecDepth 100000 in
theorem q_X11_recall_0 (G : Nat × Nat) (a0 : Nat) (x1 : Int32) (W : zW) : ev_ G 202 0 [.ref a0, .int x1, zU, zU, zU] [] W =
 (zgR 12 4 W a0).bind fun t1 =>
 zthI (zck 0 W t1 (ev_ G 16 0 [.ref t1] [] W))
  (fun t3 W2 =>
 zthI (ev_ G 12 0 [.int x1, .int t3] [] W2)
   (fun t5 W4 =>
  zthV (ev_ G 13 0 [.int t5] [] W4)
    (fun W6 =>
   ev_ G 202 18 [.ref a0, .int x1, .int 0, .int 0, zU] [] W6)
    zxe)
   zxe)
  zxe :=
 (zx_st (zh_X11_recall G) [18] 400 0 _ _ _).trans rfl
set_option maxRecDepth 100000 in
theorem q_X11_recall_18 (G : Nat × Nat) (a0 : Nat) (x1 : Int32) (x2 : Int32) (x3 : Int32) (u4 : Value) (W : zW) : ev_ G 202 18 [.ref a0, .int x1, .int x2, .int x3, u4] [] W =
 (zgR 12 5 W a0).bind fun t1 =>
 zthI (zck 0 W t1 (ev_ G 16 0 [.ref t1] [] W))
  (fun t3 W2 =>
 if (t3 ≤ x3 : Prop) then
   (some (.inl (some (.int x2)), W2))
  else
   (zgR 12 5 W2 a0).bind fun t4 =>
   zthR (zck 0 W2 t4 (ev_ G 44 0 [.ref t4, .int x3] [] W2))
    (fun t6 W5 =>
   zck 1 W5 t6 ((zgI 1 2 W5 t6).bind fun t7 =>
     if t7 = 0 then
      (ev_ G 202 18 [.ref a0, .int x1, .int x2, .int (x3 + 1), .ref t6] [] W5)
     else
      zthI (zck 1 W5 t6 (ev_ G 201 0 [.ref t6, .int x1, zU] [] W5))
       (fun t9 W8 =>
      if t9 = 0 then
        (ev_ G 202 18 [.ref a0, .int x1, .int x2, .int (x3 + 1), .ref t6] [] W8)
       else
        ev_ G 202 18 [.ref a0, .int x1, .int (x2 + 1), .int (x3 + 1), .ref t6] [] W8)
       zxe))
    zxe)
  zxe :=
 (zx_st (zh_X11_recall G) [18] 400 18 _ _ _).trans rfl
set_option maxRecDepth 100000 in
theorem q_X5_allOrders_0 (G : Nat × Nat) (a0 : Nat) (W : zW) : ev_ G 98 0 [.ref a0] [] W =
 (zgI 6 4 W a0).bind fun t1 =>
 some (.inl (some (.int (((1 <<< (t1 &&& 31)) - 1)))), W) :=
 (zx_st (zh_X5_allOrders G) [] 400 0 _ _ _).trans rfl
set_option maxRecDepth 100000 in
theorem q_X4_weightOf_0 (G : Nat × Nat) (a0 : Nat) (x1 : Int32) (W : zW) : ev_ G 88 0 [.ref a0, .int x1, zU, zU, zU] [] W =
 ev_ G 88 4 [.ref a0, .int x1, .int 0, .int 0, zU] [] W :=
 (zx_st (zh_X4_weightOf G) [4] 400 0 _ _ _).trans rfl
set_option maxRecDepth 100000 in
theorem q_X4_weightOf_4 (G : Nat × Nat) (a0 : Nat) (x1 : Int32) (x2 : Int32) (x3 : Int32) (u4 : Value) (W : zW) : ev_ G 88 4 [.ref a0, .int x1, .int x2, .int x3, u4] [] W =
 (zgR 5 2 W a0).bind fun t1 =>
 zthI (zck 0 W t1 (ev_ G 16 0 [.ref t1] [] W))
  (fun t3 W2 =>
 if (t3 ≤ x3 : Prop) then
   (some (.inl (some (.int x2)), W2))
  else
   (zgR 5 2 W2 a0).bind fun t4 =>
   zthR (zck 0 W2 t4 (ev_ G 44 0 [.ref t4, .int x3] [] W2))
    (fun t6 W5 =>
   zck 11 W5 t6 ((zgI 11 6 W5 t6).bind fun t7 =>
     if t7 = 0 then
      ((zgI 11 4 W5 t6).bind fun t8 =>
       if (x1 &&& (1 <<< (t8 &&& 31))) = 0 then
        (ev_ G 88 4 [.ref a0, .int x1, .int x2, .int (x3 + 1), .ref t6] [] W5)
       else
        (zgI 11 5 W5 t6).bind fun t9 =>
        ev_ G 88 4 [.ref a0, .int x1, .int (x2 + t9), .int (x3 + 1), .ref t6] [] W5)
     else
      ev_ G 88 4 [.ref a0, .int x1, .int x2, .int (x3 + 1), .ref t6] [] W5))
    zxe)
  zxe :=
 (zx_st (zh_X4_weightOf G) [4] 400 4 _ _ _).trans rfl
set_option maxRecDepth 100000 in
theorem q_X5_weightAsOne_0 (G : Nat × Nat) (a0 : Nat) (a1 : Nat) (x2 : Int32) (W : zW) : ev_ G 99 0 [.ref a0, .ref a1, .int x2, zU, zU, zU] [] W =
 ev_ G 99 8 [.ref a0, .ref a1, .int x2, .int 0, .int 0, .int 0] [] W :=
 (zx_st (zh_X5_weightAsOne G) [8] 400 0 _ _ _).trans rfl
set_option maxRecDepth 100000 in
theorem q_X5_weightAsOne_8 (G : Nat × Nat) (a0 : Nat) (a1 : Nat) (x2 : Int32) (x3 : Int32) (x4 : Int32) (x5 : Int32) (W : zW) : ev_ G 99 8 [.ref a0, .ref a1, .int x2, .int x3, .int x4, .int x5] [] W =
 (zgI 6 4 W a0).bind fun t1 =>
 if (t1 ≤ x5 : Prop) then
  (zthI (zck 5 W a1 (ev_ G 88 0 [.ref a1, .int x3, zU, zU, zU] [] W))
    (fun t3 W2 =>
   some (.inl (some (.int (t3 * x4))), W2))
    zxe)
 else
  if (x2 &&& (1 <<< (x5 &&& 31))) = 0 then
   (ev_ G 99 8 [.ref a0, .ref a1, .int x2, .int x3, .int x4, .int (x5 + 1)] [] W)
  else
   (zgR 6 0 W a0).bind fun t4 =>
   zthI (zck 9 W t4 (ev_ G 54 0 [.ref t4, .int x5] [] W))
    (fun t6 W5 =>
   (zgR 6 1 W5 a0).bind fun t7 =>
    zthI (zck 9 W5 t7 (ev_ G 54 0 [.ref t7, .int x5] [] W5))
     (fun t9 W8 =>
    ev_ G 99 8 [.ref a0, .ref a1, .int x2, .int (x3 ||| t6), .int (x4 + t9), .int (x5 + 1)] [] W8)
     zxe)
    zxe :=
 (zx_st (zh_X5_weightAsOne G) [8] 400 8 _ _ _).trans rfl
set_option maxRecDepth 100000 in
theorem q_X5_weighSets_0 (G : Nat × Nat) (a0 : Nat) (a1 : Nat) (W : zW) : ev_ G 100 0 [.ref a0, .ref a1, zU, zU] [] W =
 zthI (zck 6 W a0 (ev_ G 98 0 [.ref a0] [] W))
  (fun t2 W1 =>
 ev_ G 100 7 [.ref a0, .ref a1, .int t2, .int 0] [] W1)
  zxe :=
 (zx_st (zh_X5_weighSets G) [7] 400 0 _ _ _).trans rfl
set_option maxRecDepth 100000 in
theorem q_X5_weighSets_7 (G : Nat × Nat) (a0 : Nat) (a1 : Nat) (x2 : Int32) (x3 : Int32) (W : zW) : ev_ G 100 7 [.ref a0, .ref a1, .int x2, .int x3] [] W =
 if (x2 < x3 : Prop) then
  (some (.inl none, W))
 else
  (zgR 6 2 W a0).bind fun t1 =>
  zthI (zck 6 W a0 (ev_ G 99 0 [.ref a0, .ref a1, .int x3, zU, zU, zU] [] W))
   (fun t3 W2 =>
  zthV (zck 9 W2 t1 (ev_ G 7 0 [.ref t1, .int x3, .int t3] [] W2))
    (fun W4 =>
   ev_ G 100 7 [.ref a0, .ref a1, .int x2, .int (x3 + 1)] [] W4)
    zxe)
   zxe :=
 (zx_st (zh_X5_weighSets G) [7] 400 7 _ _ _).trans rfl
set_option maxRecDepth 100000 in
theorem q_X5_leastOfRest_0 (G : Nat × Nat) (d : Nat) (a0 : Nat) (x1 : Int32) (x2 : Int32) (W : zW) : ev_ G (d + 1000) 0 [.ref a0, .int x1, .int x2, zU, zU, zU, zU] [] W =
 if x1 = 0 then
  (some (.inl (some (.int 0)), W))
 else
  if (1 ≤ x2 : Prop) then
   (ev_ G (d + 1000) 26 [.ref a0, .int x1, .int x2, .int (x1 &&& (-x1)), .int 1000000000, .int (x1 &&& (-x1)), zU] [] W)
  else
   some (.inl (some (.int 1000000000)), W) :=
 (zx_st (zh_X5_leastOfRest G d) [26] 400 0 _ _ _).trans rfl
set_option maxRecDepth 100000 in
theorem q_X5_leastOfRest_26 (G : Nat × Nat) (d : Nat) (a0 : Nat) (x1 : Int32) (x2 : Int32) (x3 : Int32) (x4 : Int32) (x5 : Int32) (u6 : Value) (W : zW) : ev_ G (d + 1000) 26 [.ref a0, .int x1, .int x2, .int x3, .int x4, .int x5, u6] [] W =
 if (x1 < x5 : Prop) then
  (some (.inl (some (.int x4)), W))
 else
  if (x5 &&& (x1 ^^^ (-1))) = 0 then
   (if (x5 &&& x3) = 0 then
     (ev_ G (d + 1000) 26 [.ref a0, .int x1, .int x2, .int x3, .int x4, .int (x5 + 1), u6] [] W)
    else
     zthI (ev_ G ((d + 1000) - 1) 0 [.ref a0, .int ((x1 &&& (x5 ^^^ (-1)))), .int (x2 - 1), zU, zU, zU, zU] [] W)
      (fun t2 W1 =>
     zthI (zck 9 W1 a0 (ev_ G 54 0 [.ref a0, .int x5] [] W1))
       (fun t4 W3 =>
      zthI (ev_ G 21 0 [.int x4, .int (t4 + t2)] [] W3)
        (fun t6 W5 =>
       ev_ G (d + 1000) 26 [.ref a0, .int x1, .int x2, .int x3, .int t6, .int (x5 + 1), .int t2] [] W5)
        zxe)
       zxe)
      zxe)
  else
   ev_ G (d + 1000) 26 [.ref a0, .int x1, .int x2, .int x3, .int x4, .int (x5 + 1), u6] [] W :=
 (zx_st (zh_X5_leastOfRest G d) [26] 400 26 _ _ _).trans rfl
set_option maxRecDepth 100000 in
theorem q_X5_leastByChoice_0 (G : Nat × Nat) (a0 : Nat) (a1 : Nat) (x2 : Int32) (W : zW) : ev_ G 102 0 [.ref a0, .ref a1, .int x2] [] W =
 zthV (zck 6 W a0 (ev_ G 100 0 [.ref a0, .ref a1, zU, zU] [] W))
  (fun W1 =>
 (zgR 6 2 W1 a0).bind fun t3 =>
  zthI (zck 6 W1 a0 (ev_ G 98 0 [.ref a0] [] W1))
   (fun t5 W4 =>
  zthI (ev_ G 1006 0 [.ref t3, .int t5, .int x2, zU, zU, zU, zU] [] W4)
    (fun t7 W6 =>
   some (.inl (some (.int t7)), W6))
    zxe)
   zxe)
  zxe :=
 (zx_st (zh_X5_leastByChoice G) [] 400 0 _ _ _).trans rfl
set_option maxRecDepth 100000 in
theorem q_X11_least_0 (G : Nat × Nat) (a0 : Nat) (x1 : Int32) (W : zW) : ev_ G 103 0 [.ref a0, .int x1] [] W =
 zthI (ev_ G 14 0 [.int x1, .int 1, .int 5] [] W)
  (fun t2 W1 =>
 zthV (ev_ G 15 0 [.int t2] [] W1)
   (fun W3 =>
  (zgR 12 1 W3 a0).bind fun t5 =>
   (zgR 12 0 W3 a0).bind fun t6 =>
   zthI (zck 6 W3 t5 (ev_ G 102 0 [.ref t5, .ref t6, .int x1] [] W3))
    (fun t8 W7 =>
   some (.inl (some (.int t8)), W7))
    zxe)
   zxe)
  zxe :=
 (zx_st (zh_X11_least G) [] 400 0 _ _ _).trans rfl
set_option maxRecDepth 100000 in
theorem q_X5_leastWithOneMore_0 (G : Nat × Nat) (a0 : Nat) (x1 : Int32) (W : zW) : ev_ G 108 0 [.ref a0, .int x1, zU, zU] [] W =
 (zgR 6 3 W a0).bind fun t1 =>
 zthI (zck 9 W t1 (ev_ G 54 0 [.ref t1, .int x1] [] W))
  (fun t3 W2 =>
 ev_ G 108 11 [.ref a0, .int x1, .int t3, .int 1] [] W2)
  zxe :=
 (zx_st (zh_X5_leastWithOneMore G) [11] 400 0 _ _ _).trans rfl
set_option maxRecDepth 100000 in
theorem q_X5_leastWithOneMore_11 (G : Nat × Nat) (a0 : Nat) (x1 : Int32) (x2 : Int32) (x3 : Int32) (W : zW) : ev_ G 108 11 [.ref a0, .int x1, .int x2, .int x3] [] W =
 if (x1 < x3 : Prop) then
  (some (.inl (some (.int x2)), W))
 else
  if (x3 &&& (x1 ^^^ (-1))) = 0 then
   ((zgR 6 2 W a0).bind fun t1 =>
    zthI (zck 9 W t1 (ev_ G 54 0 [.ref t1, .int x3] [] W))
     (fun t3 W2 =>
    (zgR 6 3 W2 a0).bind fun t4 =>
     zthI (zck 9 W2 t4 (ev_ G 54 0 [.ref t4, .int ((x1 &&& (x3 ^^^ (-1))))] [] W2))
      (fun t6 W5 =>
     zthI (ev_ G 21 0 [.int x2, .int (t3 + t6)] [] W5)
       (fun t8 W7 =>
      ev_ G 108 11 [.ref a0, .int x1, .int t8, .int (x3 + 1)] [] W7)
       zxe)
      zxe)
     zxe)
  else
   ev_ G 108 11 [.ref a0, .int x1, .int x2, .int (x3 + 1)] [] W :=
 (zx_st (zh_X5_leastWithOneMore G) [11] 400 11 _ _ _).trans rfl
set_option maxRecDepth 100000 in
theorem q_X5_addFamily_0 (G : Nat × Nat) (a0 : Nat) (W : zW) : ev_ G 109 0 [.ref a0, zU] [] W =
 zthI (zck 6 W a0 (ev_ G 98 0 [.ref a0] [] W))
  (fun t2 W1 =>
 ev_ G 109 5 [.ref a0, .int t2] [] W1)
  zxe :=
 (zx_st (zh_X5_addFamily G) [5] 400 0 _ _ _).trans rfl
set_option maxRecDepth 100000 in
theorem q_X5_addFamily_5 (G : Nat × Nat) (a0 : Nat) (x1 : Int32) (W : zW) : ev_ G 109 5 [.ref a0, .int x1] [] W =
 if x1 < 0 then
  (some (.inl none, W))
 else
  (zgR 6 3 W a0).bind fun t1 =>
  zthI (zck 6 W a0 (ev_ G 108 0 [.ref a0, .int x1, zU, zU] [] W))
   (fun t3 W2 =>
  zthV (zck 9 W2 t1 (ev_ G 7 0 [.ref t1, .int x1, .int t3] [] W2))
    (fun W4 =>
   ev_ G 109 5 [.ref a0, .int (x1 + (-1))] [] W4)
    zxe)
   zxe :=
 (zx_st (zh_X5_addFamily G) [5] 400 5 _ _ _).trans rfl
set_option maxRecDepth 100000 in
theorem q_X5_leastByTable_0 (G : Nat × Nat) (a0 : Nat) (a1 : Nat) (x2 : Int32) (W : zW) : ev_ G 110 0 [.ref a0, .ref a1, .int x2, zU] [] W =
 zthV (zck 6 W a0 (ev_ G 100 0 [.ref a0, .ref a1, zU, zU] [] W))
  (fun W1 =>
 (zgR 6 3 W1 a0).bind fun t3 =>
  zthV (zck 9 W1 t3 (ev_ G 8 0 [.ref t3, .int 1000000000, zU] [] W1))
   (fun W4 =>
  (zgR 6 3 W4 a0).bind fun t6 =>
   zthV (zck 9 W4 t6 (ev_ G 7 0 [.ref t6, .int 0, .int 0] [] W4))
    (fun W7 =>
   ev_ G 110 25 [.ref a0, .ref a1, .int x2, .int 1] [] W7)
    zxe)
   zxe)
  zxe :=
 (zx_st (zh_X5_leastByTable G) [25] 400 0 _ _ _).trans rfl
set_option maxRecDepth 100000 in
theorem q_X5_leastByTable_25 (G : Nat × Nat) (a0 : Nat) (a1 : Nat) (x2 : Int32) (x3 : Int32) (W : zW) : ev_ G 110 25 [.ref a0, .ref a1, .int x2, .int x3] [] W =
 if (x2 < x3 : Prop) then
  ((zgR 6 3 W a0).bind fun t1 =>
   zthI (zck 6 W a0 (ev_ G 98 0 [.ref a0] [] W))
    (fun t3 W2 =>
   zthI (zck 9 W2 t1 (ev_ G 54 0 [.ref t1, .int t3] [] W2))
     (fun t5 W4 =>
    some (.inl (some (.int t5)), W4))
     zxe)
    zxe)
 else
  zthV (zck 6 W a0 (ev_ G 109 0 [.ref a0, zU] [] W))
   (fun W6 =>
  ev_ G 110 25 [.ref a0, .ref a1, .int x2, .int (x3 + 1)] [] W6)
   zxe :=
 (zx_st (zh_X5_leastByTable G) [25] 400 25 _ _ _).trans rfl
set_option maxRecDepth 100000 in
theorem q_X11_leastAnew_0 (G : Nat × Nat) (a0 : Nat) (x1 : Int32) (W : zW) : ev_ G 111 0 [.ref a0, .int x1] [] W =
 zthI (ev_ G 14 0 [.int x1, .int 1, .int 5] [] W)
  (fun t2 W1 =>
 zthV (ev_ G 15 0 [.int t2] [] W1)
   (fun W3 =>
  (zgR 12 1 W3 a0).bind fun t5 =>
   (zgR 12 0 W3 a0).bind fun t6 =>
   zthI (zck 6 W3 t5 (ev_ G 110 0 [.ref t5, .ref t6, .int x1, zU] [] W3))
    (fun t8 W7 =>
   some (.inl (some (.int t8)), W7))
    zxe)
   zxe)
  zxe :=
 (zx_st (zh_X11_leastAnew G) [] 400 0 _ _ _).trans rfl
set_option maxRecDepth 100000 in
theorem q_X11_crimps_0 (G : Nat × Nat) (a0 : Nat) (x1 : Int32) (W : zW) : ev_ G 123 0 [.ref a0, .int x1] [] W =
 zthI (ev_ G 14 0 [.int x1, .int 0, .int 2] [] W)
  (fun t2 W1 =>
 zthV (ev_ G 15 0 [.int t2] [] W1)
   (fun W3 =>
  if x1 = 0 then
    ((zgR 12 2 W3 a0).bind fun t5 =>
     (zgI 4 0 W3 t5).bind fun t6 =>
     some (.inl (some (.int t6)), W3))
   else
    if (x1 = 1 : Prop) then
     ((zgR 12 2 W3 a0).bind fun t7 =>
      (zgI 4 1 W3 t7).bind fun t8 =>
      some (.inl (some (.int t8)), W3))
    else
     (zgR 12 2 W3 a0).bind fun t9 =>
     zthI (zck 4 W3 t9 (ev_ G 116 0 [.ref t9, zU, zU] [] W3))
      (fun t11 W10 =>
     some (.inl (some (.int t11)), W10))
      zxe)
   zxe)
  zxe :=
 (zx_st (zh_X11_crimps G) [] 400 0 _ _ _).trans rfl
set_option maxRecDepth 100000 in
theorem q_X11_weight_0 (G : Nat × Nat) (a0 : Nat) (x1 : Int32) (W : zW) : ev_ G 89 0 [.ref a0, .int x1] [] W =
 zthI (ev_ G 14 0 [.int x1, .int 0, .int 255] [] W)
  (fun t2 W1 =>
 zthV (ev_ G 15 0 [.int t2] [] W1)
   (fun W3 =>
  (zgR 12 0 W3 a0).bind fun t5 =>
   zthI (zck 5 W3 t5 (ev_ G 88 0 [.ref t5, .int x1, zU, zU, zU] [] W3))
    (fun t7 W6 =>
   some (.inl (some (.int t7)), W6))
    zxe)
   zxe)
  zxe :=
 (zx_st (zh_X11_weight G) [] 400 0 _ _ _).trans rfl
set_option maxRecDepth 100000 in
theorem q_X11_jointAnew_0 (G : Nat × Nat) (a0 : Nat) (x1 : Int32) (x2 : Int32) (W : zW) : ev_ G 198 0 [.ref a0, .int x1, .int x2, zU, zU] [] W =
 zthR (zck 12 W a0 (ev_ G 146 0 [.ref a0, .int x1] [] W))
  (fun t2 W1 =>
 zthR (zck 1 W1 t2 (ev_ G 147 0 [.ref t2, .int x2] [] W1))
   (fun t4 W3 =>
  (zgI 1 0 W3 t2).bind fun t5 =>
   if t5 = 0 then
    (some (.inl (some (.int (-1))), W3))
   else
    zthI (zck 10 W3 t4 (ev_ G 148 0 [.ref t4] [] W3))
     (fun t7 W6 =>
    if t7 = 0 then
      (some (.inl (some (.int (-1))), W6))
     else
      zthI (zck 1 W6 t2 (ev_ G 163 0 [.ref t2] [] W6))
       (fun t9 W8 =>
      zthI (zck 10 W8 t4 (ev_ G 164 0 [.ref t4, .int t9] [] W8))
        (fun t11 W10 =>
       some (.inl (some (.int t11)), W10))
        zxe)
       zxe)
     zxe)
   zxe)
  zxe :=
 (zx_st (zh_X11_jointAnew G) [] 400 0 _ _ _).trans rfl
