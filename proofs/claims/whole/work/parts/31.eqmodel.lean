/-! the reference: its stretches, by program -/
set_option maxRecDepth 100000 in
theorem q_X12_init_0 (G : Nat × Nat) (a0 : Nat) (W : zW) : ev_ G 11 0 [.ref a0, zU] [] W =
 if zbad 16 then none else
 (zpt 13 1 (znai 0 16 W) a0 (.ref W.1)).bind fun W1 =>
 if zbad 16 then none else
 (zpt 13 2 (znai 0 16 W1) a0 (.ref W1.1)).bind fun W2 =>
 if zbad 16 then none else
 (zpt 13 3 (znai 0 16 W2) a0 (.ref W2.1)).bind fun W3 =>
 if zbad 16 then none else
 (zpt 13 4 (znai 0 16 W3) a0 (.ref W3.1)).bind fun W4 =>
 if zbad 8 then none else
 (zpt 13 6 (znai 0 8 W4) a0 (.ref W4.1)).bind fun W5 =>
 if zbad 8 then none else
 (zpt 13 7 (znai 0 8 W5) a0 (.ref W5.1)).bind fun W6 =>
 if zbad 8 then none else
 (zpt 13 8 (znai 0 8 W6) a0 (.ref W6.1)).bind fun W7 =>
 if zbad 8 then none else
 (zpt 13 9 (znai 0 8 W7) a0 (.ref W7.1)).bind fun W8 =>
 if zbad 24 then none else
 (zpt 13 11 (znai 1 24 W8) a0 (.ref W8.1)).bind fun W9 =>
 if zbad 48 then none else
 (zpt 13 12 (znai 0 48 W9) a0 (.ref W9.1)).bind fun W10 =>
 if zbad 24 then none else
 (zpt 13 13 (znai 0 24 W10) a0 (.ref W10.1)).bind fun W11 =>
 if zbad 24 then none else
 (zpt 13 14 (znai 0 24 W11) a0 (.ref W11.1)).bind fun W12 =>
 if zbad 384 then none else
 (zpt 13 15 (znai 0 384 W12) a0 (.ref W12.1)).bind fun W13 =>
 if zbad 8 then none else
 (zpt 13 16 (znai 0 8 W13) a0 (.ref W13.1)).bind fun W14 =>
 if zbad 5 then none else
 (zpt 13 18 (znai 0 5 W14) a0 (.ref W14.1)).bind fun W15 =>
 if zbad 5 then none else
 (zpt 13 19 (znai 0 5 W15) a0 (.ref W15.1)).bind fun W16 =>
 if zbad 5 then none else
 (zpt 13 20 (znai 0 5 W16) a0 (.ref W16.1)).bind fun W17 =>
 if zbad 8 then none else
 (zpt 13 23 (znai 0 8 W17) a0 (.ref W17.1)).bind fun W18 =>
 if zbad 12 then none else
 (zpt 13 26 (znai 0 12 W18) a0 (.ref W18.1)).bind fun W19 =>
 if zbad 12 then none else
 (zpt 13 27 (znai 0 12 W19) a0 (.ref W19.1)).bind fun W20 =>
 if zbad 12 then none else
 (zpt 13 28 (znai 0 12 W20) a0 (.ref W20.1)).bind fun W21 =>
 if zbad 12 then none else
 (zpt 13 29 (znai 0 12 W21) a0 (.ref W21.1)).bind fun W22 =>
 if zbad 4 then none else
 (zpt 13 30 (znai 0 4 W22) a0 (.ref W22.1)).bind fun W23 =>
 if zbad 6 then none else
 (zpt 13 31 (znai 0 6 W23) a0 (.ref W23.1)).bind fun W24 =>
 if zbad 6 then none else
 (zpt 13 32 (znai 0 6 W24) a0 (.ref W24.1)).bind fun W25 =>
 if zbad 8 then none else
 (zpt 13 33 (znai 1 8 W25) a0 (.ref W25.1)).bind fun W26 =>
 if zbad 12 then none else
 (zpt 13 35 (znai 1 12 W26) a0 (.ref W26.1)).bind fun W27 =>
 if zbad 12 then none else
 (zpt 13 36 (znai 1 12 W27) a0 (.ref W27.1)).bind fun W28 =>
 if zbad 12 then none else
 (zpt 13 37 (znai 1 12 W28) a0 (.ref W28.1)).bind fun W29 =>
 if zbad 96 then none else
 (zpt 13 38 (znai 0 96 W29) a0 (.ref W29.1)).bind fun W30 =>
 if zbad 96 then none else
 (zpt 13 39 (znai 0 96 W30) a0 (.ref W30.1)).bind fun W31 =>
 if zbad 96 then none else
 (zpt 13 40 (znai 0 96 W31) a0 (.ref W31.1)).bind fun W32 =>
 if zbad 96 then none else
 (zpt 13 41 (znai 0 96 W32) a0 (.ref W32.1)).bind fun W33 =>
 if zbad 96 then none else
 (zpt 13 42 (znai 1 96 W33) a0 (.ref W33.1)).bind fun W34 =>
 if zbad 96 then none else
 (zpt 13 43 (znai 1 96 W34) a0 (.ref W34.1)).bind fun W35 =>
 ev_ G 11 283 [.ref a0, .int 0] [] W35 :=
 (zx_st (zh_X12_init G) [283, 304, 339, 360] 400 0 _ _ _).trans rfl
set_option maxRecDepth 100000 in
theorem q_X12_init_283 (G : Nat × Nat) (a0 : Nat) (x1 : Int32) (W : zW) : ev_ G 11 283 [.ref a0, .int x1] [] W =
 if (8 ≤ x1 : Prop) then
  (ev_ G 11 304 [.ref a0, .int 0] [] W)
 else
  (zgR 13 9 W a0).bind fun t1 =>
  (zsto 0 W t1 x1 (-1)).bind fun W2 =>
  ev_ G 11 283 [.ref a0, .int (x1 + 1)] [] W2 :=
 (zx_st (zh_X12_init G) [283, 304, 339, 360] 400 283 _ _ _).trans rfl
set_option maxRecDepth 100000 in
theorem q_X12_init_304 (G : Nat × Nat) (a0 : Nat) (x1 : Int32) (W : zW) : ev_ G 11 304 [.ref a0, .int x1] [] W =
 if (96 ≤ x1 : Prop) then
  (ev_ G 11 339 [.ref a0, .int 0] [] W)
 else
  (zgR 13 38 W a0).bind fun t1 =>
  (zsto 0 W t1 x1 (-1)).bind fun W2 =>
  (zgR 13 39 W2 a0).bind fun t3 =>
  (zsto 0 W2 t3 x1 (-1)).bind fun W4 =>
  (zgR 13 40 W4 a0).bind fun t5 =>
  (zsto 0 W4 t5 x1 (-1)).bind fun W6 =>
  ev_ G 11 304 [.ref a0, .int (x1 + 1)] [] W6 :=
 (zx_st (zh_X12_init G) [283, 304, 339, 360] 400 304 _ _ _).trans rfl
set_option maxRecDepth 100000 in
theorem q_X12_init_339 (G : Nat × Nat) (a0 : Nat) (x1 : Int32) (W : zW) : ev_ G 11 339 [.ref a0, .int x1] [] W =
 if (8 ≤ x1 : Prop) then
  (ev_ G 11 360 [.ref a0, .int 0] [] W)
 else
  (zgR 13 33 W a0).bind fun t1 =>
  (zsto 1 W t1 x1 (1 &&& 1)).bind fun W2 =>
  ev_ G 11 339 [.ref a0, .int (x1 + 1)] [] W2 :=
 (zx_st (zh_X12_init G) [283, 304, 339, 360] 400 339 _ _ _).trans rfl
set_option maxRecDepth 100000 in
theorem q_X12_init_360 (G : Nat × Nat) (a0 : Nat) (x1 : Int32) (W : zW) : ev_ G 11 360 [.ref a0, .int x1] [] W =
 if (6 ≤ x1 : Prop) then
  ((zgR 13 30 W a0).bind fun t1 =>
   (zsto 0 W t1 0 150).bind fun W2 =>
   (zgR 13 30 W2 a0).bind fun t3 =>
   (zsto 0 W2 t3 1 200).bind fun W4 =>
   (zgR 13 30 W4 a0).bind fun t5 =>
   (zsto 0 W4 t5 2 240).bind fun W6 =>
   (zgR 13 30 W6 a0).bind fun t7 =>
   (zsto 0 W6 t7 3 100).bind fun W8 =>
   some (.inl none, W8))
 else
  (zgR 13 31 W a0).bind fun t9 =>
  (zsto 0 W t9 x1 180).bind fun W10 =>
  (zgR 13 32 W10 a0).bind fun t11 =>
  (zsto 0 W10 t11 x1 260).bind fun W12 =>
  ev_ G 11 360 [.ref a0, .int (x1 + 1)] [] W12 :=
 (zx_st (zh_X12_init G) [283, 304, 339, 360] 400 360 _ _ _).trans rfl
set_option maxRecDepth 100000 in
theorem q_X12_isIn_0 (G : Nat × Nat) (x0 : Int32) (x1 : Int32) (x2 : Int32) (W : zW) : ev_ G 31 0 [.int x0, .int x1, .int x2] [] W =
 if (x0 < x1 : Prop) then
  (if (0 : Int32) &&& 1 = 0 then some (.inl (some (.int 0)), W) else none)
 else
  if (x2 < x0 : Prop) then
   (if (0 : Int32) &&& 1 = 0 then some (.inl (some (.int 0)), W) else none)
  else
   if (1 : Int32) &&& 1 = 1 then some (.inl (some (.int 1)), W) else none :=
 (zx_st (zh_X12_isIn G) [] 400 0 _ _ _).trans rfl
set_option maxRecDepth 100000 in
theorem q_X12_isNode_0 (G : Nat × Nat) (x0 : Int32) (W : zW) : ev_ G 32 0 [.int x0] [] W =
 zthI (ev_ G 31 0 [.int x0, .int 0, .int 7] [] W)
  (fun t2 W1 =>
 if t2 &&& 1 = t2 then some (.inl (some (.int t2)), W1) else none)
  zxe :=
 (zx_st (zh_X12_isNode G) [] 400 0 _ _ _).trans rfl
set_option maxRecDepth 100000 in
theorem q_X12_fails_0 (G : Nat × Nat) (a0 : Nat) (x1 : Int32) (W : zW) : ev_ G 33 0 [.ref a0, .int x1] [] W =
 (zpt 13 44 W a0 (.int x1)).bind fun W1 =>
 if x1 ≤ 0 then
  (if (0 : Int32) &&& 1 = 0 then some (.inl (some (.int 0)), W1) else none)
 else
  if (1 : Int32) &&& 1 = 1 then some (.inl (some (.int 1)), W1) else none :=
 (zx_st (zh_X12_fails G) [] 400 0 _ _ _).trans rfl
set_option maxRecDepth 100000 in
theorem q_X12_bundle_0 (G : Nat × Nat) (a0 : Nat) (x1 : Int32) (x2 : Int32) (x3 : Int32) (x4 : Int32) (W : zW) : ev_ G 34 0 [.ref a0, .int x1, .int x2, .int x3, .int x4, zU, zU] [] W =
 zthI (ev_ G 32 0 [.int x1] [] W)
  (fun t2 W1 =>
 if t2 = 0 then
   (ev_ G 34 19 [.ref a0, .int x1, .int x2, .int x3, .int x4, zU, zU] [.int 0] W1)
  else
   zthI (ev_ G 32 0 [.int x2] [] W1)
    (fun t4 W3 =>
   if t4 = 0 then
     (ev_ G 34 19 [.ref a0, .int x1, .int x2, .int x3, .int x4, zU, zU] [.int 0] W3)
    else
     ev_ G 34 19 [.ref a0, .int x1, .int x2, .int x3, .int x4, zU, zU] [.int 1] W3)
    zxe)
  zxe :=
 (zx_st (zh_X12_bundle G) [19, 53, 88] 400 0 _ _ _).trans rfl
set_option maxRecDepth 100000 in
theorem q_X12_bundle_19 (G : Nat × Nat) (a0 : Nat) (x1 : Int32) (x2 : Int32) (x3 : Int32) (x4 : Int32) (x_0 : Int32) (W : zW) : ev_ G 34 19 [.ref a0, .int x1, .int x2, .int x3, .int x4, zU, zU] [.int x_0] W =
 if (x1 = x2 : Prop) then
  (ev_ G 34 53 [.ref a0, .int x1, .int x2, .int x3, .int x4, .int x_0, zU] [.int 0] W)
 else
  zthI (ev_ G 31 0 [.int x3, .int 1, .int 999] [] W)
   (fun t2 W1 =>
  if t2 = 0 then
    (ev_ G 34 53 [.ref a0, .int x1, .int x2, .int x3, .int x4, .int x_0, zU] [.int 0] W1)
   else
    zthI (ev_ G 31 0 [.int x4, .int 1, .int 24] [] W1)
     (fun t4 W3 =>
    if t4 = 0 then
      (ev_ G 34 53 [.ref a0, .int x1, .int x2, .int x3, .int x4, .int x_0, zU] [.int 0] W3)
     else
      ev_ G 34 53 [.ref a0, .int x1, .int x2, .int x3, .int x4, .int x_0, zU] [.int 1] W3)
     zxe)
   zxe :=
 (zx_st (zh_X12_bundle G) [19, 53, 88] 400 19 _ _ _).trans rfl
set_option maxRecDepth 100000 in
theorem q_X12_bundle_53 (G : Nat × Nat) (a0 : Nat) (x1 : Int32) (x2 : Int32) (x3 : Int32) (x4 : Int32) (x5 : Int32) (x_0 : Int32) (W : zW) : ev_ G 34 53 [.ref a0, .int x1, .int x2, .int x3, .int x4, .int x5, zU] [.int x_0] W =
 if x5 = 0 then
  (ev_ G 34 88 [.ref a0, .int x1, .int x2, .int x3, .int x4, .int x5, .int x_0] [.int 1, .ref a0] W)
 else
  if x_0 = 0 then
   (ev_ G 34 88 [.ref a0, .int x1, .int x2, .int x3, .int x4, .int x5, .int x_0] [.int 2, .ref a0] W)
  else
   (zgI 13 0 W a0).bind fun t1 =>
   if (t1 = 16 : Prop) then
    (ev_ G 34 88 [.ref a0, .int x1, .int x2, .int x3, .int x4, .int x5, .int x_0] [.int 3, .ref a0] W)
   else
    ev_ G 34 88 [.ref a0, .int x1, .int x2, .int x3, .int x4, .int x5, .int x_0] [.int 0, .ref a0] W :=
 (zx_st (zh_X12_bundle G) [19, 53, 88] 400 53 _ _ _).trans rfl
set_option maxRecDepth 100000 in
theorem q_X12_bundle_88 (G : Nat × Nat) (a0 : Nat) (x1 : Int32) (x2 : Int32) (x3 : Int32) (x4 : Int32) (x5 : Int32) (x6 : Int32) (a_0 : Nat) (x_1 : Int32) (W : zW) : ev_ G 34 88 [.ref a0, .int x1, .int x2, .int x3, .int x4, .int x5, .int x6] [.int x_1, .ref a_0] W =
 zthI (zck 13 W a_0 (ev_ G 33 0 [.ref a_0, .int x_1] [] W))
  (fun t2 W1 =>
 if t2 = 0 then
   ((zgR 13 1 W1 a0).bind fun t3 =>
    (zgI 13 0 W1 a0).bind fun t4 =>
    (zsto 0 W1 t3 t4 x1).bind fun W5 =>
    (zgR 13 2 W5 a0).bind fun t6 =>
    (zgI 13 0 W5 a0).bind fun t7 =>
    (zsto 0 W5 t6 t7 x2).bind fun W8 =>
    (zgR 13 3 W8 a0).bind fun t9 =>
    (zgI 13 0 W8 a0).bind fun t10 =>
    (zsto 0 W8 t9 t10 x3).bind fun W11 =>
    (zgR 13 4 W11 a0).bind fun t12 =>
    (zgI 13 0 W11 a0).bind fun t13 =>
    (zsto 0 W11 t12 t13 x4).bind fun W14 =>
    (zgI 13 0 W14 a0).bind fun t15 =>
    (zpt 13 0 W14 a0 (.int (t15 + 1))).bind fun W16 =>
    (zgI 13 0 W16 a0).bind fun t17 =>
    some (.inl (some (.int (t17 - 1))), W16))
  else
   some (.inl (some (.int 0)), W1))
  zxe :=
 (zx_st (zh_X12_bundle G) [19, 53, 88] 400 88 _ _ _).trans rfl
set_option maxRecDepth 100000 in
theorem q_X12_thrown_0 (G : Nat × Nat) (a0 : Nat) (W : zW) : ev_ G 35 0 [.ref a0] [] W =
 (zgI 13 44 W a0).bind fun t1 =>
 some (.inl (some (.int t1)), W) :=
 (zx_st (zh_X12_thrown G) [] 400 0 _ _ _).trans rfl
set_option maxRecDepth 100000 in
theorem q_X12_connector_0 (G : Nat × Nat) (a0 : Nat) (x1 : Int32) (x2 : Int32) (x3 : Int32) (W : zW) : ev_ G 40 0 [.ref a0, .int x1, .int x2, .int x3, zU] [] W =
 zthI (ev_ G 31 0 [.int x2, .int 1, .int 8] [] W)
  (fun t2 W1 =>
 if t2 = 0 then
   (ev_ G 40 25 [.ref a0, .int x1, .int x2, .int x3, zU] [.int 0] W1)
  else
   zthI (ev_ G 31 0 [.int x3, .int 0, .int 9] [] W1)
    (fun t4 W3 =>
   if t4 = 0 then
     (ev_ G 40 25 [.ref a0, .int x1, .int x2, .int x3, zU] [.int 0] W3)
    else
     ev_ G 40 25 [.ref a0, .int x1, .int x2, .int x3, zU] [.int 1] W3)
    zxe)
  zxe :=
 (zx_st (zh_X12_connector G) [25, 62] 400 0 _ _ _).trans rfl
set_option maxRecDepth 100000 in
theorem q_X12_connector_25 (G : Nat × Nat) (a0 : Nat) (x1 : Int32) (x2 : Int32) (x3 : Int32) (x_0 : Int32) (W : zW) : ev_ G 40 25 [.ref a0, .int x1, .int x2, .int x3, zU] [.int x_0] W =
 zthI (ev_ G 32 0 [.int x1] [] W)
  (fun t2 W1 =>
 if t2 = 0 then
   (ev_ G 40 62 [.ref a0, .int x1, .int x2, .int x3, .int x_0] [.int 1, .ref a0] W1)
  else
   if x_0 = 0 then
    (ev_ G 40 62 [.ref a0, .int x1, .int x2, .int x3, .int x_0] [.int 2, .ref a0] W1)
   else
    (zgI 13 5 W1 a0).bind fun t3 =>
    if (t3 = 8 : Prop) then
     (ev_ G 40 62 [.ref a0, .int x1, .int x2, .int x3, .int x_0] [.int 3, .ref a0] W1)
    else
     ev_ G 40 62 [.ref a0, .int x1, .int x2, .int x3, .int x_0] [.int 0, .ref a0] W1)
  zxe :=
 (zx_st (zh_X12_connector G) [25, 62] 400 25 _ _ _).trans rfl
set_option maxRecDepth 100000 in
theorem q_X12_connector_62 (G : Nat × Nat) (a0 : Nat) (x1 : Int32) (x2 : Int32) (x3 : Int32) (x4 : Int32) (a_0 : Nat) (x_1 : Int32) (W : zW) : ev_ G 40 62 [.ref a0, .int x1, .int x2, .int x3, .int x4] [.int x_1, .ref a_0] W =
 zthI (zck 13 W a_0 (ev_ G 33 0 [.ref a_0, .int x_1] [] W))
  (fun t2 W1 =>
 if t2 = 0 then
   ((zgR 13 6 W1 a0).bind fun t3 =>
    (zgI 13 5 W1 a0).bind fun t4 =>
    (zsto 0 W1 t3 t4 x1).bind fun W5 =>
    (zgR 13 7 W5 a0).bind fun t6 =>
    (zgI 13 5 W5 a0).bind fun t7 =>
    (zsto 0 W5 t6 t7 x2).bind fun W8 =>
    (zgR 13 8 W8 a0).bind fun t9 =>
    (zgI 13 5 W8 a0).bind fun t10 =>
    (zsto 0 W8 t9 t10 x3).bind fun W11 =>
    (zgI 13 5 W11 a0).bind fun t12 =>
    (zpt 13 5 W11 a0 (.int (t12 + 1))).bind fun W13 =>
    (zgI 13 5 W13 a0).bind fun t14 =>
    some (.inl (some (.int (t14 - 1))), W13))
  else
   some (.inl (some (.int 0)), W1))
  zxe :=
 (zx_st (zh_X12_connector G) [25, 62] 400 62 _ _ _).trans rfl
set_option maxRecDepth 100000 in
theorem q_X12_isConnector_0 (G : Nat × Nat) (a0 : Nat) (x1 : Int32) (W : zW) : ev_ G 50 0 [.ref a0, .int x1] [] W =
 (zgI 13 5 W a0).bind fun t1 =>
 zthI (ev_ G 31 0 [.int x1, .int 0, .int (t1 - 1)] [] W)
  (fun t3 W2 =>
 if t3 &&& 1 = t3 then some (.inl (some (.int t3)), W2) else none)
  zxe :=
 (zx_st (zh_X12_isConnector G) [] 400 0 _ _ _).trans rfl
set_option maxRecDepth 100000 in
theorem q_X12_fit_0 (G : Nat × Nat) (a0 : Nat) (x1 : Int32) (x2 : Int32) (W : zW) : ev_ G 51 0 [.ref a0, .int x1, .int x2] [] W =
 (zgR 13 7 W a0).bind fun t1 =>
 (zld false W t1 x1).bind fun t2 =>
 (zgR 13 7 W a0).bind fun t3 =>
 (zld false W t3 x2).bind fun t4 =>
 if (t2 = t4 : Prop) then
  ((zgR 13 8 W a0).bind fun t5 =>
   (zld false W t5 x1).bind fun t6 =>
   (zgR 13 8 W a0).bind fun t7 =>
   (zld false W t7 x2).bind fun t8 =>
   if (t6 = t8 : Prop) then
    (if (1 : Int32) &&& 1 = 1 then some (.inl (some (.int 1)), W) else none)
   else
    if (0 : Int32) &&& 1 = 0 then some (.inl (some (.int 0)), W) else none)
 else
  if (0 : Int32) &&& 1 = 0 then some (.inl (some (.int 0)), W) else none :=
 (zx_st (zh_X12_fit G) [] 400 0 _ _ _).trans rfl
set_option maxRecDepth 100000 in
theorem q_X12_mates_0 (G : Nat × Nat) (a0 : Nat) (x1 : Int32) (x2 : Int32) (W : zW) : ev_ G 52 0 [.ref a0, .int x1, .int x2, zU, zU, zU, zU] [] W =
 zthI (zck 13 W a0 (ev_ G 50 0 [.ref a0, .int x1] [] W))
  (fun t2 W1 =>
 if t2 = 0 then
   (ev_ G 52 21 [.ref a0, .int x1, .int x2, zU, zU, zU, zU] [.int 0] W1)
  else
   zthI (zck 13 W1 a0 (ev_ G 50 0 [.ref a0, .int x2] [] W1))
    (fun t4 W3 =>
   if t4 = 0 then
     (ev_ G 52 21 [.ref a0, .int x1, .int x2, zU, zU, zU, zU] [.int 0] W3)
    else
     ev_ G 52 21 [.ref a0, .int x1, .int x2, zU, zU, zU, zU] [.int 1] W3)
    zxe)
  zxe :=
 (zx_st (zh_X12_mates G) [21, 74, 102, 114] 400 0 _ _ _).trans rfl
set_option maxRecDepth 100000 in
theorem q_X12_mates_21 (G : Nat × Nat) (a0 : Nat) (x1 : Int32) (x2 : Int32) (x_0 : Int32) (W : zW) : ev_ G 52 21 [.ref a0, .int x1, .int x2, zU, zU, zU, zU] [.int x_0] W =
 if x_0 = 0 then
  (ev_ G 52 74 [.ref a0, .int x1, .int x2, .int x_0, zU, zU, zU] [.int 1, .ref a0] W)
 else
  if (x1 = x2 : Prop) then
   (ev_ G 52 74 [.ref a0, .int x1, .int x2, .int x_0, zU, zU, zU] [.int 2, .ref a0] W)
  else
   zthI (zck 13 W a0 (ev_ G 51 0 [.ref a0, .int x1, .int x2] [] W))
    (fun t2 W1 =>
   if t2 = 0 then
     (ev_ G 52 74 [.ref a0, .int x1, .int x2, .int x_0, zU, zU, zU] [.int 3, .ref a0] W1)
    else
     (zgR 13 9 W1 a0).bind fun t3 =>
     (zld false W1 t3 x1).bind fun t4 =>
     if (t4 = (-1) : Prop) then
      ((zgR 13 9 W1 a0).bind fun t5 =>
       (zld false W1 t5 x2).bind fun t6 =>
       if (t6 = (-1) : Prop) then
        (ev_ G 52 74 [.ref a0, .int x1, .int x2, .int x_0, zU, zU, zU] [.int 0, .ref a0] W1)
       else
        ev_ G 52 74 [.ref a0, .int x1, .int x2, .int x_0, zU, zU, zU] [.int 3, .ref a0] W1)
     else
      ev_ G 52 74 [.ref a0, .int x1, .int x2, .int x_0, zU, zU, zU] [.int 3, .ref a0] W1)
    zxe :=
 (zx_st (zh_X12_mates G) [21, 74, 102, 114] 400 21 _ _ _).trans rfl
set_option maxRecDepth 100000 in
theorem q_X12_mates_74 (G : Nat × Nat) (a0 : Nat) (x1 : Int32) (x2 : Int32) (x3 : Int32) (a_0 : Nat) (x_1 : Int32) (W : zW) : ev_ G 52 74 [.ref a0, .int x1, .int x2, .int x3, zU, zU, zU] [.int x_1, .ref a_0] W =
 zthI (zck 13 W a_0 (ev_ G 33 0 [.ref a_0, .int x_1] [] W))
  (fun t2 W1 =>
 if t2 = 0 then
   ((zgR 13 9 W1 a0).bind fun t3 =>
    (zsto 0 W1 t3 x1 x2).bind fun W4 =>
    (zgR 13 9 W4 a0).bind fun t5 =>
    (zsto 0 W4 t5 x2 x1).bind fun W6 =>
    ev_ G 52 102 [.ref a0, .int x1, .int x2, .int x3, .int 0, .int 0, zU] [] W6)
  else
   some (.inl (some (.int 0)), W1))
  zxe :=
 (zx_st (zh_X12_mates G) [21, 74, 102, 114] 400 74 _ _ _).trans rfl
set_option maxRecDepth 100000 in
theorem q_X12_mates_102 (G : Nat × Nat) (a0 : Nat) (x1 : Int32) (x2 : Int32) (x3 : Int32) (x4 : Int32) (x5 : Int32) (u6 : Value) (W : zW) : ev_ G 52 102 [.ref a0, .int x1, .int x2, .int x3, .int x4, .int x5, u6] [] W =
 (zgI 13 5 W a0).bind fun t1 =>
 if (t1 ≤ x5 : Prop) then
  (some (.inl (some (.int x4)), W))
 else
  ev_ G 52 114 [.ref a0, .int x1, .int x2, .int x3, .int x4, .int x5, .int 0] [] W :=
 (zx_st (zh_X12_mates G) [21, 74, 102, 114] 400 102 _ _ _).trans rfl
set_option maxRecDepth 100000 in
theorem q_X12_mates_114 (G : Nat × Nat) (a0 : Nat) (x1 : Int32) (x2 : Int32) (x3 : Int32) (x4 : Int32) (x5 : Int32) (x6 : Int32) (W : zW) : ev_ G 52 114 [.ref a0, .int x1, .int x2, .int x3, .int x4, .int x5, .int x6] [] W =
 if (x5 ≤ x6 : Prop) then
  (ev_ G 52 102 [.ref a0, .int x1, .int x2, .int x3, .int x4, .int (x5 + 1), .int x6] [] W)
 else
  zthI (zck 13 W a0 (ev_ G 51 0 [.ref a0, .int x5, .int x6] [] W))
   (fun t2 W1 =>
  if t2 = 0 then
    (ev_ G 52 114 [.ref a0, .int x1, .int x2, .int x3, .int (x4 + 0), .int x5, .int (x6 + 1)] [] W1)
   else
    (zgR 13 9 W1 a0).bind fun t3 =>
    (zld false W1 t3 x5).bind fun t4 =>
    if (t4 = x6 : Prop) then
     (ev_ G 52 114 [.ref a0, .int x1, .int x2, .int x3, .int (x4 + 0), .int x5, .int (x6 + 1)] [] W1)
    else
     ev_ G 52 114 [.ref a0, .int x1, .int x2, .int x3, .int (x4 + 1), .int x5, .int (x6 + 1)] [] W1)
   zxe :=
 (zx_st (zh_X12_mates G) [21, 74, 102, 114] 400 114 _ _ _).trans rfl
set_option maxRecDepth 100000 in
theorem q_X12_isCavity_0 (G : Nat × Nat) (a0 : Nat) (x1 : Int32) (x2 : Int32) (W : zW) : ev_ G 69 0 [.ref a0, .int x1, .int x2] [] W =
 zthI (zck 13 W a0 (ev_ G 50 0 [.ref a0, .int x1] [] W))
  (fun t2 W1 =>
 if t2 = 0 then
   (if (0 : Int32) &&& 1 = 0 then some (.inl (some (.int 0)), W1) else none)
  else
   (zgR 13 7 W1 a0).bind fun t3 =>
   (zld false W1 t3 x1).bind fun t4 =>
   zthI (ev_ G 31 0 [.int x2, .int 0, .int (t4 - 1)] [] W1)
    (fun t6 W5 =>
   if t6 = 0 then
     (if (0 : Int32) &&& 1 = 0 then some (.inl (some (.int 0)), W5) else none)
    else
     if (1 : Int32) &&& 1 = 1 then some (.inl (some (.int 1)), W5) else none)
    zxe)
  zxe :=
 (zx_st (zh_X12_isCavity G) [] 400 0 _ _ _).trans rfl
set_option maxRecDepth 100000 in
theorem q_X12_costOf_0 (G : Nat × Nat) (a0 : Nat) (x1 : Int32) (W : zW) : ev_ G 70 0 [.ref a0, .int x1] [] W =
 (zgR 13 3 W a0).bind fun t1 =>
 (zld false W t1 x1).bind fun t2 =>
 some (.inl (some (.int ((100 * t2) + 1))), W) :=
 (zx_st (zh_X12_costOf G) [] 400 0 _ _ _).trans rfl
set_option maxRecDepth 100000 in
theorem q_X12_finds_0 (G : Nat × Nat) (a0 : Nat) (x1 : Int32) (W : zW) : ev_ G 71 0 [.ref a0, .int x1, zU, zU, zU, zU] [] W =
 ev_ G 71 2 [.ref a0, .int x1, .int 0, zU, zU, zU] [] W :=
 (zx_st (zh_X12_finds G) [2, 33, 41, 138] 400 0 _ _ _).trans rfl
set_option maxRecDepth 100000 in
theorem q_X12_finds_2 (G : Nat × Nat) (a0 : Nat) (x1 : Int32) (x2 : Int32) (W : zW) : ev_ G 71 2 [.ref a0, .int x1, .int x2, zU, zU, zU] [] W =
 if (8 ≤ x2 : Prop) then
  (ev_ G 71 33 [.ref a0, .int x1, .int 0, zU, zU, zU] [] W)
 else
  (zgR 13 16 W a0).bind fun t1 =>
  if (x2 = x1 : Prop) then
   ((zsto 0 W t1 x2 0).bind fun W2 =>
    ev_ G 71 2 [.ref a0, .int x1, .int (x2 + 1), zU, zU, zU] [] W2)
  else
   (zsto 0 W t1 x2 1000000000).bind fun W3 =>
   ev_ G 71 2 [.ref a0, .int x1, .int (x2 + 1), zU, zU, zU] [] W3 :=
 (zx_st (zh_X12_finds G) [2, 33, 41, 138] 400 2 _ _ _).trans rfl
set_option maxRecDepth 100000 in
theorem q_X12_finds_33 (G : Nat × Nat) (a0 : Nat) (x1 : Int32) (x2 : Int32) (u3 : Value) (u4 : Value) (u5 : Value) (W : zW) : ev_ G 71 33 [.ref a0, .int x1, .int x2, u3, u4, u5] [] W =
 if (8 ≤ x2 : Prop) then
  (some (.inl none, W))
 else
  ev_ G 71 41 [.ref a0, .int x1, .int x2, .int 0, u4, u5] [] W :=
 (zx_st (zh_X12_finds G) [2, 33, 41, 138] 400 33 _ _ _).trans rfl
set_option maxRecDepth 100000 in
theorem q_X12_finds_41 (G : Nat × Nat) (a0 : Nat) (x1 : Int32) (x2 : Int32) (x3 : Int32) (u4 : Value) (u5 : Value) (W : zW) : ev_ G 71 41 [.ref a0, .int x1, .int x2, .int x3, u4, u5] [] W =
 (zgI 13 0 W a0).bind fun t1 =>
 if (t1 ≤ x3 : Prop) then
  (ev_ G 71 33 [.ref a0, .int x1, .int (x2 + 1), .int x3, u4, u5] [] W)
 else
  (zgR 13 4 W a0).bind fun t2 =>
  (zld false W t2 x3).bind fun t3 =>
  if t3 ≤ 0 then
   (ev_ G 71 41 [.ref a0, .int x1, .int x2, .int (x3 + 1), u4, u5] [] W)
  else
   (zgR 13 16 W a0).bind fun t4 =>
   (zgR 13 1 W a0).bind fun t5 =>
   (zld false W t5 x3).bind fun t6 =>
   (zld false W t4 t6).bind fun t7 =>
   zthI (zck 13 W a0 (ev_ G 70 0 [.ref a0, .int x3] [] W))
    (fun t9 W8 =>
   (zgR 13 16 W8 a0).bind fun t10 =>
    (zgR 13 2 W8 a0).bind fun t11 =>
    (zld false W8 t11 x3).bind fun t12 =>
    (zld false W8 t10 t12).bind fun t13 =>
    zthI (zck 13 W8 a0 (ev_ G 70 0 [.ref a0, .int x3] [] W8))
     (fun t15 W14 =>
    (zgR 13 16 W14 a0).bind fun t16 =>
     (zgR 13 2 W14 a0).bind fun t17 =>
     (zld false W14 t17 x3).bind fun t18 =>
     (zgR 13 16 W14 a0).bind fun t19 =>
     (zgR 13 2 W14 a0).bind fun t20 =>
     (zld false W14 t20 x3).bind fun t21 =>
     (zld false W14 t19 t21).bind fun t22 =>
     if (t22 ≤ (t7 + t9) : Prop) then
      ((zgR 13 16 W14 a0).bind fun t23 =>
       (zgR 13 2 W14 a0).bind fun t24 =>
       (zld false W14 t24 x3).bind fun t25 =>
       (zld false W14 t23 t25).bind fun t26 =>
       ev_ G 71 138 [.ref a0, .int x1, .int x2, .int x3, .int (t7 + t9), .int (t13 + t15)] [.int t26, .int t18, .ref t16] W14)
     else
      ev_ G 71 138 [.ref a0, .int x1, .int x2, .int x3, .int (t7 + t9), .int (t13 + t15)] [.int (t7 + t9), .int t18, .ref t16] W14)
     zxe)
    zxe :=
 (zx_st (zh_X12_finds G) [2, 33, 41, 138] 400 41 _ _ _).trans rfl
set_option maxRecDepth 100000 in
theorem q_X12_finds_138 (G : Nat × Nat) (a0 : Nat) (x1 : Int32) (x2 : Int32) (x3 : Int32) (x4 : Int32) (x5 : Int32) (a_0 : Nat) (x_1 : Int32) (x_2 : Int32) (W : zW) : ev_ G 71 138 [.ref a0, .int x1, .int x2, .int x3, .int x4, .int x5] [.int x_2, .int x_1, .ref a_0] W =
 (zsto 0 W a_0 x_1 x_2).bind fun W1 =>
 (zgR 13 16 W1 a0).bind fun t2 =>
 (zgR 13 1 W1 a0).bind fun t3 =>
 (zld false W1 t3 x3).bind fun t4 =>
 (zgR 13 16 W1 a0).bind fun t5 =>
 (zgR 13 1 W1 a0).bind fun t6 =>
 (zld false W1 t6 x3).bind fun t7 =>
 (zld false W1 t5 t7).bind fun t8 =>
 if (t8 ≤ x5 : Prop) then
  ((zgR 13 16 W1 a0).bind fun t9 =>
   (zgR 13 1 W1 a0).bind fun t10 =>
   (zld false W1 t10 x3).bind fun t11 =>
   (zld false W1 t9 t11).bind fun t12 =>
   (zsto 0 W1 t2 t4 t12).bind fun W13 =>
   ev_ G 71 41 [.ref a0, .int x1, .int x2, .int (x3 + 1), .int x4, .int x5] [] W13)
 else
  (zsto 0 W1 t2 t4 x5).bind fun W14 =>
  ev_ G 71 41 [.ref a0, .int x1, .int x2, .int (x3 + 1), .int x4, .int x5] [] W14 :=
 (zx_st (zh_X12_finds G) [2, 33, 41, 138] 400 138 _ _ _).trans rfl
set_option maxRecDepth 100000 in
theorem q_X12_isTaken_0 (G : Nat × Nat) (a0 : Nat) (x1 : Int32) (W : zW) : ev_ G 72 0 [.ref a0, .int x1, zU, zU] [] W =
 ev_ G 72 4 [.ref a0, .int x1, .int 0, .int 0] [] W :=
 (zx_st (zh_X12_isTaken G) [4] 400 0 _ _ _).trans rfl
set_option maxRecDepth 100000 in
theorem q_X12_isTaken_4 (G : Nat × Nat) (a0 : Nat) (x1 : Int32) (x2 : Int32) (x3 : Int32) (W : zW) : ev_ G 72 4 [.ref a0, .int x1, .int x2, .int x3] [] W =
 (zgI 13 10 W a0).bind fun t1 =>
 if (t1 ≤ x3 : Prop) then
  (if x2 &&& 1 = x2 then some (.inl (some (.int x2)), W) else none)
 else
  if x2 = 0 then
   ((zgR 13 11 W a0).bind fun t2 =>
    (zld true W t2 x3).bind fun t3 =>
    if t3 = 0 then
     ((zgR 13 12 W a0).bind fun t4 =>
      (zld false W t4 (2 * x3)).bind fun t5 =>
      if (t5 = x1 : Prop) then
       (ev_ G 72 4 [.ref a0, .int x1, .int 1, .int (x3 + 1)] [] W)
      else
       (zgR 13 12 W a0).bind fun t6 =>
       (zld false W t6 ((2 * x3) + 1)).bind fun t7 =>
       if (t7 = x1 : Prop) then
        (ev_ G 72 4 [.ref a0, .int x1, .int 1, .int (x3 + 1)] [] W)
       else
        ev_ G 72 4 [.ref a0, .int x1, .int 0, .int (x3 + 1)] [] W)
    else
     ev_ G 72 4 [.ref a0, .int x1, .int 0, .int (x3 + 1)] [] W)
  else
   ev_ G 72 4 [.ref a0, .int x1, .int 1, .int (x3 + 1)] [] W :=
 (zx_st (zh_X12_isTaken G) [4] 400 4 _ _ _).trans rfl
set_option maxRecDepth 100000 in
theorem q_X12_across_0 (G : Nat × Nat) (a0 : Nat) (x1 : Int32) (x2 : Int32) (W : zW) : ev_ G 73 0 [.ref a0, .int x1, .int x2] [] W =
 (zgR 13 1 W a0).bind fun t1 =>
 (zld false W t1 x1).bind fun t2 =>
 if (t2 = x2 : Prop) then
  ((zgR 13 2 W a0).bind fun t3 =>
   (zld false W t3 x1).bind fun t4 =>
   some (.inl (some (.int t4)), W))
 else
  (zgR 13 2 W a0).bind fun t5 =>
  (zld false W t5 x1).bind fun t6 =>
  if (t6 = x2 : Prop) then
   ((zgR 13 1 W a0).bind fun t7 =>
    (zld false W t7 x1).bind fun t8 =>
    some (.inl (some (.int t8)), W))
  else
   some (.inl (some (.int (-1))), W) :=
 (zx_st (zh_X12_across G) [] 400 0 _ _ _).trans rfl
set_option maxRecDepth 100000 in
theorem q_X12_lays_0 (G : Nat × Nat) (a0 : Nat) (x1 : Int32) (x2 : Int32) (W : zW) : ev_ G 74 0 [.ref a0, .int x1, .int x2, zU, zU, zU, zU] [] W =
 (zgR 13 14 W a0).bind fun t1 =>
 (zsto 0 W t1 x1 0).bind fun W2 =>
 ev_ G 74 9 [.ref a0, .int x1, .int x2, .int x2, zU, zU, zU] [] W2 :=
 (zx_st (zh_X12_lays G) [9, 29, 142] 400 0 _ _ _).trans rfl
set_option maxRecDepth 100000 in
theorem q_X12_lays_9 (G : Nat × Nat) (a0 : Nat) (x1 : Int32) (x2 : Int32) (x3 : Int32) (u4 : Value) (u5 : Value) (u6 : Value) (W : zW) : ev_ G 74 9 [.ref a0, .int x1, .int x2, .int x3, u4, u5, u6] [] W =
 (zgR 13 16 W a0).bind fun t1 =>
 (zld false W t1 x3).bind fun t2 =>
 if t2 ≤ 0 then
  (ev_ G 74 142 [.ref a0, .int x1, .int x2, .int x3, .int (16 * x1), u5, u6] [] W)
 else
  (zgI 13 0 W a0).bind fun t3 =>
  ev_ G 74 29 [.ref a0, .int x1, .int x2, .int x3, .int (-1), .int (t3 - 1), u6] [] W :=
 (zx_st (zh_X12_lays G) [9, 29, 142] 400 9 _ _ _).trans rfl
set_option maxRecDepth 100000 in
theorem q_X12_lays_29 (G : Nat × Nat) (a0 : Nat) (x1 : Int32) (x2 : Int32) (x3 : Int32) (x4 : Int32) (x5 : Int32) (u6 : Value) (W : zW) : ev_ G 74 29 [.ref a0, .int x1, .int x2, .int x3, .int x4, .int x5, u6] [] W =
 if x5 < 0 then
  ((zgR 13 15 W a0).bind fun t1 =>
   (zgR 13 14 W a0).bind fun t2 =>
   (zld false W t2 x1).bind fun t3 =>
   (zsto 0 W t1 ((16 * x1) + t3) x4).bind fun W4 =>
   (zgR 13 14 W4 a0).bind fun t5 =>
   (zld false W4 t5 x1).bind fun t6 =>
   (zsto 0 W4 t5 x1 (t6 + 1)).bind fun W7 =>
   zthI (zck 13 W7 a0 (ev_ G 73 0 [.ref a0, .int x4, .int x3] [] W7))
    (fun t9 W8 =>
   ev_ G 74 9 [.ref a0, .int x1, .int x2, .int t9, .int x4, .int x5, u6] [] W8)
    zxe)
 else
  zthI (zck 13 W a0 (ev_ G 73 0 [.ref a0, .int x5, .int x3] [] W))
   (fun t11 W10 =>
  if (t11 = (-1) : Prop) then
    (ev_ G 74 29 [.ref a0, .int x1, .int x2, .int x3, .int x4, .int (x5 + (-1)), .int t11] [] W10)
   else
    (zgR 13 4 W10 a0).bind fun t12 =>
    (zld false W10 t12 x5).bind fun t13 =>
    if t13 ≤ 0 then
     (ev_ G 74 29 [.ref a0, .int x1, .int x2, .int x3, .int x4, .int (x5 + (-1)), .int t11] [] W10)
    else
     (zgR 13 16 W10 a0).bind fun t14 =>
     (zld false W10 t14 t11).bind fun t15 =>
     zthI (zck 13 W10 a0 (ev_ G 70 0 [.ref a0, .int x5] [] W10))
      (fun t17 W16 =>
     (zgR 13 16 W16 a0).bind fun t18 =>
      (zld false W16 t18 x3).bind fun t19 =>
      if ((t15 + t17) = t19 : Prop) then
       (ev_ G 74 29 [.ref a0, .int x1, .int x2, .int x3, .int x5, .int (x5 + (-1)), .int t11] [] W16)
      else
       ev_ G 74 29 [.ref a0, .int x1, .int x2, .int x3, .int x4, .int (x5 + (-1)), .int t11] [] W16)
      zxe)
   zxe :=
 (zx_st (zh_X12_lays G) [9, 29, 142] 400 29 _ _ _).trans rfl
set_option maxRecDepth 100000 in
theorem q_X12_lays_142 (G : Nat × Nat) (a0 : Nat) (x1 : Int32) (x2 : Int32) (x3 : Int32) (x4 : Int32) (u5 : Value) (u6 : Value) (W : zW) : ev_ G 74 142 [.ref a0, .int x1, .int x2, .int x3, .int x4, u5, u6] [] W =
 (zgR 13 14 W a0).bind fun t1 =>
 (zld false W t1 x1).bind fun t2 =>
 if (((16 * x1) + t2) ≤ x4 : Prop) then
  (some (.inl none, W))
 else
  (zgR 13 4 W a0).bind fun t3 =>
  (zgR 13 15 W a0).bind fun t4 =>
  (zld false W t4 x4).bind fun t5 =>
  (zld false W t3 t5).bind fun t6 =>
  (zsto 0 W t3 t5 (t6 - 1)).bind fun W7 =>
  ev_ G 74 142 [.ref a0, .int x1, .int x2, .int x3, .int (x4 + 1), u5, u6] [] W7 :=
 (zx_st (zh_X12_lays G) [9, 29, 142] 400 142 _ _ _).trans rfl
set_option maxRecDepth 100000 in
theorem q_X12_wire_0 (G : Nat × Nat) (a0 : Nat) (x1 : Int32) (x2 : Int32) (x3 : Int32) (x4 : Int32) (x5 : Int32) (W : zW) : ev_ G 75 0 [.ref a0, .int x1, .int x2, .int x3, .int x4, .int x5, zU, zU, zU, zU] [] W =
 zthI (zck 13 W a0 (ev_ G 69 0 [.ref a0, .int x1, .int x2] [] W))
  (fun t2 W1 =>
 if t2 = 0 then
   (ev_ G 75 24 [.ref a0, .int x1, .int x2, .int x3, .int x4, .int x5, zU, zU, zU, zU] [.int 0] W1)
  else
   zthI (zck 13 W1 a0 (ev_ G 69 0 [.ref a0, .int x3, .int x4] [] W1))
    (fun t4 W3 =>
   if t4 = 0 then
     (ev_ G 75 24 [.ref a0, .int x1, .int x2, .int x3, .int x4, .int x5, zU, zU, zU, zU] [.int 0] W3)
    else
     ev_ G 75 24 [.ref a0, .int x1, .int x2, .int x3, .int x4, .int x5, zU, zU, zU, zU] [.int 1] W3)
    zxe)
  zxe :=
 (zx_st (zh_X12_wire G) [24, 47, 69, 153] 400 0 _ _ _).trans rfl
set_option maxRecDepth 100000 in
theorem q_X12_wire_24 (G : Nat × Nat) (a0 : Nat) (x1 : Int32) (x2 : Int32) (x3 : Int32) (x4 : Int32) (x5 : Int32) (x_0 : Int32) (W : zW) : ev_ G 75 24 [.ref a0, .int x1, .int x2, .int x3, .int x4, .int x5, zU, zU, zU, zU] [.int x_0] W =
 if (x1 = x3 : Prop) then
  (ev_ G 75 47 [.ref a0, .int x1, .int x2, .int x3, .int x4, .int x5, .int x_0, zU, zU, zU] [.int 0] W)
 else
  zthI (ev_ G 31 0 [.int x5, .int 0, .int 7] [] W)
   (fun t2 W1 =>
  if t2 = 0 then
    (ev_ G 75 47 [.ref a0, .int x1, .int x2, .int x3, .int x4, .int x5, .int x_0, zU, zU, zU] [.int 0] W1)
   else
    ev_ G 75 47 [.ref a0, .int x1, .int x2, .int x3, .int x4, .int x5, .int x_0, zU, zU, zU] [.int 1] W1)
   zxe :=
 (zx_st (zh_X12_wire G) [24, 47, 69, 153] 400 24 _ _ _).trans rfl
set_option maxRecDepth 100000 in
theorem q_X12_wire_47 (G : Nat × Nat) (a0 : Nat) (x1 : Int32) (x2 : Int32) (x3 : Int32) (x4 : Int32) (x5 : Int32) (x6 : Int32) (x_0 : Int32) (W : zW) : ev_ G 75 47 [.ref a0, .int x1, .int x2, .int x3, .int x4, .int x5, .int x6, zU, zU, zU] [.int x_0] W =
 if x6 = 0 then
  (ev_ G 75 69 [.ref a0, .int x1, .int x2, .int x3, .int x4, .int x5, .int x6, .int x_0, zU, zU] [] W)
 else
  if x_0 = 0 then
   (ev_ G 75 69 [.ref a0, .int x1, .int x2, .int x3, .int x4, .int x5, .int x6, .int x_0, zU, zU] [] W)
  else
   (zgR 13 6 W a0).bind fun t1 =>
   (zld false W t1 x3).bind fun t2 =>
   zthV (zck 13 W a0 (ev_ G 71 0 [.ref a0, .int t2, zU, zU, zU, zU] [] W))
    (fun W3 =>
   ev_ G 75 69 [.ref a0, .int x1, .int x2, .int x3, .int x4, .int x5, .int x6, .int x_0, zU, zU] [] W3)
    zxe :=
 (zx_st (zh_X12_wire G) [24, 47, 69, 153] 400 47 _ _ _).trans rfl
set_option maxRecDepth 100000 in
theorem q_X12_wire_69 (G : Nat × Nat) (a0 : Nat) (x1 : Int32) (x2 : Int32) (x3 : Int32) (x4 : Int32) (x5 : Int32) (x6 : Int32) (x7 : Int32) (W : zW) : ev_ G 75 69 [.ref a0, .int x1, .int x2, .int x3, .int x4, .int x5, .int x6, .int x7, zU, zU] [] W =
 if x6 = 0 then
  (ev_ G 75 153 [.ref a0, .int x1, .int x2, .int x3, .int x4, .int x5, .int x6, .int x7, .int ((8 * x1) + x2), .int ((8 * x3) + x4)] [.int 1, .ref a0] W)
 else
  if x7 = 0 then
   (ev_ G 75 153 [.ref a0, .int x1, .int x2, .int x3, .int x4, .int x5, .int x6, .int x7, .int ((8 * x1) + x2), .int ((8 * x3) + x4)] [.int 2, .ref a0] W)
  else
   zthI (zck 13 W a0 (ev_ G 72 0 [.ref a0, .int ((8 * x1) + x2), zU, zU] [] W))
    (fun t2 W1 =>
   if t2 = 0 then
     (zthI (zck 13 W1 a0 (ev_ G 72 0 [.ref a0, .int ((8 * x3) + x4), zU, zU] [] W1))
       (fun t4 W3 =>
      if t4 = 0 then
        ((zgR 13 16 W3 a0).bind fun t5 =>
         (zgR 13 6 W3 a0).bind fun t6 =>
         (zld false W3 t6 x1).bind fun t7 =>
         (zld false W3 t5 t7).bind fun t8 =>
         if (1000000000 ≤ t8 : Prop) then
          (ev_ G 75 153 [.ref a0, .int x1, .int x2, .int x3, .int x4, .int x5, .int x6, .int x7, .int ((8 * x1) + x2), .int ((8 * x3) + x4)] [.int 3, .ref a0] W3)
         else
          (zgI 13 10 W3 a0).bind fun t9 =>
          if (t9 = 24 : Prop) then
           (ev_ G 75 153 [.ref a0, .int x1, .int x2, .int x3, .int x4, .int x5, .int x6, .int x7, .int ((8 * x1) + x2), .int ((8 * x3) + x4)] [.int 3, .ref a0] W3)
          else
           ev_ G 75 153 [.ref a0, .int x1, .int x2, .int x3, .int x4, .int x5, .int x6, .int x7, .int ((8 * x1) + x2), .int ((8 * x3) + x4)] [.int 0, .ref a0] W3)
       else
        ev_ G 75 153 [.ref a0, .int x1, .int x2, .int x3, .int x4, .int x5, .int x6, .int x7, .int ((8 * x1) + x2), .int ((8 * x3) + x4)] [.int 3, .ref a0] W3)
       zxe)
    else
     ev_ G 75 153 [.ref a0, .int x1, .int x2, .int x3, .int x4, .int x5, .int x6, .int x7, .int ((8 * x1) + x2), .int ((8 * x3) + x4)] [.int 3, .ref a0] W1)
    zxe :=
 (zx_st (zh_X12_wire G) [24, 47, 69, 153] 400 69 _ _ _).trans rfl
set_option maxRecDepth 100000 in
theorem q_X12_wire_153 (G : Nat × Nat) (a0 : Nat) (x1 : Int32) (x2 : Int32) (x3 : Int32) (x4 : Int32) (x5 : Int32) (x6 : Int32) (x7 : Int32) (x8 : Int32) (x9 : Int32) (a_0 : Nat) (x_1 : Int32) (W : zW) : ev_ G 75 153 [.ref a0, .int x1, .int x2, .int x3, .int x4, .int x5, .int x6, .int x7, .int x8, .int x9] [.int x_1, .ref a_0] W =
 zthI (zck 13 W a_0 (ev_ G 33 0 [.ref a_0, .int x_1] [] W))
  (fun t2 W1 =>
 if t2 = 0 then
   ((zgR 13 12 W1 a0).bind fun t3 =>
    (zgI 13 10 W1 a0).bind fun t4 =>
    (zsto 0 W1 t3 (2 * t4) x8).bind fun W5 =>
    (zgR 13 12 W5 a0).bind fun t6 =>
    (zgI 13 10 W5 a0).bind fun t7 =>
    (zsto 0 W5 t6 ((2 * t7) + 1) x9).bind fun W8 =>
    (zgR 13 13 W8 a0).bind fun t9 =>
    (zgI 13 10 W8 a0).bind fun t10 =>
    (zsto 0 W8 t9 t10 x5).bind fun W11 =>
    (zgI 13 10 W11 a0).bind fun t12 =>
    (zgR 13 6 W11 a0).bind fun t13 =>
    (zld false W11 t13 x1).bind fun t14 =>
    zthV (zck 13 W11 a0 (ev_ G 74 0 [.ref a0, .int t12, .int t14, zU, zU, zU, zU] [] W11))
     (fun W15 =>
    (zgI 13 10 W15 a0).bind fun t17 =>
     (zpt 13 10 W15 a0 (.int (t17 + 1))).bind fun W18 =>
     (zgI 13 10 W18 a0).bind fun t19 =>
     some (.inl (some (.int (t19 - 1))), W18))
     zxe)
  else
   some (.inl (some (.int 0)), W1))
  zxe :=
 (zx_st (zh_X12_wire G) [24, 47, 69, 153] 400 153 _ _ _).trans rfl
set_option maxRecDepth 100000 in
theorem q_X12_isWire_0 (G : Nat × Nat) (a0 : Nat) (x1 : Int32) (W : zW) : ev_ G 81 0 [.ref a0, .int x1] [] W =
 (zgI 13 10 W a0).bind fun t1 =>
 zthI (ev_ G 31 0 [.int x1, .int 0, .int (t1 - 1)] [] W)
  (fun t3 W2 =>
 if t3 &&& 1 = t3 then some (.inl (some (.int t3)), W2) else none)
  zxe :=
 (zx_st (zh_X12_isWire G) [] 400 0 _ _ _).trans rfl
set_option maxRecDepth 100000 in
theorem q_X12_lengthOf_0 (G : Nat × Nat) (a0 : Nat) (x1 : Int32) (W : zW) : ev_ G 82 0 [.ref a0, .int x1, zU, zU] [] W =
 ev_ G 82 7 [.ref a0, .int x1, .int 0, .int (16 * x1)] [] W :=
 (zx_st (zh_X12_lengthOf G) [7] 400 0 _ _ _).trans rfl
set_option maxRecDepth 100000 in
theorem q_X12_lengthOf_7 (G : Nat × Nat) (a0 : Nat) (x1 : Int32) (x2 : Int32) (x3 : Int32) (W : zW) : ev_ G 82 7 [.ref a0, .int x1, .int x2, .int x3] [] W =
 (zgR 13 14 W a0).bind fun t1 =>
 (zld false W t1 x1).bind fun t2 =>
 if (((16 * x1) + t2) ≤ x3 : Prop) then
  (some (.inl (some (.int x2)), W))
 else
  (zgR 13 11 W a0).bind fun t3 =>
  (zld true W t3 x1).bind fun t4 =>
  if t4 = 0 then
   ((zgR 13 3 W a0).bind fun t5 =>
    (zgR 13 15 W a0).bind fun t6 =>
    (zld false W t6 x3).bind fun t7 =>
    (zld false W t5 t7).bind fun t8 =>
    ev_ G 82 7 [.ref a0, .int x1, .int (x2 + t8), .int (x3 + 1)] [] W)
  else
   some (.inl (some (.int x2)), W) :=
 (zx_st (zh_X12_lengthOf G) [7] 400 7 _ _ _).trans rfl
set_option maxRecDepth 100000 in
theorem q_X12_pull_0 (G : Nat × Nat) (a0 : Nat) (x1 : Int32) (W : zW) : ev_ G 83 0 [.ref a0, .int x1, zU, zU] [] W =
 zthI (zck 13 W a0 (ev_ G 81 0 [.ref a0, .int x1] [] W))
  (fun t2 W1 =>
 if t2 = 0 then
   (ev_ G 83 27 [.ref a0, .int x1, zU, zU] [.int 1, .ref a0] W1)
  else
   (zgR 13 11 W1 a0).bind fun t3 =>
   (zld true W1 t3 x1).bind fun t4 =>
   if t4 = 0 then
    (ev_ G 83 27 [.ref a0, .int x1, zU, zU] [.int 0, .ref a0] W1)
   else
    ev_ G 83 27 [.ref a0, .int x1, zU, zU] [.int 2, .ref a0] W1)
  zxe :=
 (zx_st (zh_X12_pull G) [27, 53] 400 0 _ _ _).trans rfl
set_option maxRecDepth 100000 in
theorem q_X12_pull_27 (G : Nat × Nat) (a0 : Nat) (x1 : Int32) (a_0 : Nat) (x_1 : Int32) (W : zW) : ev_ G 83 27 [.ref a0, .int x1, zU, zU] [.int x_1, .ref a_0] W =
 zthI (zck 13 W a_0 (ev_ G 33 0 [.ref a_0, .int x_1] [] W))
  (fun t2 W1 =>
 if t2 = 0 then
   (zthI (zck 13 W1 a0 (ev_ G 82 0 [.ref a0, .int x1, zU, zU] [] W1))
     (fun t4 W3 =>
    (zgR 13 11 W3 a0).bind fun t5 =>
     (zsto 1 W3 t5 x1 (1 &&& 1)).bind fun W6 =>
     ev_ G 83 53 [.ref a0, .int x1, .int t4, .int (16 * x1)] [] W6)
     zxe)
  else
   some (.inl (some (.int 0)), W1))
  zxe :=
 (zx_st (zh_X12_pull G) [27, 53] 400 27 _ _ _).trans rfl
set_option maxRecDepth 100000 in
theorem q_X12_pull_53 (G : Nat × Nat) (a0 : Nat) (x1 : Int32) (x2 : Int32) (x3 : Int32) (W : zW) : ev_ G 83 53 [.ref a0, .int x1, .int x2, .int x3] [] W =
 (zgR 13 14 W a0).bind fun t1 =>
 (zld false W t1 x1).bind fun t2 =>
 if (((16 * x1) + t2) ≤ x3 : Prop) then
  (some (.inl (some (.int x2)), W))
 else
  (zgR 13 4 W a0).bind fun t3 =>
  (zgR 13 15 W a0).bind fun t4 =>
  (zld false W t4 x3).bind fun t5 =>
  (zld false W t3 t5).bind fun t6 =>
  (zsto 0 W t3 t5 (t6 + 1)).bind fun W7 =>
  ev_ G 83 53 [.ref a0, .int x1, .int x2, .int (x3 + 1)] [] W7 :=
 (zx_st (zh_X12_pull G) [27, 53] 400 53 _ _ _).trans rfl
set_option maxRecDepth 100000 in
theorem q_X12_ofWire_0 (G : Nat × Nat) (a0 : Nat) (x1 : Int32) (x2 : Int32) (W : zW) : ev_ G 87 0 [.ref a0, .int x1, .int x2] [] W =
 zthI (zck 13 W a0 (ev_ G 81 0 [.ref a0, .int x1] [] W))
  (fun t2 W1 =>
 if t2 = 0 then
   (ev_ G 87 19 [.ref a0, .int x1, .int x2] [.int 1, .ref a0] W1)
  else
   if (x2 < (-1) : Prop) then
    (ev_ G 87 19 [.ref a0, .int x1, .int x2] [.int 1, .ref a0] W1)
   else
    ev_ G 87 19 [.ref a0, .int x1, .int x2] [.int 0, .ref a0] W1)
  zxe :=
 (zx_st (zh_X12_ofWire G) [19] 400 0 _ _ _).trans rfl
set_option maxRecDepth 100000 in
theorem q_X12_ofWire_19 (G : Nat × Nat) (a0 : Nat) (x1 : Int32) (x2 : Int32) (a_0 : Nat) (x_1 : Int32) (W : zW) : ev_ G 87 19 [.ref a0, .int x1, .int x2] [.int x_1, .ref a_0] W =
 zthI (zck 13 W a_0 (ev_ G 33 0 [.ref a_0, .int x_1] [] W))
  (fun t2 W1 =>
 if t2 = 0 then
   (if (x2 = (-1) : Prop) then
     (zthI (zck 13 W1 a0 (ev_ G 82 0 [.ref a0, .int x1, zU, zU] [] W1))
       (fun t4 W3 =>
      some (.inl (some (.int t4)), W3))
       zxe)
    else
     (zgR 13 11 W1 a0).bind fun t5 =>
     (zld true W1 t5 x1).bind fun t6 =>
     if t6 = 0 then
      ((zgR 13 14 W1 a0).bind fun t7 =>
       (zld false W1 t7 x1).bind fun t8 =>
       if (t8 ≤ x2 : Prop) then
        (some (.inl (some (.int (-1))), W1))
       else
        (zgR 13 15 W1 a0).bind fun t9 =>
        (zld false W1 t9 ((16 * x1) + x2)).bind fun t10 =>
        some (.inl (some (.int t10)), W1))
     else
      some (.inl (some (.int (-1))), W1))
  else
   some (.inl (some (.int 0)), W1))
  zxe :=
 (zx_st (zh_X12_ofWire G) [19] 400 19 _ _ _).trans rfl
set_option maxRecDepth 100000 in
theorem q_X12_areOptions_0 (G : Nat × Nat) (x0 : Int32) (W : zW) : ev_ G 91 0 [.int x0] [] W =
 zthI (ev_ G 31 0 [.int x0, .int 0, .int 255] [] W)
  (fun t2 W1 =>
 if t2 &&& 1 = t2 then some (.inl (some (.int t2)), W1) else none)
  zxe :=
 (zx_st (zh_X12_areOptions G) [] 400 0 _ _ _).trans rfl
set_option maxRecDepth 100000 in
theorem q_X12_weighs_0 (G : Nat × Nat) (a0 : Nat) (x1 : Int32) (W : zW) : ev_ G 92 0 [.ref a0, .int x1, zU, zU] [] W =
 ev_ G 92 4 [.ref a0, .int x1, .int 0, .int 0] [] W :=
 (zx_st (zh_X12_weighs G) [4] 400 0 _ _ _).trans rfl
set_option maxRecDepth 100000 in
theorem q_X12_weighs_4 (G : Nat × Nat) (a0 : Nat) (x1 : Int32) (x2 : Int32) (x3 : Int32) (W : zW) : ev_ G 92 4 [.ref a0, .int x1, .int x2, .int x3] [] W =
 (zgI 13 10 W a0).bind fun t1 =>
 if (t1 ≤ x3 : Prop) then
  (some (.inl (some (.int x2)), W))
 else
  (zgR 13 13 W a0).bind fun t2 =>
  (zld false W t2 x3).bind fun t3 =>
  if (((x1 >>> (t3 &&& 31)) &&& 1) = 1 : Prop) then
   (zthI (zck 13 W a0 (ev_ G 82 0 [.ref a0, .int x3, zU, zU] [] W))
     (fun t5 W4 =>
    ev_ G 92 4 [.ref a0, .int x1, .int (x2 + t5), .int (x3 + 1)] [] W4)
     zxe)
  else
   ev_ G 92 4 [.ref a0, .int x1, .int (x2 + 0), .int (x3 + 1)] [] W :=
 (zx_st (zh_X12_weighs G) [4] 400 4 _ _ _).trans rfl
set_option maxRecDepth 100000 in
theorem q_X12_weight_0 (G : Nat × Nat) (a0 : Nat) (x1 : Int32) (W : zW) : ev_ G 93 0 [.ref a0, .int x1] [] W =
 zthI (ev_ G 91 0 [.int x1] [] W)
  (fun t2 W1 =>
 if t2 = 0 then
   (ev_ G 93 13 [.ref a0, .int x1] [.int 1, .ref a0] W1)
  else
   ev_ G 93 13 [.ref a0, .int x1] [.int 0, .ref a0] W1)
  zxe :=
 (zx_st (zh_X12_weight G) [13] 400 0 _ _ _).trans rfl
set_option maxRecDepth 100000 in
theorem q_X12_weight_13 (G : Nat × Nat) (a0 : Nat) (x1 : Int32) (a_0 : Nat) (x_1 : Int32) (W : zW) : ev_ G 93 13 [.ref a0, .int x1] [.int x_1, .ref a_0] W =
 zthI (zck 13 W a_0 (ev_ G 33 0 [.ref a_0, .int x_1] [] W))
  (fun t2 W1 =>
 if t2 = 0 then
   (zthI (zck 13 W1 a0 (ev_ G 92 0 [.ref a0, .int x1, zU, zU] [] W1))
     (fun t4 W3 =>
    some (.inl (some (.int t4)), W3))
     zxe)
  else
   some (.inl (some (.int 0)), W1))
  zxe :=
 (zx_st (zh_X12_weight G) [13] 400 13 _ _ _).trans rfl
set_option maxRecDepth 100000 in
theorem q_X12_order_0 (G : Nat × Nat) (a0 : Nat) (x1 : Int32) (x2 : Int32) (W : zW) : ev_ G 97 0 [.ref a0, .int x1, .int x2, zU] [] W =
 zthI (ev_ G 91 0 [.int x1] [] W)
  (fun t2 W1 =>
 if t2 = 0 then
   (ev_ G 97 22 [.ref a0, .int x1, .int x2, zU] [.int 0] W1)
  else
   zthI (ev_ G 31 0 [.int x2, .int 1, .int 99] [] W1)
    (fun t4 W3 =>
   if t4 = 0 then
     (ev_ G 97 22 [.ref a0, .int x1, .int x2, zU] [.int 0] W3)
    else
     ev_ G 97 22 [.ref a0, .int x1, .int x2, zU] [.int 1] W3)
    zxe)
  zxe :=
 (zx_st (zh_X12_order G) [22, 45] 400 0 _ _ _).trans rfl
set_option maxRecDepth 100000 in
theorem q_X12_order_22 (G : Nat × Nat) (a0 : Nat) (x1 : Int32) (x2 : Int32) (x_0 : Int32) (W : zW) : ev_ G 97 22 [.ref a0, .int x1, .int x2, zU] [.int x_0] W =
 if x_0 = 0 then
  (ev_ G 97 45 [.ref a0, .int x1, .int x2, .int x_0] [.int 1, .ref a0] W)
 else
  (zgI 13 17 W a0).bind fun t1 =>
  if (t1 = 5 : Prop) then
   (ev_ G 97 45 [.ref a0, .int x1, .int x2, .int x_0] [.int 2, .ref a0] W)
  else
   ev_ G 97 45 [.ref a0, .int x1, .int x2, .int x_0] [.int 0, .ref a0] W :=
 (zx_st (zh_X12_order G) [22, 45] 400 22 _ _ _).trans rfl
set_option maxRecDepth 100000 in
theorem q_X12_order_45 (G : Nat × Nat) (a0 : Nat) (x1 : Int32) (x2 : Int32) (x3 : Int32) (a_0 : Nat) (x_1 : Int32) (W : zW) : ev_ G 97 45 [.ref a0, .int x1, .int x2, .int x3] [.int x_1, .ref a_0] W =
 zthI (zck 13 W a_0 (ev_ G 33 0 [.ref a_0, .int x_1] [] W))
  (fun t2 W1 =>
 if t2 = 0 then
   ((zgR 13 18 W1 a0).bind fun t3 =>
    (zgI 13 17 W1 a0).bind fun t4 =>
    (zsto 0 W1 t3 t4 x1).bind fun W5 =>
    (zgR 13 19 W5 a0).bind fun t6 =>
    (zgI 13 17 W5 a0).bind fun t7 =>
    (zsto 0 W5 t6 t7 x2).bind fun W8 =>
    (zgI 13 17 W8 a0).bind fun t9 =>
    (zpt 13 17 W8 a0 (.int (t9 + 1))).bind fun W10 =>
    (zgI 13 17 W10 a0).bind fun t11 =>
    some (.inl (some (.int (t11 - 1))), W10))
  else
   some (.inl (some (.int 0)), W1))
  zxe :=
 (zx_st (zh_X12_order G) [22, 45] 400 45 _ _ _).trans rfl
set_option maxRecDepth 100000 in
theorem q_X12_weightOfFamilies_0 (G : Nat × Nat) (a0 : Nat) (x1 : Int32) (W : zW) : ev_ G 105 0 [.ref a0, .int x1, zU, zU, zU, zU, zU] [] W =
 ev_ G 105 4 [.ref a0, .int x1, .int 0, .int 0, zU, zU, zU] [] W :=
 (zx_st (zh_X12_weightOfFamilies G) [4, 18, 51] 400 0 _ _ _).trans rfl
set_option maxRecDepth 100000 in
theorem q_X12_weightOfFamilies_4 (G : Nat × Nat) (a0 : Nat) (x1 : Int32) (x2 : Int32) (x3 : Int32) (u4 : Value) (u5 : Value) (u6 : Value) (W : zW) : ev_ G 105 4 [.ref a0, .int x1, .int x2, .int x3, u4, u5, u6] [] W =
 if (x1 ≤ x3 : Prop) then
  (some (.inl (some (.int x2)), W))
 else
  ev_ G 105 18 [.ref a0, .int x1, .int x2, .int x3, .int 0, .int 0, .int 0] [] W :=
 (zx_st (zh_X12_weightOfFamilies G) [4, 18, 51] 400 4 _ _ _).trans rfl
set_option maxRecDepth 100000 in
theorem q_X12_weightOfFamilies_18 (G : Nat × Nat) (a0 : Nat) (x1 : Int32) (x2 : Int32) (x3 : Int32) (x4 : Int32) (x5 : Int32) (x6 : Int32) (W : zW) : ev_ G 105 18 [.ref a0, .int x1, .int x2, .int x3, .int x4, .int x5, .int x6] [] W =
 (zgI 13 17 W a0).bind fun t1 =>
 if (t1 ≤ x6 : Prop) then
  (zthI (zck 13 W a0 (ev_ G 92 0 [.ref a0, .int x4, zU, zU] [] W))
    (fun t3 W2 =>
   ev_ G 105 4 [.ref a0, .int x1, .int (x2 + (x5 * t3)), .int (x3 + 1), .int x4, .int x5, .int x6] [] W2)
    zxe)
 else
  (zgR 13 20 W a0).bind fun t4 =>
  (zld false W t4 x6).bind fun t5 =>
  if (t5 = x3 : Prop) then
   ((zgR 13 18 W a0).bind fun t6 =>
    (zld false W t6 x6).bind fun t7 =>
    ev_ G 105 51 [.ref a0, .int x1, .int x2, .int x3, .int x4, .int x5, .int x6] [.int t7, .int x4] W)
  else
   ev_ G 105 51 [.ref a0, .int x1, .int x2, .int x3, .int x4, .int x5, .int x6] [.int 0, .int x4] W :=
 (zx_st (zh_X12_weightOfFamilies G) [4, 18, 51] 400 18 _ _ _).trans rfl
set_option maxRecDepth 100000 in
theorem q_X12_weightOfFamilies_51 (G : Nat × Nat) (a0 : Nat) (x1 : Int32) (x2 : Int32) (x3 : Int32) (x4 : Int32) (x5 : Int32) (x6 : Int32) (x_0 : Int32) (x_1 : Int32) (W : zW) : ev_ G 105 51 [.ref a0, .int x1, .int x2, .int x3, .int x4, .int x5, .int x6] [.int x_1, .int x_0] W =
 (zgR 13 20 W a0).bind fun t1 =>
 (zld false W t1 x6).bind fun t2 =>
 if (t2 = x3 : Prop) then
  ((zgR 13 19 W a0).bind fun t3 =>
   (zld false W t3 x6).bind fun t4 =>
   ev_ G 105 18 [.ref a0, .int x1, .int x2, .int x3, .int (x_0 ||| x_1), .int (x5 + t4), .int (x6 + 1)] [] W)
 else
  ev_ G 105 18 [.ref a0, .int x1, .int x2, .int x3, .int (x_0 ||| x_1), .int (x5 + 0), .int (x6 + 1)] [] W :=
 (zx_st (zh_X12_weightOfFamilies G) [4, 18, 51] 400 51 _ _ _).trans rfl
set_option maxRecDepth 100000 in
theorem q_X12_leastOf_0 (G : Nat × Nat) (a0 : Nat) (x1 : Int32) (W : zW) : ev_ G 106 0 [.ref a0, .int x1, zU, zU, zU, zU, zU] [] W =
 ev_ G 106 4 [.ref a0, .int x1, .int 1, .int 0, zU, zU, zU] [] W :=
 (zx_st (zh_X12_leastOf G) [4, 28, 41] 400 0 _ _ _).trans rfl
set_option maxRecDepth 100000 in
theorem q_X12_leastOf_4 (G : Nat × Nat) (a0 : Nat) (x1 : Int32) (x2 : Int32) (x3 : Int32) (W : zW) : ev_ G 106 4 [.ref a0, .int x1, .int x2, .int x3, zU, zU, zU] [] W =
 (zgI 13 17 W a0).bind fun t1 =>
 if (t1 ≤ x3 : Prop) then
  (ev_ G 106 28 [.ref a0, .int x1, .int x2, .int 1000000000, .int 0, zU, zU] [] W)
 else
  ev_ G 106 4 [.ref a0, .int x1, .int (x2 * x1), .int (x3 + 1), zU, zU, zU] [] W :=
 (zx_st (zh_X12_leastOf G) [4, 28, 41] 400 4 _ _ _).trans rfl
set_option maxRecDepth 100000 in
theorem q_X12_leastOf_28 (G : Nat × Nat) (a0 : Nat) (x1 : Int32) (x2 : Int32) (x3 : Int32) (x4 : Int32) (u5 : Value) (u6 : Value) (W : zW) : ev_ G 106 28 [.ref a0, .int x1, .int x2, .int x3, .int x4, u5, u6] [] W =
 if (x2 ≤ x4 : Prop) then
  (some (.inl (some (.int x3)), W))
 else
  ev_ G 106 41 [.ref a0, .int x1, .int x2, .int x3, .int x4, .int x4, .int 0] [] W :=
 (zx_st (zh_X12_leastOf G) [4, 28, 41] 400 28 _ _ _).trans rfl
set_option maxRecDepth 100000 in
theorem q_X12_leastOf_41 (G : Nat × Nat) (a0 : Nat) (x1 : Int32) (x2 : Int32) (x3 : Int32) (x4 : Int32) (x5 : Int32) (x6 : Int32) (W : zW) : ev_ G 106 41 [.ref a0, .int x1, .int x2, .int x3, .int x4, .int x5, .int x6] [] W =
 (zgI 13 17 W a0).bind fun t1 =>
 if (t1 ≤ x6 : Prop) then
  (zthI (zck 13 W a0 (ev_ G 105 0 [.ref a0, .int x1, zU, zU, zU, zU, zU] [] W))
    (fun t3 W2 =>
   if (x3 ≤ t3 : Prop) then
     (ev_ G 106 28 [.ref a0, .int x1, .int x2, .int x3, .int (x4 + 1), .int x5, .int t3] [] W2)
    else
     ev_ G 106 28 [.ref a0, .int x1, .int x2, .int t3, .int (x4 + 1), .int x5, .int t3] [] W2)
    zxe)
 else
  (zgR 13 20 W a0).bind fun t4 =>
  if x1 = 0 then none else
  (zsto 0 W t4 x6 (x5 - x5 / x1 * x1)).bind fun W5 =>
  if x1 = 0 then none else
  ev_ G 106 41 [.ref a0, .int x1, .int x2, .int x3, .int x4, .int (x5 / x1), .int (x6 + 1)] [] W5 :=
 (zx_st (zh_X12_leastOf G) [4, 28, 41] 400 41 _ _ _).trans rfl
set_option maxRecDepth 100000 in
theorem q_X12_least_0 (G : Nat × Nat) (a0 : Nat) (x1 : Int32) (W : zW) : ev_ G 107 0 [.ref a0, .int x1] [] W =
 zthI (ev_ G 31 0 [.int x1, .int 1, .int 5] [] W)
  (fun t2 W1 =>
 if t2 = 0 then
   (ev_ G 107 15 [.ref a0, .int x1] [.int 1, .ref a0] W1)
  else
   ev_ G 107 15 [.ref a0, .int x1] [.int 0, .ref a0] W1)
  zxe :=
 (zx_st (zh_X12_least G) [15] 400 0 _ _ _).trans rfl
set_option maxRecDepth 100000 in
theorem q_X12_least_15 (G : Nat × Nat) (a0 : Nat) (x1 : Int32) (a_0 : Nat) (x_1 : Int32) (W : zW) : ev_ G 107 15 [.ref a0, .int x1] [.int x_1, .ref a_0] W =
 zthI (zck 13 W a_0 (ev_ G 33 0 [.ref a_0, .int x_1] [] W))
  (fun t2 W1 =>
 if t2 = 0 then
   (zthI (zck 13 W1 a0 (ev_ G 106 0 [.ref a0, .int x1, zU, zU, zU, zU, zU] [] W1))
     (fun t4 W3 =>
    some (.inl (some (.int t4)), W3))
     zxe)
  else
   some (.inl (some (.int 0)), W1))
  zxe :=
 (zx_st (zh_X12_least G) [15] 400 15 _ _ _).trans rfl
set_option maxRecDepth 100000 in
theorem q_X12_leastAnew_0 (G : Nat × Nat) (a0 : Nat) (x1 : Int32) (W : zW) : ev_ G 113 0 [.ref a0, .int x1] [] W =
 zthI (zck 13 W a0 (ev_ G 107 0 [.ref a0, .int x1] [] W))
  (fun t2 W1 =>
 some (.inl (some (.int t2)), W1))
  zxe :=
 (zx_st (zh_X12_leastAnew G) [] 400 0 _ _ _).trans rfl
set_option maxRecDepth 100000 in
theorem q_X12_window_0 (G : Nat × Nat) (a0 : Nat) (W : zW) : ev_ G 121 0 [.ref a0, zU, zU, zU] [] W =
 (zgI 13 22 W a0).bind fun t1 =>
 if (3 ≤ t1 : Prop) then
  ((zgI 13 22 W a0).bind fun t2 =>
   if (8 ≤ t2 : Prop) then
    (ev_ G 121 33 [.ref a0, .int 8, .int 0, .int 0] [] W)
   else
    (zgI 13 22 W a0).bind fun t3 =>
    ev_ G 121 33 [.ref a0, .int t3, .int 0, .int 0] [] W)
 else
  some (.inl (some (.int 0)), W) :=
 (zx_st (zh_X12_window G) [33] 400 0 _ _ _).trans rfl
set_option maxRecDepth 100000 in
theorem q_X12_window_33 (G : Nat × Nat) (a0 : Nat) (x1 : Int32) (x2 : Int32) (x3 : Int32) (W : zW) : ev_ G 121 33 [.ref a0, .int x1, .int x2, .int x3] [] W =
 if (x1 ≤ x3 : Prop) then
  (if x1 = 0 then none else
   some (.inl (some (.int (x2 / x1))), W))
 else
  (zgR 13 23 W a0).bind fun t1 =>
  (zld false W t1 x3).bind fun t2 =>
  ev_ G 121 33 [.ref a0, .int x1, .int (x2 + t2), .int (x3 + 1)] [] W :=
 (zx_st (zh_X12_window G) [33] 400 33 _ _ _).trans rfl
set_option maxRecDepth 100000 in
theorem q_X12_crimp_0 (G : Nat × Nat) (a0 : Nat) (x1 : Int32) (W : zW) : ev_ G 122 0 [.ref a0, .int x1, zU, zU] [] W =
 zthI (ev_ G 31 0 [.int x1, .int 1, .int 9999] [] W)
  (fun t2 W1 =>
 if t2 = 0 then
   (ev_ G 122 17 [.ref a0, .int x1, zU, zU] [.int 1, .ref a0] W1)
  else
   ev_ G 122 17 [.ref a0, .int x1, zU, zU] [.int 0, .ref a0] W1)
  zxe :=
 (zx_st (zh_X12_crimp G) [17, 48, 73] 400 0 _ _ _).trans rfl
set_option maxRecDepth 100000 in
theorem q_X12_crimp_17 (G : Nat × Nat) (a0 : Nat) (x1 : Int32) (a_0 : Nat) (x_1 : Int32) (W : zW) : ev_ G 122 17 [.ref a0, .int x1, zU, zU] [.int x_1, .ref a_0] W =
 zthI (zck 13 W a_0 (ev_ G 33 0 [.ref a_0, .int x_1] [] W))
  (fun t2 W1 =>
 if t2 = 0 then
   (zthI (zck 13 W1 a0 (ev_ G 121 0 [.ref a0, zU, zU, zU] [] W1))
     (fun t4 W3 =>
    if (x1 ≤ t4 : Prop) then
      (zthI (zck 13 W3 a0 (ev_ G 121 0 [.ref a0, zU, zU, zU] [] W3))
        (fun t6 W5 =>
       ev_ G 122 48 [.ref a0, .int x1, zU, zU] [.int (t6 - x1)] W5)
        zxe)
     else
      zthI (zck 13 W3 a0 (ev_ G 121 0 [.ref a0, zU, zU, zU] [] W3))
       (fun t8 W7 =>
      ev_ G 122 48 [.ref a0, .int x1, zU, zU] [.int (x1 - t8)] W7)
       zxe)
     zxe)
  else
   if (0 : Int32) &&& 1 = 0 then some (.inl (some (.int 0)), W1) else none)
  zxe :=
 (zx_st (zh_X12_crimp G) [17, 48, 73] 400 17 _ _ _).trans rfl
set_option maxRecDepth 100000 in
theorem q_X12_crimp_48 (G : Nat × Nat) (a0 : Nat) (x1 : Int32) (x_0 : Int32) (W : zW) : ev_ G 122 48 [.ref a0, .int x1, zU, zU] [.int x_0] W =
 (zgI 13 22 W a0).bind fun t1 =>
 if (t1 < 3 : Prop) then
  (ev_ G 122 73 [.ref a0, .int x1, .int x_0, zU] [.int 1] W)
 else
  zthI (zck 13 W a0 (ev_ G 121 0 [.ref a0, zU, zU, zU] [] W))
   (fun t3 W2 =>
  if (t3 < (10 * x_0) : Prop) then
    (ev_ G 122 73 [.ref a0, .int x1, .int x_0, zU] [.int 0] W2)
   else
    ev_ G 122 73 [.ref a0, .int x1, .int x_0, zU] [.int 1] W2)
   zxe :=
 (zx_st (zh_X12_crimp G) [17, 48, 73] 400 48 _ _ _).trans rfl
set_option maxRecDepth 100000 in
theorem q_X12_crimp_73 (G : Nat × Nat) (a0 : Nat) (x1 : Int32) (x2 : Int32) (x_0 : Int32) (W : zW) : ev_ G 122 73 [.ref a0, .int x1, .int x2, zU] [.int x_0] W =
 (zgI 13 21 W a0).bind fun t1 =>
 (zpt 13 21 W a0 (.int (t1 + 1))).bind fun W2 =>
 if x_0 = 0 then
  (if x_0 &&& 1 = x_0 then some (.inl (some (.int x_0)), W2) else none)
 else
  (zgR 13 23 W2 a0).bind fun t3 =>
  (zgI 13 22 W2 a0).bind fun t4 =>
  if 8 = 0 then none else
  (zsto 0 W2 t3 (t4 - t4 / 8 * 8) x1).bind fun W5 =>
  (zgI 13 22 W5 a0).bind fun t6 =>
  (zpt 13 22 W5 a0 (.int (t6 + 1))).bind fun W7 =>
  if x_0 &&& 1 = x_0 then some (.inl (some (.int x_0)), W7) else none :=
 (zx_st (zh_X12_crimp G) [17, 48, 73] 400 73 _ _ _).trans rfl
set_option maxRecDepth 100000 in
theorem q_X12_crimps_0 (G : Nat × Nat) (a0 : Nat) (x1 : Int32) (W : zW) : ev_ G 125 0 [.ref a0, .int x1] [] W =
 zthI (ev_ G 31 0 [.int x1, .int 0, .int 2] [] W)
  (fun t2 W1 =>
 if t2 = 0 then
   (ev_ G 125 15 [.ref a0, .int x1] [.int 1, .ref a0] W1)
  else
   ev_ G 125 15 [.ref a0, .int x1] [.int 0, .ref a0] W1)
  zxe :=
 (zx_st (zh_X12_crimps G) [15] 400 0 _ _ _).trans rfl
set_option maxRecDepth 100000 in
theorem q_X12_crimps_15 (G : Nat × Nat) (a0 : Nat) (x1 : Int32) (a_0 : Nat) (x_1 : Int32) (W : zW) : ev_ G 125 15 [.ref a0, .int x1] [.int x_1, .ref a_0] W =
 zthI (zck 13 W a_0 (ev_ G 33 0 [.ref a_0, .int x_1] [] W))
  (fun t2 W1 =>
 if t2 = 0 then
   (if x1 = 0 then
     ((zgI 13 21 W1 a0).bind fun t3 =>
      some (.inl (some (.int t3)), W1))
    else
     if (x1 = 1 : Prop) then
      ((zgI 13 22 W1 a0).bind fun t4 =>
       some (.inl (some (.int t4)), W1))
     else
      zthI (zck 13 W1 a0 (ev_ G 121 0 [.ref a0, zU, zU, zU] [] W1))
       (fun t6 W5 =>
      some (.inl (some (.int t6)), W5))
       zxe)
  else
   some (.inl (some (.int 0)), W1))
  zxe :=
 (zx_st (zh_X12_crimps G) [15] 400 15 _ _ _).trans rfl
set_option maxRecDepth 100000 in
theorem q_X12_reel_0 (G : Nat × Nat) (a0 : Nat) (x1 : Int32) (x2 : Int32) (x3 : Int32) (W : zW) : ev_ G 129 0 [.ref a0, .int x1, .int x2, .int x3, zU] [] W =
 zthI (ev_ G 31 0 [.int x2, .int 1, .int 99] [] W)
  (fun t2 W1 =>
 if t2 = 0 then
   (ev_ G 129 26 [.ref a0, .int x1, .int x2, .int x3, zU] [.int 0] W1)
  else
   zthI (ev_ G 31 0 [.int x3, .int 1, .int 5000] [] W1)
    (fun t4 W3 =>
   if t4 = 0 then
     (ev_ G 129 26 [.ref a0, .int x1, .int x2, .int x3, zU] [.int 0] W3)
    else
     ev_ G 129 26 [.ref a0, .int x1, .int x2, .int x3, zU] [.int 1] W3)
    zxe)
  zxe :=
 (zx_st (zh_X12_reel G) [26, 65] 400 0 _ _ _).trans rfl
set_option maxRecDepth 100000 in
theorem q_X12_reel_26 (G : Nat × Nat) (a0 : Nat) (x1 : Int32) (x2 : Int32) (x3 : Int32) (x_0 : Int32) (W : zW) : ev_ G 129 26 [.ref a0, .int x1, .int x2, .int x3, zU] [.int x_0] W =
 zthI (ev_ G 31 0 [.int x1, .int 0, .int 5] [] W)
  (fun t2 W1 =>
 if t2 = 0 then
   (ev_ G 129 65 [.ref a0, .int x1, .int x2, .int x3, .int x_0] [.int 1, .ref a0] W1)
  else
   if x_0 = 0 then
    (ev_ G 129 65 [.ref a0, .int x1, .int x2, .int x3, .int x_0] [.int 2, .ref a0] W1)
   else
    (zgI 13 25 W1 a0).bind fun t3 =>
    if (t3 = 12 : Prop) then
     (ev_ G 129 65 [.ref a0, .int x1, .int x2, .int x3, .int x_0] [.int 3, .ref a0] W1)
    else
     ev_ G 129 65 [.ref a0, .int x1, .int x2, .int x3, .int x_0] [.int 0, .ref a0] W1)
  zxe :=
 (zx_st (zh_X12_reel G) [26, 65] 400 26 _ _ _).trans rfl
set_option maxRecDepth 100000 in
theorem q_X12_reel_65 (G : Nat × Nat) (a0 : Nat) (x1 : Int32) (x2 : Int32) (x3 : Int32) (x4 : Int32) (a_0 : Nat) (x_1 : Int32) (W : zW) : ev_ G 129 65 [.ref a0, .int x1, .int x2, .int x3, .int x4] [.int x_1, .ref a_0] W =
 zthI (zck 13 W a_0 (ev_ G 33 0 [.ref a_0, .int x_1] [] W))
  (fun t2 W1 =>
 if t2 = 0 then
   ((zgR 13 26 W1 a0).bind fun t3 =>
    (zgI 13 25 W1 a0).bind fun t4 =>
    (zsto 0 W1 t3 t4 x1).bind fun W5 =>
    (zgR 13 27 W5 a0).bind fun t6 =>
    (zgI 13 25 W5 a0).bind fun t7 =>
    (zsto 0 W5 t6 t7 x2).bind fun W8 =>
    (zgR 13 28 W8 a0).bind fun t9 =>
    (zgI 13 25 W8 a0).bind fun t10 =>
    (zsto 0 W8 t9 t10 x3).bind fun W11 =>
    (zgR 13 29 W11 a0).bind fun t12 =>
    (zgI 13 25 W11 a0).bind fun t13 =>
    (zsto 0 W11 t12 t13 (-1)).bind fun W14 =>
    (zgI 13 25 W14 a0).bind fun t15 =>
    (zpt 13 25 W14 a0 (.int (t15 + 1))).bind fun W16 =>
    (zgI 13 25 W16 a0).bind fun t17 =>
    some (.inl (some (.int (t17 - 1))), W16))
  else
   some (.inl (some (.int 0)), W1))
  zxe :=
 (zx_st (zh_X12_reel G) [26, 65] 400 65 _ _ _).trans rfl
set_option maxRecDepth 100000 in
theorem q_X12_isReel_0 (G : Nat × Nat) (a0 : Nat) (x1 : Int32) (W : zW) : ev_ G 135 0 [.ref a0, .int x1] [] W =
 (zgI 13 25 W a0).bind fun t1 =>
 zthI (ev_ G 31 0 [.int x1, .int 0, .int (t1 - 1)] [] W)
  (fun t3 W2 =>
 if t3 &&& 1 = t3 then some (.inl (some (.int t3)), W2) else none)
  zxe :=
 (zx_st (zh_X12_isReel G) [] 400 0 _ _ _).trans rfl
set_option maxRecDepth 100000 in
theorem q_X12_runs_0 (G : Nat × Nat) (a0 : Nat) (x1 : Int32) (W : zW) : ev_ G 136 0 [.ref a0, .int x1, zU] [] W =
 (zgR 13 29 W a0).bind fun t1 =>
 (zld false W t1 x1).bind fun t2 =>
 if (t2 = (-1) : Prop) then
  (ev_ G 136 32 [.ref a0, .int x1, zU] [.int (-1)] W)
 else
  (zgR 13 29 W a0).bind fun t3 =>
  (zld false W t3 x1).bind fun t4 =>
  (zgR 13 28 W a0).bind fun t5 =>
  (zld false W t5 x1).bind fun t6 =>
  (zgI 13 24 W a0).bind fun t7 =>
  ev_ G 136 32 [.ref a0, .int x1, zU] [.int ((t4 + t6) - t7)] W :=
 (zx_st (zh_X12_runs G) [32] 400 0 _ _ _).trans rfl
set_option maxRecDepth 100000 in
theorem q_X12_runs_32 (G : Nat × Nat) (a0 : Nat) (x1 : Int32) (x_0 : Int32) (W : zW) : ev_ G 136 32 [.ref a0, .int x1, zU] [.int x_0] W =
 if 0 ≤ x_0 then
  (some (.inl (some (.int x_0)), W))
 else
  some (.inl (some (.int (-1))), W) :=
 (zx_st (zh_X12_runs G) [32] 400 32 _ _ _).trans rfl
set_option maxRecDepth 100000 in
theorem q_X12_open_0 (G : Nat × Nat) (a0 : Nat) (x1 : Int32) (x2 : Int32) (W : zW) : ev_ G 137 0 [.ref a0, .int x1, .int x2] [] W =
 zthI (zck 13 W a0 (ev_ G 135 0 [.ref a0, .int x1] [] W))
  (fun t2 W1 =>
 if t2 = 0 then
   (ev_ G 137 32 [.ref a0, .int x1, .int x2] [.int 1, .ref a0] W1)
  else
   (zgR 13 29 W1 a0).bind fun t3 =>
   (zld false W1 t3 x1).bind fun t4 =>
   if (t4 = (-1) : Prop) then
    (ev_ G 137 32 [.ref a0, .int x1, .int x2] [.int 0, .ref a0] W1)
   else
    if x2 = 0 then
     (ev_ G 137 32 [.ref a0, .int x1, .int x2] [.int 2, .ref a0] W1)
    else
     ev_ G 137 32 [.ref a0, .int x1, .int x2] [.int 0, .ref a0] W1)
  zxe :=
 (zx_st (zh_X12_open G) [32] 400 0 _ _ _).trans rfl
set_option maxRecDepth 100000 in
theorem q_X12_open_32 (G : Nat × Nat) (a0 : Nat) (x1 : Int32) (x2 : Int32) (a_0 : Nat) (x_1 : Int32) (W : zW) : ev_ G 137 32 [.ref a0, .int x1, .int x2] [.int x_1, .ref a_0] W =
 zthI (zck 13 W a_0 (ev_ G 33 0 [.ref a_0, .int x_1] [] W))
  (fun t2 W1 =>
 if t2 = 0 then
   ((zgR 13 29 W1 a0).bind fun t3 =>
    (zgI 13 24 W1 a0).bind fun t4 =>
    (zsto 0 W1 t3 x1 t4).bind fun W5 =>
    zthI (zck 13 W5 a0 (ev_ G 136 0 [.ref a0, .int x1, zU] [] W5))
     (fun t7 W6 =>
    some (.inl (some (.int t7)), W6))
     zxe)
  else
   some (.inl (some (.int 0)), W1))
  zxe :=
 (zx_st (zh_X12_open G) [32] 400 32 _ _ _).trans rfl
set_option maxRecDepth 100000 in
theorem q_X12_ofReel_0 (G : Nat × Nat) (a0 : Nat) (x1 : Int32) (x2 : Int32) (W : zW) : ev_ G 140 0 [.ref a0, .int x1, .int x2] [] W =
 zthI (zck 13 W a0 (ev_ G 135 0 [.ref a0, .int x1] [] W))
  (fun t2 W1 =>
 if t2 = 0 then
   (ev_ G 140 23 [.ref a0, .int x1, .int x2] [.int 1, .ref a0] W1)
  else
   zthI (ev_ G 31 0 [.int x2, .int 0, .int 2] [] W1)
    (fun t4 W3 =>
   if t4 = 0 then
     (ev_ G 140 23 [.ref a0, .int x1, .int x2] [.int 1, .ref a0] W3)
    else
     ev_ G 140 23 [.ref a0, .int x1, .int x2] [.int 0, .ref a0] W3)
    zxe)
  zxe :=
 (zx_st (zh_X12_ofReel G) [23] 400 0 _ _ _).trans rfl
set_option maxRecDepth 100000 in
theorem q_X12_ofReel_23 (G : Nat × Nat) (a0 : Nat) (x1 : Int32) (x2 : Int32) (a_0 : Nat) (x_1 : Int32) (W : zW) : ev_ G 140 23 [.ref a0, .int x1, .int x2] [.int x_1, .ref a_0] W =
 zthI (zck 13 W a_0 (ev_ G 33 0 [.ref a_0, .int x_1] [] W))
  (fun t2 W1 =>
 if t2 = 0 then
   (if x2 = 0 then
     ((zgR 13 26 W1 a0).bind fun t3 =>
      (zld false W1 t3 x1).bind fun t4 =>
      some (.inl (some (.int t4)), W1))
    else
     if (x2 = 1 : Prop) then
      ((zgR 13 27 W1 a0).bind fun t5 =>
       (zld false W1 t5 x1).bind fun t6 =>
       some (.inl (some (.int t6)), W1))
     else
      zthI (zck 13 W1 a0 (ev_ G 136 0 [.ref a0, .int x1, zU] [] W1))
       (fun t8 W7 =>
      some (.inl (some (.int t8)), W7))
       zxe)
  else
   some (.inl (some (.int 0)), W1))
  zxe :=
 (zx_st (zh_X12_ofReel G) [23] 400 23 _ _ _).trans rfl
set_option maxRecDepth 100000 in
theorem q_X12_board_0 (G : Nat × Nat) (a0 : Nat) (W : zW) : ev_ G 145 0 [.ref a0] [] W =
 (zgI 13 34 W a0).bind fun t1 =>
 if (t1 = 12 : Prop) then
  (ev_ G 145 15 [.ref a0] [.int 1, .ref a0] W)
 else
  ev_ G 145 15 [.ref a0] [.int 0, .ref a0] W :=
 (zx_st (zh_X12_board G) [15] 400 0 _ _ _).trans rfl
set_option maxRecDepth 100000 in
theorem q_X12_board_15 (G : Nat × Nat) (a0 : Nat) (a_0 : Nat) (x_1 : Int32) (W : zW) : ev_ G 145 15 [.ref a0] [.int x_1, .ref a_0] W =
 zthI (zck 13 W a_0 (ev_ G 33 0 [.ref a_0, .int x_1] [] W))
  (fun t2 W1 =>
 if t2 = 0 then
   ((zgI 13 34 W1 a0).bind fun t3 =>
    (zpt 13 34 W1 a0 (.int (t3 + 1))).bind fun W4 =>
    (zgI 13 34 W4 a0).bind fun t5 =>
    some (.inl (some (.int (t5 - 1))), W4))
  else
   some (.inl (some (.int 0)), W1))
  zxe :=
 (zx_st (zh_X12_board G) [15] 400 15 _ _ _).trans rfl
set_option maxRecDepth 100000 in
theorem q_X12_isBoard_0 (G : Nat × Nat) (a0 : Nat) (x1 : Int32) (W : zW) : ev_ G 153 0 [.ref a0, .int x1] [] W =
 (zgI 13 34 W a0).bind fun t1 =>
 zthI (ev_ G 31 0 [.int x1, .int 0, .int (t1 - 1)] [] W)
  (fun t3 W2 =>
 if t3 &&& 1 = t3 then some (.inl (some (.int t3)), W2) else none)
  zxe :=
 (zx_st (zh_X12_isBoard G) [] 400 0 _ _ _).trans rfl
set_option maxRecDepth 100000 in
theorem q_X12_isSlot_0 (G : Nat × Nat) (x0 : Int32) (W : zW) : ev_ G 154 0 [.int x0] [] W =
 zthI (ev_ G 31 0 [.int x0, .int 0, .int 7] [] W)
  (fun t2 W1 =>
 if t2 &&& 1 = t2 then some (.inl (some (.int t2)), W1) else none)
  zxe :=
 (zx_st (zh_X12_isSlot G) [] 400 0 _ _ _).trans rfl
set_option maxRecDepth 100000 in
theorem q_X12_gives_0 (G : Nat × Nat) (a0 : Nat) (x1 : Int32) (W : zW) : ev_ G 155 0 [.ref a0, .int x1] [] W =
 zthI (zck 13 W a0 (ev_ G 136 0 [.ref a0, .int x1, zU] [] W))
  (fun t2 W1 =>
 if (t2 = (-1) : Prop) then
   (if (0 : Int32) &&& 1 = 0 then some (.inl (some (.int 0)), W1) else none)
  else
   (zgR 13 27 W1 a0).bind fun t3 =>
   (zld false W1 t3 x1).bind fun t4 =>
   if t4 ≤ 0 then
    (if (0 : Int32) &&& 1 = 0 then some (.inl (some (.int 0)), W1) else none)
   else
    if (1 : Int32) &&& 1 = 1 then some (.inl (some (.int 1)), W1) else none)
  zxe :=
 (zx_st (zh_X12_gives G) [] 400 0 _ _ _).trans rfl
set_option maxRecDepth 100000 in
theorem q_X12_place_0 (G : Nat × Nat) (a0 : Nat) (x1 : Int32) (x2 : Int32) (x3 : Int32) (W : zW) : ev_ G 156 0 [.ref a0, .int x1, .int x2, .int x3, zU, zU] [] W =
 zthI (zck 13 W a0 (ev_ G 153 0 [.ref a0, .int x1] [] W))
  (fun t2 W1 =>
 if t2 = 0 then
   (ev_ G 156 28 [.ref a0, .int x1, .int x2, .int x3, zU, zU] [.int 0] W1)
  else
   zthI (ev_ G 154 0 [.int x2] [] W1)
    (fun t4 W3 =>
   if t4 = 0 then
     (ev_ G 156 28 [.ref a0, .int x1, .int x2, .int x3, zU, zU] [.int 0] W3)
    else
     zthI (zck 13 W3 a0 (ev_ G 135 0 [.ref a0, .int x3] [] W3))
      (fun t6 W5 =>
     if t6 = 0 then
       (ev_ G 156 28 [.ref a0, .int x1, .int x2, .int x3, zU, zU] [.int 0] W5)
      else
       ev_ G 156 28 [.ref a0, .int x1, .int x2, .int x3, zU, zU] [.int 1] W5)
      zxe)
    zxe)
  zxe :=
 (zx_st (zh_X12_place G) [28, 72, 94] 400 0 _ _ _).trans rfl
set_option maxRecDepth 100000 in
theorem q_X12_place_28 (G : Nat × Nat) (a0 : Nat) (x1 : Int32) (x2 : Int32) (x3 : Int32) (x_0 : Int32) (W : zW) : ev_ G 156 28 [.ref a0, .int x1, .int x2, .int x3, zU, zU] [.int x_0] W =
 if x_0 = 0 then
  (ev_ G 156 72 [.ref a0, .int x1, .int x2, .int x3, .int x_0, zU] [.int 0] W)
 else
  (zgR 13 35 W a0).bind fun t1 =>
  (zld true W t1 x1).bind fun t2 =>
  if t2 = 0 then
   ((zgR 13 38 W a0).bind fun t3 =>
    (zld false W t3 ((8 * x1) + x2)).bind fun t4 =>
    if (t4 = (-1) : Prop) then
     (zthI (zck 13 W a0 (ev_ G 155 0 [.ref a0, .int x3] [] W))
       (fun t6 W5 =>
      if t6 = 0 then
        (ev_ G 156 72 [.ref a0, .int x1, .int x2, .int x3, .int x_0, zU] [.int 0] W5)
       else
        ev_ G 156 72 [.ref a0, .int x1, .int x2, .int x3, .int x_0, zU] [.int 1] W5)
       zxe)
    else
     ev_ G 156 72 [.ref a0, .int x1, .int x2, .int x3, .int x_0, zU] [.int 0] W)
  else
   ev_ G 156 72 [.ref a0, .int x1, .int x2, .int x3, .int x_0, zU] [.int 0] W :=
 (zx_st (zh_X12_place G) [28, 72, 94] 400 28 _ _ _).trans rfl
set_option maxRecDepth 100000 in
theorem q_X12_place_72 (G : Nat × Nat) (a0 : Nat) (x1 : Int32) (x2 : Int32) (x3 : Int32) (x4 : Int32) (x_0 : Int32) (W : zW) : ev_ G 156 72 [.ref a0, .int x1, .int x2, .int x3, .int x4, zU] [.int x_0] W =
 if x4 = 0 then
  (ev_ G 156 94 [.ref a0, .int x1, .int x2, .int x3, .int x4, .int x_0] [.int 1, .ref a0] W)
 else
  if x_0 = 0 then
   (ev_ G 156 94 [.ref a0, .int x1, .int x2, .int x3, .int x4, .int x_0] [.int 2, .ref a0] W)
  else
   ev_ G 156 94 [.ref a0, .int x1, .int x2, .int x3, .int x4, .int x_0] [.int 0, .ref a0] W :=
 (zx_st (zh_X12_place G) [28, 72, 94] 400 72 _ _ _).trans rfl
set_option maxRecDepth 100000 in
theorem q_X12_place_94 (G : Nat × Nat) (a0 : Nat) (x1 : Int32) (x2 : Int32) (x3 : Int32) (x4 : Int32) (x5 : Int32) (a_0 : Nat) (x_1 : Int32) (W : zW) : ev_ G 156 94 [.ref a0, .int x1, .int x2, .int x3, .int x4, .int x5] [.int x_1, .ref a_0] W =
 zthI (zck 13 W a_0 (ev_ G 33 0 [.ref a_0, .int x_1] [] W))
  (fun t2 W1 =>
 if t2 = 0 then
   ((zgR 13 38 W1 a0).bind fun t3 =>
    (zsto 0 W1 t3 ((8 * x1) + x2) x3).bind fun W4 =>
    (zgR 13 39 W4 a0).bind fun t5 =>
    (zgI 13 24 W4 a0).bind fun t6 =>
    (zsto 0 W4 t5 ((8 * x1) + x2) t6).bind fun W7 =>
    (zgR 13 27 W7 a0).bind fun t8 =>
    (zld false W7 t8 x3).bind fun t9 =>
    (zsto 0 W7 t8 x3 (t9 - 1)).bind fun W10 =>
    (zgR 13 27 W10 a0).bind fun t11 =>
    (zld false W10 t11 x3).bind fun t12 =>
    some (.inl (some (.int t12)), W10))
  else
   some (.inl (some (.int 0)), W1))
  zxe :=
 (zx_st (zh_X12_place G) [28, 72, 94] 400 94 _ _ _).trans rfl
set_option maxRecDepth 100000 in
theorem q_X12_limits_0 (G : Nat × Nat) (a0 : Nat) (x1 : Int32) (x2 : Int32) (x3 : Int32) (x4 : Int32) (W : zW) : ev_ G 159 0 [.ref a0, .int x1, .int x2, .int x3, .int x4, zU, zU] [] W =
 if x1 = 0 then
  (ev_ G 159 11 [.ref a0, .int x1, .int x2, .int x3, .int x4, zU, zU] [.int 5, .int 0, .int x2] W)
 else
  ev_ G 159 11 [.ref a0, .int x1, .int x2, .int x3, .int x4, zU, zU] [.int 3, .int 0, .int x2] W :=
 (zx_st (zh_X12_limits G) [11, 48, 70] 400 0 _ _ _).trans rfl
set_option maxRecDepth 100000 in
theorem q_X12_limits_11 (G : Nat × Nat) (a0 : Nat) (x1 : Int32) (x2 : Int32) (x3 : Int32) (x4 : Int32) (x_0 : Int32) (x_1 : Int32) (x_2 : Int32) (W : zW) : ev_ G 159 11 [.ref a0, .int x1, .int x2, .int x3, .int x4, zU, zU] [.int x_2, .int x_1, .int x_0] W =
 zthI (ev_ G 31 0 [.int x_0, .int x_1, .int x_2] [] W)
  (fun t2 W1 =>
 zthI (ev_ G 31 0 [.int x3, .int 0, .int 400] [] W1)
   (fun t4 W3 =>
  if t4 = 0 then
    (ev_ G 159 48 [.ref a0, .int x1, .int x2, .int x3, .int x4, .int t2, zU] [.int 0] W3)
   else
    if x1 = 0 then
     (zthI (ev_ G 31 0 [.int x4, .int x3, .int 400] [] W3)
       (fun t6 W5 =>
      if t6 = 0 then
        (ev_ G 159 48 [.ref a0, .int x1, .int x2, .int x3, .int x4, .int t2, zU] [.int 0] W5)
       else
        ev_ G 159 48 [.ref a0, .int x1, .int x2, .int x3, .int x4, .int t2, zU] [.int 1] W5)
       zxe)
    else
     ev_ G 159 48 [.ref a0, .int x1, .int x2, .int x3, .int x4, .int t2, zU] [.int 1] W3)
   zxe)
  zxe :=
 (zx_st (zh_X12_limits G) [11, 48, 70] 400 11 _ _ _).trans rfl
set_option maxRecDepth 100000 in
theorem q_X12_limits_48 (G : Nat × Nat) (a0 : Nat) (x1 : Int32) (x2 : Int32) (x3 : Int32) (x4 : Int32) (x5 : Int32) (x_0 : Int32) (W : zW) : ev_ G 159 48 [.ref a0, .int x1, .int x2, .int x3, .int x4, .int x5, zU] [.int x_0] W =
 if x5 = 0 then
  (ev_ G 159 70 [.ref a0, .int x1, .int x2, .int x3, .int x4, .int x5, .int x_0] [.int 1, .ref a0] W)
 else
  if x_0 = 0 then
   (ev_ G 159 70 [.ref a0, .int x1, .int x2, .int x3, .int x4, .int x5, .int x_0] [.int 2, .ref a0] W)
  else
   ev_ G 159 70 [.ref a0, .int x1, .int x2, .int x3, .int x4, .int x5, .int x_0] [.int 0, .ref a0] W :=
 (zx_st (zh_X12_limits G) [11, 48, 70] 400 48 _ _ _).trans rfl
set_option maxRecDepth 100000 in
theorem q_X12_limits_70 (G : Nat × Nat) (a0 : Nat) (x1 : Int32) (x2 : Int32) (x3 : Int32) (x4 : Int32) (x5 : Int32) (x6 : Int32) (a_0 : Nat) (x_1 : Int32) (W : zW) : ev_ G 159 70 [.ref a0, .int x1, .int x2, .int x3, .int x4, .int x5, .int x6] [.int x_1, .ref a_0] W =
 zthI (zck 13 W a_0 (ev_ G 33 0 [.ref a_0, .int x_1] [] W))
  (fun t2 W1 =>
 if t2 = 0 then
   (if x1 = 0 then
     ((zgR 13 31 W1 a0).bind fun t3 =>
      (zsto 0 W1 t3 x2 x3).bind fun W4 =>
      (zgR 13 32 W4 a0).bind fun t5 =>
      (zsto 0 W4 t5 x2 x4).bind fun W6 =>
      some (.inl none, W6))
    else
     (zgR 13 30 W1 a0).bind fun t7 =>
     (zsto 0 W1 t7 x2 x3).bind fun W8 =>
     some (.inl none, W8))
  else
   some (.inl none, W1))
  zxe :=
 (zx_st (zh_X12_limits G) [11, 48, 70] 400 70 _ _ _).trans rfl
set_option maxRecDepth 100000 in
theorem q_X12_down_0 (G : Nat × Nat) (x0 : Int32) (x1 : Int32) (W : zW) : ev_ G 169 0 [.int x0, .int x1, zU] [] W =
 if x1 = 0 then none else
 if (((x0 / x1) * x1) ≤ x0 : Prop) then
  (some (.inl (some (.int (x0 / x1))), W))
 else
  some (.inl (some (.int ((x0 / x1) - 1))), W) :=
 (zx_st (zh_X12_down G) [] 400 0 _ _ _).trans rfl
set_option maxRecDepth 100000 in
theorem q_X12_peakOf_0 (G : Nat × Nat) (a0 : Nat) (x1 : Int32) (W : zW) : ev_ G 170 0 [.ref a0, .int x1, zU, zU, zU, zU] [] W =
 ev_ G 170 7 [.ref a0, .int x1, .int 2, .int (8 * x1), zU, zU] [] W :=
 (zx_st (zh_X12_peakOf G) [7, 51] 400 0 _ _ _).trans rfl
set_option maxRecDepth 100000 in
theorem q_X12_peakOf_7 (G : Nat × Nat) (a0 : Nat) (x1 : Int32) (x2 : Int32) (x3 : Int32) (W : zW) : ev_ G 170 7 [.ref a0, .int x1, .int x2, .int x3, zU, zU] [] W =
 if (((8 * x1) + 8) ≤ x3 : Prop) then
  (ev_ G 170 51 [.ref a0, .int x1, .int x2, .int 25, .int (-1), .int 0] [] W)
 else
  (zgR 13 38 W a0).bind fun t1 =>
  (zld false W t1 x3).bind fun t2 =>
  if (t2 = (-1) : Prop) then
   (ev_ G 170 7 [.ref a0, .int x1, .int (x2 + 0), .int (x3 + 1), zU, zU] [] W)
  else
   ev_ G 170 7 [.ref a0, .int x1, .int (x2 + 1), .int (x3 + 1), zU, zU] [] W :=
 (zx_st (zh_X12_peakOf G) [7, 51] 400 7 _ _ _).trans rfl
set_option maxRecDepth 100000 in
theorem q_X12_peakOf_51 (G : Nat × Nat) (a0 : Nat) (x1 : Int32) (x2 : Int32) (x3 : Int32) (x4 : Int32) (x5 : Int32) (W : zW) : ev_ G 170 51 [.ref a0, .int x1, .int x2, .int x3, .int x4, .int x5] [] W =
 if (12 ≤ x5 : Prop) then
  (some (.inl (some (.int x4)), W))
 else
  (zgR 13 30 W a0).bind fun t1 =>
  if 3 = 0 then none else
  (zld false W t1 (x5 / 3)).bind fun t2 =>
  zthI (ev_ G 169 0 [.int (t2 - x3), .int x2, zU] [] W)
   (fun t4 W3 =>
  if ((x3 + t4) ≤ x4 : Prop) then
    (ev_ G 170 51 [.ref a0, .int x1, .int x2, .int (x3 + t4), .int x4, .int (x5 + 1)] [] W3)
   else
    ev_ G 170 51 [.ref a0, .int x1, .int x2, .int (x3 + t4), .int (x3 + t4), .int (x5 + 1)] [] W3)
   zxe :=
 (zx_st (zh_X12_peakOf G) [7, 51] 400 51 _ _ _).trans rfl
set_option maxRecDepth 100000 in
theorem q_X12_solder_0 (G : Nat × Nat) (a0 : Nat) (x1 : Int32) (W : zW) : ev_ G 171 0 [.ref a0, .int x1, zU, zU, zU] [] W =
 zthI (zck 13 W a0 (ev_ G 153 0 [.ref a0, .int x1] [] W))
  (fun t2 W1 =>
 if t2 = 0 then
   (ev_ G 171 27 [.ref a0, .int x1, zU, zU, zU] [.int 1, .ref a0] W1)
  else
   (zgR 13 35 W1 a0).bind fun t3 =>
   (zld true W1 t3 x1).bind fun t4 =>
   if t4 = 0 then
    (ev_ G 171 27 [.ref a0, .int x1, zU, zU, zU] [.int 0, .ref a0] W1)
   else
    ev_ G 171 27 [.ref a0, .int x1, zU, zU, zU] [.int 2, .ref a0] W1)
  zxe :=
 (zx_st (zh_X12_solder G) [27, 53, 123] 400 0 _ _ _).trans rfl
set_option maxRecDepth 100000 in
theorem q_X12_solder_27 (G : Nat × Nat) (a0 : Nat) (x1 : Int32) (a_0 : Nat) (x_1 : Int32) (W : zW) : ev_ G 171 27 [.ref a0, .int x1, zU, zU, zU] [.int x_1, .ref a_0] W =
 zthI (zck 13 W a_0 (ev_ G 33 0 [.ref a_0, .int x_1] [] W))
  (fun t2 W1 =>
 if t2 = 0 then
   (zthI (zck 13 W1 a0 (ev_ G 170 0 [.ref a0, .int x1, zU, zU, zU, zU] [] W1))
     (fun t4 W3 =>
    (zgR 13 35 W3 a0).bind fun t5 =>
     (zsto 1 W3 t5 x1 (1 &&& 1)).bind fun W6 =>
     ev_ G 171 53 [.ref a0, .int x1, .int t4, .int (8 * x1), zU] [] W6)
     zxe)
  else
   some (.inl (some (.int 0)), W1))
  zxe :=
 (zx_st (zh_X12_solder G) [27, 53, 123] 400 27 _ _ _).trans rfl
set_option maxRecDepth 100000 in
theorem q_X12_solder_53 (G : Nat × Nat) (a0 : Nat) (x1 : Int32) (x2 : Int32) (x3 : Int32) (u4 : Value) (W : zW) : ev_ G 171 53 [.ref a0, .int x1, .int x2, .int x3, u4] [] W =
 if (((8 * x1) + 8) ≤ x3 : Prop) then
  (some (.inl (some (.int x2)), W))
 else
  (zgR 13 38 W a0).bind fun t1 =>
  (zld false W t1 x3).bind fun t2 =>
  if (t2 = (-1) : Prop) then
   (ev_ G 171 53 [.ref a0, .int x1, .int x2, .int (x3 + 1), u4] [] W)
  else
   (zgR 13 26 W a0).bind fun t3 =>
   (zgR 13 38 W a0).bind fun t4 =>
   (zld false W t4 x3).bind fun t5 =>
   (zld false W t3 t5).bind fun t6 =>
   (zgR 13 40 W a0).bind fun t7 =>
   (zgR 13 31 W a0).bind fun t8 =>
   (zld false W t8 t6).bind fun t9 =>
   if (t9 ≤ x2 : Prop) then
    ((zgR 13 32 W a0).bind fun t10 =>
     (zld false W t10 t6).bind fun t11 =>
     if (x2 ≤ t11 : Prop) then
      (ev_ G 171 123 [.ref a0, .int x1, .int x2, .int x3, .int t6] [.int 0, .int x3, .ref t7] W)
     else
      ev_ G 171 123 [.ref a0, .int x1, .int x2, .int x3, .int t6] [.int 2, .int x3, .ref t7] W)
   else
    ev_ G 171 123 [.ref a0, .int x1, .int x2, .int x3, .int t6] [.int 1, .int x3, .ref t7] W :=
 (zx_st (zh_X12_solder G) [27, 53, 123] 400 53 _ _ _).trans rfl
set_option maxRecDepth 100000 in
theorem q_X12_solder_123 (G : Nat × Nat) (a0 : Nat) (x1 : Int32) (x2 : Int32) (x3 : Int32) (x4 : Int32) (a_0 : Nat) (x_1 : Int32) (x_2 : Int32) (W : zW) : ev_ G 171 123 [.ref a0, .int x1, .int x2, .int x3, .int x4] [.int x_2, .int x_1, .ref a_0] W =
 (zsto 0 W a_0 x_1 x_2).bind fun W1 =>
 (zgR 13 41 W1 a0).bind fun t2 =>
 (zgR 13 40 W1 a0).bind fun t3 =>
 (zld false W1 t3 x3).bind fun t4 =>
 (zsto 0 W1 t2 x3 t4).bind fun W5 =>
 ev_ G 171 53 [.ref a0, .int x1, .int x2, .int (x3 + 1), .int x4] [] W5 :=
 (zx_st (zh_X12_solder G) [27, 53, 123] 400 123 _ _ _).trans rfl
set_option maxRecDepth 100000 in
theorem q_X12_flaw_0 (G : Nat × Nat) (a0 : Nat) (x1 : Int32) (x2 : Int32) (W : zW) : ev_ G 174 0 [.ref a0, .int x1, .int x2, zU] [] W =
 zthI (zck 13 W a0 (ev_ G 153 0 [.ref a0, .int x1] [] W))
  (fun t2 W1 =>
 if t2 = 0 then
   (ev_ G 174 20 [.ref a0, .int x1, .int x2, zU] [.int 0] W1)
  else
   zthI (ev_ G 154 0 [.int x2] [] W1)
    (fun t4 W3 =>
   if t4 = 0 then
     (ev_ G 174 20 [.ref a0, .int x1, .int x2, zU] [.int 0] W3)
    else
     ev_ G 174 20 [.ref a0, .int x1, .int x2, zU] [.int 1] W3)
    zxe)
  zxe :=
 (zx_st (zh_X12_flaw G) [20, 68] 400 0 _ _ _).trans rfl
set_option maxRecDepth 100000 in
theorem q_X12_flaw_20 (G : Nat × Nat) (a0 : Nat) (x1 : Int32) (x2 : Int32) (x_0 : Int32) (W : zW) : ev_ G 174 20 [.ref a0, .int x1, .int x2, zU] [.int x_0] W =
 if x_0 = 0 then
  (ev_ G 174 68 [.ref a0, .int x1, .int x2, .int x_0] [.int 1, .ref a0] W)
 else
  (zgR 13 35 W a0).bind fun t1 =>
  (zld true W t1 x1).bind fun t2 =>
  if t2 = 0 then
   (ev_ G 174 68 [.ref a0, .int x1, .int x2, .int x_0] [.int 2, .ref a0] W)
  else
   (zgR 13 37 W a0).bind fun t3 =>
   (zld true W t3 x1).bind fun t4 =>
   if t4 = 0 then
    ((zgR 13 38 W a0).bind fun t5 =>
     (zld false W t5 ((8 * x1) + x2)).bind fun t6 =>
     if (t6 = (-1) : Prop) then
      (ev_ G 174 68 [.ref a0, .int x1, .int x2, .int x_0] [.int 2, .ref a0] W)
     else
      ev_ G 174 68 [.ref a0, .int x1, .int x2, .int x_0] [.int 0, .ref a0] W)
   else
    ev_ G 174 68 [.ref a0, .int x1, .int x2, .int x_0] [.int 2, .ref a0] W :=
 (zx_st (zh_X12_flaw G) [20, 68] 400 20 _ _ _).trans rfl
set_option maxRecDepth 100000 in
theorem q_X12_flaw_68 (G : Nat × Nat) (a0 : Nat) (x1 : Int32) (x2 : Int32) (x3 : Int32) (a_0 : Nat) (x_1 : Int32) (W : zW) : ev_ G 174 68 [.ref a0, .int x1, .int x2, .int x3] [.int x_1, .ref a_0] W =
 zthI (zck 13 W a_0 (ev_ G 33 0 [.ref a_0, .int x_1] [] W))
  (fun t2 W1 =>
 if t2 = 0 then
   ((zgR 13 41 W1 a0).bind fun t3 =>
    (zsto 0 W1 t3 ((8 * x1) + x2) 3).bind fun W4 =>
    (zgR 13 42 W4 a0).bind fun t5 =>
    (zsto 1 W4 t5 ((8 * x1) + x2) (0 &&& 1)).bind fun W6 =>
    some (.inl none, W6))
  else
   some (.inl none, W1))
  zxe :=
 (zx_st (zh_X12_flaw G) [20, 68] 400 68 _ _ _).trans rfl
set_option maxRecDepth 100000 in
theorem q_X12_cover_0 (G : Nat × Nat) (a0 : Nat) (x1 : Int32) (x2 : Int32) (W : zW) : ev_ G 178 0 [.ref a0, .int x1, .int x2, zU, zU] [] W =
 zthI (ev_ G 154 0 [.int x1] [] W)
  (fun t2 W1 =>
 if t2 = 0 then
   (ev_ G 178 13 [.ref a0, .int x1, .int x2, zU, zU] [.int 1, .ref a0] W1)
  else
   ev_ G 178 13 [.ref a0, .int x1, .int x2, zU, zU] [.int 0, .ref a0] W1)
  zxe :=
 (zx_st (zh_X12_cover G) [13, 33] 400 0 _ _ _).trans rfl
set_option maxRecDepth 100000 in
theorem q_X12_cover_13 (G : Nat × Nat) (a0 : Nat) (x1 : Int32) (x2 : Int32) (a_0 : Nat) (x_1 : Int32) (W : zW) : ev_ G 178 13 [.ref a0, .int x1, .int x2, zU, zU] [.int x_1, .ref a_0] W =
 zthI (zck 13 W a_0 (ev_ G 33 0 [.ref a_0, .int x_1] [] W))
  (fun t2 W1 =>
 if t2 = 0 then
   ((zgR 13 33 W1 a0).bind fun t3 =>
    (zsto 1 W1 t3 x1 (x2 &&& 1)).bind fun W4 =>
    ev_ G 178 33 [.ref a0, .int x1, .int x2, .int 0, .int 0] [] W4)
  else
   some (.inl (some (.int 0)), W1))
  zxe :=
 (zx_st (zh_X12_cover G) [13, 33] 400 13 _ _ _).trans rfl
set_option maxRecDepth 100000 in
theorem q_X12_cover_33 (G : Nat × Nat) (a0 : Nat) (x1 : Int32) (x2 : Int32) (x3 : Int32) (x4 : Int32) (W : zW) : ev_ G 178 33 [.ref a0, .int x1, .int x2, .int x3, .int x4] [] W =
 if (8 ≤ x4 : Prop) then
  (some (.inl (some (.int x3)), W))
 else
  (zgR 13 33 W a0).bind fun t1 =>
  (zld true W t1 x4).bind fun t2 =>
  if t2 = 0 then
   (ev_ G 178 33 [.ref a0, .int x1, .int x2, .int (x3 + 0), .int (x4 + 1)] [] W)
  else
   ev_ G 178 33 [.ref a0, .int x1, .int x2, .int (x3 + 1), .int (x4 + 1)] [] W :=
 (zx_st (zh_X12_cover G) [13, 33] 400 33 _ _ _).trans rfl
set_option maxRecDepth 100000 in
theorem q_X12_faults_0 (G : Nat × Nat) (a0 : Nat) (x1 : Int32) (x2 : Int32) (W : zW) : ev_ G 183 0 [.ref a0, .int x1, .int x2, zU, zU] [] W =
 ev_ G 183 8 [.ref a0, .int x1, .int x2, .int 0, .int (8 * x1)] [] W :=
 (zx_st (zh_X12_faults G) [8] 400 0 _ _ _).trans rfl
set_option maxRecDepth 100000 in
theorem q_X12_faults_8 (G : Nat × Nat) (a0 : Nat) (x1 : Int32) (x2 : Int32) (x3 : Int32) (x4 : Int32) (W : zW) : ev_ G 183 8 [.ref a0, .int x1, .int x2, .int x3, .int x4] [] W =
 if (((8 * x1) + 8) ≤ x4 : Prop) then
  (some (.inl (some (.int x3)), W))
 else
  (zgR 13 41 W a0).bind fun t1 =>
  (zld false W t1 x4).bind fun t2 =>
  if t2 = 0 then
   (ev_ G 183 8 [.ref a0, .int x1, .int x2, .int (x3 + 0), .int (x4 + 1)] [] W)
  else
   (zgR 13 42 W a0).bind fun t3 =>
   (zld true W t3 x4).bind fun t4 =>
   if (t4 = x2 : Prop) then
    (ev_ G 183 8 [.ref a0, .int x1, .int x2, .int (x3 + 1), .int (x4 + 1)] [] W)
   else
    ev_ G 183 8 [.ref a0, .int x1, .int x2, .int (x3 + 0), .int (x4 + 1)] [] W :=
 (zx_st (zh_X12_faults G) [8] 400 8 _ _ _).trans rfl
set_option maxRecDepth 100000 in
theorem q_X12_test_0 (G : Nat × Nat) (a0 : Nat) (x1 : Int32) (W : zW) : ev_ G 184 0 [.ref a0, .int x1, zU, zU] [] W =
 zthI (zck 13 W a0 (ev_ G 153 0 [.ref a0, .int x1] [] W))
  (fun t2 W1 =>
 if t2 = 0 then
   (ev_ G 184 36 [.ref a0, .int x1, zU, zU] [.int 1, .ref a0] W1)
  else
   (zgR 13 35 W1 a0).bind fun t3 =>
   (zld true W1 t3 x1).bind fun t4 =>
   if t4 = 0 then
    (ev_ G 184 36 [.ref a0, .int x1, zU, zU] [.int 2, .ref a0] W1)
   else
    (zgR 13 37 W1 a0).bind fun t5 =>
    (zld true W1 t5 x1).bind fun t6 =>
    if t6 = 0 then
     (ev_ G 184 36 [.ref a0, .int x1, zU, zU] [.int 0, .ref a0] W1)
    else
     ev_ G 184 36 [.ref a0, .int x1, zU, zU] [.int 2, .ref a0] W1)
  zxe :=
 (zx_st (zh_X12_test G) [36, 53] 400 0 _ _ _).trans rfl
set_option maxRecDepth 100000 in
theorem q_X12_test_36 (G : Nat × Nat) (a0 : Nat) (x1 : Int32) (a_0 : Nat) (x_1 : Int32) (W : zW) : ev_ G 184 36 [.ref a0, .int x1, zU, zU] [.int x_1, .ref a_0] W =
 zthI (zck 13 W a_0 (ev_ G 33 0 [.ref a_0, .int x_1] [] W))
  (fun t2 W1 =>
 if t2 = 0 then
   ((zgR 13 36 W1 a0).bind fun t3 =>
    (zsto 1 W1 t3 x1 (1 &&& 1)).bind fun W4 =>
    ev_ G 184 53 [.ref a0, .int x1, .int 0, zU] [] W4)
  else
   some (.inl (some (.int 0)), W1))
  zxe :=
 (zx_st (zh_X12_test G) [36, 53] 400 36 _ _ _).trans rfl
set_option maxRecDepth 100000 in
theorem q_X12_test_53 (G : Nat × Nat) (a0 : Nat) (x1 : Int32) (x2 : Int32) (u3 : Value) (W : zW) : ev_ G 184 53 [.ref a0, .int x1, .int x2, u3] [] W =
 if (8 ≤ x2 : Prop) then
  (zthI (zck 13 W a0 (ev_ G 183 0 [.ref a0, .int x1, .int 1, zU, zU] [] W))
    (fun t2 W1 =>
   some (.inl (some (.int t2)), W1))
    zxe)
 else
  (zgR 13 42 W a0).bind fun t3 =>
  (zgR 13 42 W a0).bind fun t4 =>
  (zld true W t4 ((8 * x1) + x2)).bind fun t5 =>
  if t5 = 0 then
   ((zgR 13 33 W a0).bind fun t6 =>
    (zld true W t6 x2).bind fun t7 =>
    if t7 = 0 then
     ((zsto 1 W t3 ((8 * x1) + x2) (0 &&& 1)).bind fun W8 =>
      ev_ G 184 53 [.ref a0, .int x1, .int (x2 + 1), .int ((8 * x1) + x2)] [] W8)
    else
     (zgR 13 41 W a0).bind fun t9 =>
     (zld false W t9 ((8 * x1) + x2)).bind fun t10 =>
     if t10 = 0 then
      ((zsto 1 W t3 ((8 * x1) + x2) (0 &&& 1)).bind fun W11 =>
       ev_ G 184 53 [.ref a0, .int x1, .int (x2 + 1), .int ((8 * x1) + x2)] [] W11)
     else
      (zsto 1 W t3 ((8 * x1) + x2) (1 &&& 1)).bind fun W12 =>
      ev_ G 184 53 [.ref a0, .int x1, .int (x2 + 1), .int ((8 * x1) + x2)] [] W12)
  else
   (zsto 1 W t3 ((8 * x1) + x2) (1 &&& 1)).bind fun W13 =>
   ev_ G 184 53 [.ref a0, .int x1, .int (x2 + 1), .int ((8 * x1) + x2)] [] W13 :=
 (zx_st (zh_X12_test G) [36, 53] 400 53 _ _ _).trans rfl
set_option maxRecDepth 100000 in
theorem q_X12_repair_0 (G : Nat × Nat) (a0 : Nat) (x1 : Int32) (x2 : Int32) (x3 : Int32) (W : zW) : ev_ G 188 0 [.ref a0, .int x1, .int x2, .int x3, zU, zU, zU] [] W =
 zthI (zck 13 W a0 (ev_ G 153 0 [.ref a0, .int x1] [] W))
  (fun t2 W1 =>
 if t2 = 0 then
   (ev_ G 188 28 [.ref a0, .int x1, .int x2, .int x3, zU, zU, zU] [.int 0] W1)
  else
   zthI (ev_ G 154 0 [.int x2] [] W1)
    (fun t4 W3 =>
   if t4 = 0 then
     (ev_ G 188 28 [.ref a0, .int x1, .int x2, .int x3, zU, zU, zU] [.int 0] W3)
    else
     zthI (zck 13 W3 a0 (ev_ G 135 0 [.ref a0, .int x3] [] W3))
      (fun t6 W5 =>
     if t6 = 0 then
       (ev_ G 188 28 [.ref a0, .int x1, .int x2, .int x3, zU, zU, zU] [.int 0] W5)
      else
       ev_ G 188 28 [.ref a0, .int x1, .int x2, .int x3, zU, zU, zU] [.int 1] W5)
      zxe)
    zxe)
  zxe :=
 (zx_st (zh_X12_repair G) [28, 45, 106, 128] 400 0 _ _ _).trans rfl
set_option maxRecDepth 100000 in
theorem q_X12_repair_28 (G : Nat × Nat) (a0 : Nat) (x1 : Int32) (x2 : Int32) (x3 : Int32) (x_0 : Int32) (W : zW) : ev_ G 188 28 [.ref a0, .int x1, .int x2, .int x3, zU, zU, zU] [.int x_0] W =
 if x_0 = 0 then
  (ev_ G 188 45 [.ref a0, .int x1, .int x2, .int x3, .int x_0, zU, zU] [.int 0] W)
 else
  ev_ G 188 45 [.ref a0, .int x1, .int x2, .int x3, .int x_0, zU, zU] [.int ((8 * x1) + x2)] W :=
 (zx_st (zh_X12_repair G) [28, 45, 106, 128] 400 28 _ _ _).trans rfl
set_option maxRecDepth 100000 in
theorem q_X12_repair_45 (G : Nat × Nat) (a0 : Nat) (x1 : Int32) (x2 : Int32) (x3 : Int32) (x4 : Int32) (x_0 : Int32) (W : zW) : ev_ G 188 45 [.ref a0, .int x1, .int x2, .int x3, .int x4, zU, zU] [.int x_0] W =
 if x4 = 0 then
  (ev_ G 188 106 [.ref a0, .int x1, .int x2, .int x3, .int x4, .int x_0, zU] [.int 0] W)
 else
  (zgR 13 42 W a0).bind fun t1 =>
  (zld true W t1 x_0).bind fun t2 =>
  if t2 = 0 then
   (ev_ G 188 106 [.ref a0, .int x1, .int x2, .int x3, .int x4, .int x_0, zU] [.int 0] W)
  else
   (zgR 13 43 W a0).bind fun t3 =>
   (zld true W t3 x_0).bind fun t4 =>
   if t4 = 0 then
    ((zgR 13 26 W a0).bind fun t5 =>
     (zld false W t5 x3).bind fun t6 =>
     (zgR 13 26 W a0).bind fun t7 =>
     (zgR 13 38 W a0).bind fun t8 =>
     (zld false W t8 x_0).bind fun t9 =>
     (zld false W t7 t9).bind fun t10 =>
     if (t6 = t10 : Prop) then
      (zthI (zck 13 W a0 (ev_ G 155 0 [.ref a0, .int x3] [] W))
        (fun t12 W11 =>
       if t12 = 0 then
         (ev_ G 188 106 [.ref a0, .int x1, .int x2, .int x3, .int x4, .int x_0, zU] [.int 0] W11)
        else
         ev_ G 188 106 [.ref a0, .int x1, .int x2, .int x3, .int x4, .int x_0, zU] [.int 1] W11)
        zxe)
     else
      ev_ G 188 106 [.ref a0, .int x1, .int x2, .int x3, .int x4, .int x_0, zU] [.int 0] W)
   else
    ev_ G 188 106 [.ref a0, .int x1, .int x2, .int x3, .int x4, .int x_0, zU] [.int 0] W :=
 (zx_st (zh_X12_repair G) [28, 45, 106, 128] 400 45 _ _ _).trans rfl
set_option maxRecDepth 100000 in
theorem q_X12_repair_106 (G : Nat × Nat) (a0 : Nat) (x1 : Int32) (x2 : Int32) (x3 : Int32) (x4 : Int32) (x5 : Int32) (x_0 : Int32) (W : zW) : ev_ G 188 106 [.ref a0, .int x1, .int x2, .int x3, .int x4, .int x5, zU] [.int x_0] W =
 if x4 = 0 then
  (ev_ G 188 128 [.ref a0, .int x1, .int x2, .int x3, .int x4, .int x5, .int x_0] [.int 1, .ref a0] W)
 else
  if x_0 = 0 then
   (ev_ G 188 128 [.ref a0, .int x1, .int x2, .int x3, .int x4, .int x5, .int x_0] [.int 2, .ref a0] W)
  else
   ev_ G 188 128 [.ref a0, .int x1, .int x2, .int x3, .int x4, .int x5, .int x_0] [.int 0, .ref a0] W :=
 (zx_st (zh_X12_repair G) [28, 45, 106, 128] 400 106 _ _ _).trans rfl
set_option maxRecDepth 100000 in
theorem q_X12_repair_128 (G : Nat × Nat) (a0 : Nat) (x1 : Int32) (x2 : Int32) (x3 : Int32) (x4 : Int32) (x5 : Int32) (x6 : Int32) (a_0 : Nat) (x_1 : Int32) (W : zW) : ev_ G 188 128 [.ref a0, .int x1, .int x2, .int x3, .int x4, .int x5, .int x6] [.int x_1, .ref a_0] W =
 zthI (zck 13 W a_0 (ev_ G 33 0 [.ref a_0, .int x_1] [] W))
  (fun t2 W1 =>
 if t2 = 0 then
   ((zgR 13 38 W1 a0).bind fun t3 =>
    (zsto 0 W1 t3 x5 x3).bind fun W4 =>
    (zgR 13 39 W4 a0).bind fun t5 =>
    (zgI 13 24 W4 a0).bind fun t6 =>
    (zsto 0 W4 t5 x5 t6).bind fun W7 =>
    (zgR 13 27 W7 a0).bind fun t8 =>
    (zld false W7 t8 x3).bind fun t9 =>
    (zsto 0 W7 t8 x3 (t9 - 1)).bind fun W10 =>
    (zgR 13 41 W10 a0).bind fun t11 =>
    (zsto 0 W10 t11 x5 0).bind fun W12 =>
    (zgR 13 42 W12 a0).bind fun t13 =>
    (zsto 1 W12 t13 x5 (0 &&& 1)).bind fun W14 =>
    (zgR 13 43 W14 a0).bind fun t15 =>
    (zsto 1 W14 t15 x5 (1 &&& 1)).bind fun W16 =>
    (zgR 13 36 W16 a0).bind fun t17 =>
    (zsto 1 W16 t17 x1 (0 &&& 1)).bind fun W18 =>
    zthI (zck 13 W18 a0 (ev_ G 183 0 [.ref a0, .int x1, .int 1, zU, zU] [] W18))
     (fun t20 W19 =>
    some (.inl (some (.int t20)), W19))
     zxe)
  else
   some (.inl (some (.int 0)), W1))
  zxe :=
 (zx_st (zh_X12_repair G) [28, 45, 106, 128] 400 128 _ _ _).trans rfl
set_option maxRecDepth 100000 in
theorem q_X12_ship_0 (G : Nat × Nat) (a0 : Nat) (x1 : Int32) (W : zW) : ev_ G 191 0 [.ref a0, .int x1] [] W =
 zthI (zck 13 W a0 (ev_ G 153 0 [.ref a0, .int x1] [] W))
  (fun t2 W1 =>
 if t2 = 0 then
   (ev_ G 191 45 [.ref a0, .int x1] [.int 1, .ref a0] W1)
  else
   (zgR 13 37 W1 a0).bind fun t3 =>
   (zld true W1 t3 x1).bind fun t4 =>
   if t4 = 0 then
    ((zgR 13 36 W1 a0).bind fun t5 =>
     (zld true W1 t5 x1).bind fun t6 =>
     if t6 = 0 then
      (ev_ G 191 45 [.ref a0, .int x1] [.int 2, .ref a0] W1)
     else
      zthI (zck 13 W1 a0 (ev_ G 183 0 [.ref a0, .int x1, .int 1, zU, zU] [] W1))
       (fun t8 W7 =>
      if t8 ≤ 0 then
        (ev_ G 191 45 [.ref a0, .int x1] [.int 0, .ref a0] W7)
       else
        ev_ G 191 45 [.ref a0, .int x1] [.int 2, .ref a0] W7)
       zxe)
   else
    ev_ G 191 45 [.ref a0, .int x1] [.int 2, .ref a0] W1)
  zxe :=
 (zx_st (zh_X12_ship G) [45] 400 0 _ _ _).trans rfl
set_option maxRecDepth 100000 in
theorem q_X12_ship_45 (G : Nat × Nat) (a0 : Nat) (x1 : Int32) (a_0 : Nat) (x_1 : Int32) (W : zW) : ev_ G 191 45 [.ref a0, .int x1] [.int x_1, .ref a_0] W =
 zthI (zck 13 W a_0 (ev_ G 33 0 [.ref a_0, .int x_1] [] W))
  (fun t2 W1 =>
 if t2 = 0 then
   ((zgR 13 37 W1 a0).bind fun t3 =>
    (zsto 1 W1 t3 x1 (1 &&& 1)).bind fun W4 =>
    zthI (zck 13 W4 a0 (ev_ G 183 0 [.ref a0, .int x1, .int 0, zU, zU] [] W4))
     (fun t6 W5 =>
    some (.inl (some (.int t6)), W5))
     zxe)
  else
   some (.inl (some (.int 0)), W1))
  zxe :=
 (zx_st (zh_X12_ship G) [45] 400 45 _ _ _).trans rfl
set_option maxRecDepth 100000 in
theorem q_X12_pass_0 (G : Nat × Nat) (a0 : Nat) (x1 : Int32) (W : zW) : ev_ G 194 0 [.ref a0, .int x1] [] W =
 zthI (ev_ G 31 0 [.int x1, .int 1, .int 999] [] W)
  (fun t2 W1 =>
 if t2 = 0 then
   (ev_ G 194 33 [.ref a0, .int x1] [.int 1, .ref a0] W1)
  else
   (zgI 13 24 W1 a0).bind fun t3 =>
   if ((t3 + x1) ≤ 9999 : Prop) then
    (ev_ G 194 33 [.ref a0, .int x1] [.int 0, .ref a0] W1)
   else
    ev_ G 194 33 [.ref a0, .int x1] [.int 2, .ref a0] W1)
  zxe :=
 (zx_st (zh_X12_pass G) [33] 400 0 _ _ _).trans rfl
set_option maxRecDepth 100000 in
theorem q_X12_pass_33 (G : Nat × Nat) (a0 : Nat) (x1 : Int32) (a_0 : Nat) (x_1 : Int32) (W : zW) : ev_ G 194 33 [.ref a0, .int x1] [.int x_1, .ref a_0] W =
 zthI (zck 13 W a_0 (ev_ G 33 0 [.ref a_0, .int x_1] [] W))
  (fun t2 W1 =>
 if t2 = 0 then
   ((zgI 13 24 W1 a0).bind fun t3 =>
    (zpt 13 24 W1 a0 (.int (t3 + x1))).bind fun W4 =>
    (zgI 13 24 W4 a0).bind fun t5 =>
    some (.inl (some (.int t5)), W4))
  else
   some (.inl (some (.int 0)), W1))
  zxe :=
 (zx_st (zh_X12_pass G) [33] 400 33 _ _ _).trans rfl
set_option maxRecDepth 100000 in
theorem q_X12_ofSlot_0 (G : Nat × Nat) (a0 : Nat) (x1 : Int32) (x2 : Int32) (x3 : Int32) (W : zW) : ev_ G 197 0 [.ref a0, .int x1, .int x2, .int x3, zU] [] W =
 zthI (zck 13 W a0 (ev_ G 153 0 [.ref a0, .int x1] [] W))
  (fun t2 W1 =>
 if t2 = 0 then
   (ev_ G 197 30 [.ref a0, .int x1, .int x2, .int x3, zU] [.int 1, .ref a0] W1)
  else
   zthI (ev_ G 154 0 [.int x2] [] W1)
    (fun t4 W3 =>
   if t4 = 0 then
     (ev_ G 197 30 [.ref a0, .int x1, .int x2, .int x3, zU] [.int 1, .ref a0] W3)
    else
     zthI (ev_ G 31 0 [.int x3, .int 0, .int 3] [] W3)
      (fun t6 W5 =>
     if t6 = 0 then
       (ev_ G 197 30 [.ref a0, .int x1, .int x2, .int x3, zU] [.int 1, .ref a0] W5)
      else
       ev_ G 197 30 [.ref a0, .int x1, .int x2, .int x3, zU] [.int 0, .ref a0] W5)
      zxe)
    zxe)
  zxe :=
 (zx_st (zh_X12_ofSlot G) [30] 400 0 _ _ _).trans rfl
set_option maxRecDepth 100000 in
theorem q_X12_ofSlot_30 (G : Nat × Nat) (a0 : Nat) (x1 : Int32) (x2 : Int32) (x3 : Int32) (a_0 : Nat) (x_1 : Int32) (W : zW) : ev_ G 197 30 [.ref a0, .int x1, .int x2, .int x3, zU] [.int x_1, .ref a_0] W =
 zthI (zck 13 W a_0 (ev_ G 33 0 [.ref a_0, .int x_1] [] W))
  (fun t2 W1 =>
 if t2 = 0 then
   (if x3 = 0 then
     ((zgR 13 38 W1 a0).bind fun t3 =>
      (zld false W1 t3 ((8 * x1) + x2)).bind fun t4 =>
      some (.inl (some (.int t4)), W1))
    else
     if (x3 = 1 : Prop) then
      ((zgR 13 39 W1 a0).bind fun t5 =>
       (zld false W1 t5 ((8 * x1) + x2)).bind fun t6 =>
       some (.inl (some (.int t6)), W1))
     else
      if (x3 = 2 : Prop) then
       ((zgR 13 42 W1 a0).bind fun t7 =>
        (zld true W1 t7 ((8 * x1) + x2)).bind fun t8 =>
        if t8 = 0 then
         (some (.inl (some (.int 0)), W1))
        else
         (zgR 13 41 W1 a0).bind fun t9 =>
         (zld false W1 t9 ((8 * x1) + x2)).bind fun t10 =>
         some (.inl (some (.int t10)), W1))
      else
       (zgR 13 43 W1 a0).bind fun t11 =>
       (zld true W1 t11 ((8 * x1) + x2)).bind fun t12 =>
       if t12 = 0 then
        (some (.inl (some (.int 0)), W1))
       else
        some (.inl (some (.int 1)), W1))
  else
   some (.inl (some (.int 0)), W1))
  zxe :=
 (zx_st (zh_X12_ofSlot G) [30] 400 30 _ _ _).trans rfl
set_option maxRecDepth 100000 in
theorem q_X12_jointAnew_0 (G : Nat × Nat) (a0 : Nat) (x1 : Int32) (x2 : Int32) (W : zW) : ev_ G 200 0 [.ref a0, .int x1, .int x2] [] W =
 zthI (zck 13 W a0 (ev_ G 153 0 [.ref a0, .int x1] [] W))
  (fun t2 W1 =>
 if t2 = 0 then
   (ev_ G 200 21 [.ref a0, .int x1, .int x2] [.int 1, .ref a0] W1)
  else
   zthI (ev_ G 154 0 [.int x2] [] W1)
    (fun t4 W3 =>
   if t4 = 0 then
     (ev_ G 200 21 [.ref a0, .int x1, .int x2] [.int 1, .ref a0] W3)
    else
     ev_ G 200 21 [.ref a0, .int x1, .int x2] [.int 0, .ref a0] W3)
    zxe)
  zxe :=
 (zx_st (zh_X12_jointAnew G) [21] 400 0 _ _ _).trans rfl
set_option maxRecDepth 100000 in
theorem q_X12_jointAnew_21 (G : Nat × Nat) (a0 : Nat) (x1 : Int32) (x2 : Int32) (a_0 : Nat) (x_1 : Int32) (W : zW) : ev_ G 200 21 [.ref a0, .int x1, .int x2] [.int x_1, .ref a_0] W =
 zthI (zck 13 W a_0 (ev_ G 33 0 [.ref a_0, .int x_1] [] W))
  (fun t2 W1 =>
 if t2 = 0 then
   ((zgR 13 40 W1 a0).bind fun t3 =>
    (zld false W1 t3 ((8 * x1) + x2)).bind fun t4 =>
    some (.inl (some (.int t4)), W1))
  else
   some (.inl (some (.int 0)), W1))
  zxe :=
 (zx_st (zh_X12_jointAnew G) [21] 400 21 _ _ _).trans rfl
set_option maxRecDepth 100000 in
theorem q_X12_recall_0 (G : Nat × Nat) (a0 : Nat) (x1 : Int32) (W : zW) : ev_ G 204 0 [.ref a0, .int x1, zU, zU, zU, zU] [] W =
 zthI (zck 13 W a0 (ev_ G 135 0 [.ref a0, .int x1] [] W))
  (fun t2 W1 =>
 if t2 = 0 then
   (ev_ G 204 14 [.ref a0, .int x1, zU, zU, zU, zU] [.int 1, .ref a0] W1)
  else
   ev_ G 204 14 [.ref a0, .int x1, zU, zU, zU, zU] [.int 0, .ref a0] W1)
  zxe :=
 (zx_st (zh_X12_recall G) [14, 26, 43] 400 0 _ _ _).trans rfl
set_option maxRecDepth 100000 in
theorem q_X12_recall_14 (G : Nat × Nat) (a0 : Nat) (x1 : Int32) (a_0 : Nat) (x_1 : Int32) (W : zW) : ev_ G 204 14 [.ref a0, .int x1, zU, zU, zU, zU] [.int x_1, .ref a_0] W =
 zthI (zck 13 W a_0 (ev_ G 33 0 [.ref a_0, .int x_1] [] W))
  (fun t2 W1 =>
 if t2 = 0 then
   (ev_ G 204 26 [.ref a0, .int x1, .int 0, .int 0, zU, zU] [] W1)
  else
   some (.inl (some (.int 0)), W1))
  zxe :=
 (zx_st (zh_X12_recall G) [14, 26, 43] 400 14 _ _ _).trans rfl
set_option maxRecDepth 100000 in
theorem q_X12_recall_26 (G : Nat × Nat) (a0 : Nat) (x1 : Int32) (x2 : Int32) (x3 : Int32) (u4 : Value) (u5 : Value) (W : zW) : ev_ G 204 26 [.ref a0, .int x1, .int x2, .int x3, u4, u5] [] W =
 (zgI 13 34 W a0).bind fun t1 =>
 if (t1 ≤ x3 : Prop) then
  (some (.inl (some (.int x2)), W))
 else
  ev_ G 204 43 [.ref a0, .int x1, .int x2, .int x3, .int 0, .int (8 * x3)] [] W :=
 (zx_st (zh_X12_recall G) [14, 26, 43] 400 26 _ _ _).trans rfl
set_option maxRecDepth 100000 in
theorem q_X12_recall_43 (G : Nat × Nat) (a0 : Nat) (x1 : Int32) (x2 : Int32) (x3 : Int32) (x4 : Int32) (x5 : Int32) (W : zW) : ev_ G 204 43 [.ref a0, .int x1, .int x2, .int x3, .int x4, .int x5] [] W =
 if (((8 * x3) + 8) ≤ x5 : Prop) then
  (if x4 = 0 then
    (ev_ G 204 26 [.ref a0, .int x1, .int (x2 + 0), .int (x3 + 1), .int x4, .int x5] [] W)
   else
    (zgR 13 37 W a0).bind fun t1 =>
    (zld true W t1 x3).bind fun t2 =>
    if t2 = 0 then
     (ev_ G 204 26 [.ref a0, .int x1, .int (x2 + 0), .int (x3 + 1), .int x4, .int x5] [] W)
    else
     ev_ G 204 26 [.ref a0, .int x1, .int (x2 + 1), .int (x3 + 1), .int x4, .int x5] [] W)
 else
  if x4 = 0 then
   ((zgR 13 38 W a0).bind fun t3 =>
    (zld false W t3 x5).bind fun t4 =>
    if (t4 = x1 : Prop) then
     (ev_ G 204 43 [.ref a0, .int x1, .int x2, .int x3, .int 1, .int (x5 + 1)] [] W)
    else
     ev_ G 204 43 [.ref a0, .int x1, .int x2, .int x3, .int 0, .int (x5 + 1)] [] W)
  else
   ev_ G 204 43 [.ref a0, .int x1, .int x2, .int x3, .int 1, .int (x5 + 1)] [] W :=
 (zx_st (zh_X12_recall G) [14, 26, 43] 400 43 _ _ _).trans rfl
