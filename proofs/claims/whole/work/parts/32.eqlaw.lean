/-! the law: its stretches, by program -/
set_option maxRecDepth 100000 in
theorem q_L_bundle_0 (G : Nat × Nat) (a0 : Nat) (x1 : Int32) (x2 : Int32) (x3 : Int32) (x4 : Int32) (a5 : Nat) (W : zW) : ev_ G 30 0 [.ref a0, .int x1, .int x2, .int x3, .int x4, .ref a5, zU] [] W =
 zthI (zck 12 W a0 (ev_ G 29 0 [.ref a0, .int x1, .int x2, .int x3, .int x4] [] W))
  (fun t2 W1 =>
 (zstl W1 a5 0 ((t2 : Int32).toInt64)).bind fun W3 =>
  some (.inl (some (.int 0)), W3))
  (fun E W9 => if E = 0 then some (.inl (some (.int 1)), W9) else if E = 1 then some (.inl (some (.int 2)), W9) else if E = 2 then some (.inl (some (.int 3)), W9) else none) :=
 (zx_st (zh_L_bundle G) [] 400 0 _ _ _).trans rfl
set_option maxRecDepth 100000 in
theorem q_L_connector_0 (G : Nat × Nat) (a0 : Nat) (x1 : Int32) (x2 : Int32) (x3 : Int32) (a4 : Nat) (W : zW) : ev_ G 39 0 [.ref a0, .int x1, .int x2, .int x3, .ref a4, zU] [] W =
 zthI (zck 12 W a0 (ev_ G 38 0 [.ref a0, .int x1, .int x2, .int x3] [] W))
  (fun t2 W1 =>
 (zstl W1 a4 0 ((t2 : Int32).toInt64)).bind fun W3 =>
  some (.inl (some (.int 0)), W3))
  (fun E W9 => if E = 0 then some (.inl (some (.int 1)), W9) else if E = 1 then some (.inl (some (.int 2)), W9) else if E = 2 then some (.inl (some (.int 3)), W9) else none) :=
 (zx_st (zh_L_connector G) [] 400 0 _ _ _).trans rfl
set_option maxRecDepth 100000 in
theorem q_L_mates_0 (G : Nat × Nat) (a0 : Nat) (x1 : Int32) (x2 : Int32) (a3 : Nat) (W : zW) : ev_ G 49 0 [.ref a0, .int x1, .int x2, .ref a3, zU] [] W =
 zthI (zck 12 W a0 (ev_ G 48 0 [.ref a0, .int x1, .int x2, zU, zU] [] W))
  (fun t2 W1 =>
 (zstl W1 a3 0 ((t2 : Int32).toInt64)).bind fun W3 =>
  some (.inl (some (.int 0)), W3))
  (fun E W9 => if E = 0 then some (.inl (some (.int 1)), W9) else if E = 1 then some (.inl (some (.int 2)), W9) else if E = 2 then some (.inl (some (.int 3)), W9) else none) :=
 (zx_st (zh_L_mates G) [] 400 0 _ _ _).trans rfl
set_option maxRecDepth 100000 in
theorem q_L_wire_0 (G : Nat × Nat) (a0 : Nat) (x1 : Int32) (x2 : Int32) (x3 : Int32) (x4 : Int32) (x5 : Int32) (a6 : Nat) (W : zW) : ev_ G 68 0 [.ref a0, .int x1, .int x2, .int x3, .int x4, .int x5, .ref a6, zU] [] W =
 zthI (zck 12 W a0 (ev_ G 67 0 [.ref a0, .int x1, .int x2, .int x3, .int x4, .int x5, zU, zU] [] W))
  (fun t2 W1 =>
 (zstl W1 a6 0 ((t2 : Int32).toInt64)).bind fun W3 =>
  some (.inl (some (.int 0)), W3))
  (fun E W9 => if E = 0 then some (.inl (some (.int 1)), W9) else if E = 1 then some (.inl (some (.int 2)), W9) else if E = 2 then some (.inl (some (.int 3)), W9) else none) :=
 (zx_st (zh_L_wire G) [] 400 0 _ _ _).trans rfl
set_option maxRecDepth 100000 in
theorem q_L_pull_0 (G : Nat × Nat) (a0 : Nat) (x1 : Int32) (a2 : Nat) (W : zW) : ev_ G 80 0 [.ref a0, .int x1, .ref a2, zU] [] W =
 zthI (zck 12 W a0 (ev_ G 79 0 [.ref a0, .int x1, zU] [] W))
  (fun t2 W1 =>
 (zstl W1 a2 0 ((t2 : Int32).toInt64)).bind fun W3 =>
  some (.inl (some (.int 0)), W3))
  (fun E W9 => if E = 0 then some (.inl (some (.int 1)), W9) else if E = 2 then some (.inl (some (.int 2)), W9) else none) :=
 (zx_st (zh_L_pull G) [] 400 0 _ _ _).trans rfl
set_option maxRecDepth 100000 in
theorem q_L_ofWire_0 (G : Nat × Nat) (a0 : Nat) (x1 : Int32) (x2 : Int32) (a3 : Nat) (W : zW) : ev_ G 86 0 [.ref a0, .int x1, .int x2, .ref a3, zU] [] W =
 zthI (zck 12 W a0 (ev_ G 85 0 [.ref a0, .int x1, .int x2, zU] [] W))
  (fun t2 W1 =>
 (zstl W1 a3 0 ((t2 : Int32).toInt64)).bind fun W3 =>
  some (.inl (some (.int 0)), W3))
  (fun E W9 => if E = 0 then some (.inl (some (.int 1)), W9) else none) :=
 (zx_st (zh_L_ofWire G) [] 400 0 _ _ _).trans rfl
set_option maxRecDepth 100000 in
theorem q_L_weight_0 (G : Nat × Nat) (a0 : Nat) (x1 : Int32) (a2 : Nat) (W : zW) : ev_ G 90 0 [.ref a0, .int x1, .ref a2, zU] [] W =
 zthI (zck 12 W a0 (ev_ G 89 0 [.ref a0, .int x1] [] W))
  (fun t2 W1 =>
 (zstl W1 a2 0 ((t2 : Int32).toInt64)).bind fun W3 =>
  some (.inl (some (.int 0)), W3))
  (fun E W9 => if E = 1 then some (.inl (some (.int 1)), W9) else none) :=
 (zx_st (zh_L_weight G) [] 400 0 _ _ _).trans rfl
set_option maxRecDepth 100000 in
theorem q_L_order_0 (G : Nat × Nat) (a0 : Nat) (x1 : Int32) (x2 : Int32) (a3 : Nat) (W : zW) : ev_ G 96 0 [.ref a0, .int x1, .int x2, .ref a3, zU] [] W =
 zthI (zck 12 W a0 (ev_ G 95 0 [.ref a0, .int x1, .int x2] [] W))
  (fun t2 W1 =>
 (zstl W1 a3 0 ((t2 : Int32).toInt64)).bind fun W3 =>
  some (.inl (some (.int 0)), W3))
  (fun E W9 => if E = 1 then some (.inl (some (.int 1)), W9) else if E = 2 then some (.inl (some (.int 2)), W9) else none) :=
 (zx_st (zh_L_order G) [] 400 0 _ _ _).trans rfl
set_option maxRecDepth 100000 in
theorem q_L_least_0 (G : Nat × Nat) (a0 : Nat) (x1 : Int32) (a2 : Nat) (W : zW) : ev_ G 104 0 [.ref a0, .int x1, .ref a2, zU] [] W =
 zthI (zck 12 W a0 (ev_ G 103 0 [.ref a0, .int x1] [] W))
  (fun t2 W1 =>
 (zstl W1 a2 0 ((t2 : Int32).toInt64)).bind fun W3 =>
  some (.inl (some (.int 0)), W3))
  (fun E W9 => if E = 1 then some (.inl (some (.int 1)), W9) else none) :=
 (zx_st (zh_L_least G) [] 400 0 _ _ _).trans rfl
set_option maxRecDepth 100000 in
theorem q_L_leastAnew_0 (G : Nat × Nat) (a0 : Nat) (x1 : Int32) (a2 : Nat) (W : zW) : ev_ G 112 0 [.ref a0, .int x1, .ref a2, zU] [] W =
 zthI (zck 12 W a0 (ev_ G 111 0 [.ref a0, .int x1] [] W))
  (fun t2 W1 =>
 (zstl W1 a2 0 ((t2 : Int32).toInt64)).bind fun W3 =>
  some (.inl (some (.int 0)), W3))
  (fun E W9 => if E = 1 then some (.inl (some (.int 1)), W9) else none) :=
 (zx_st (zh_L_leastAnew G) [] 400 0 _ _ _).trans rfl
set_option maxRecDepth 100000 in
theorem q_L_crimp_0 (G : Nat × Nat) (a0 : Nat) (x1 : Int32) (a2 : Nat) (W : zW) : ev_ G 120 0 [.ref a0, .int x1, .ref a2, zU] [] W =
 zthI (zck 12 W a0 (ev_ G 119 0 [.ref a0, .int x1] [] W))
  (fun t2 W1 =>
 if t2 = 0 then
   ((zstl W1 a2 0 0).bind fun W3 =>
    some (.inl (some (.int 0)), W3))
  else
   (zstl W1 a2 0 1).bind fun W4 =>
   some (.inl (some (.int 0)), W4))
  (fun E W9 => if E = 1 then some (.inl (some (.int 1)), W9) else none) :=
 (zx_st (zh_L_crimp G) [] 400 0 _ _ _).trans rfl
set_option maxRecDepth 100000 in
theorem q_L_crimps_0 (G : Nat × Nat) (a0 : Nat) (x1 : Int32) (a2 : Nat) (W : zW) : ev_ G 124 0 [.ref a0, .int x1, .ref a2, zU] [] W =
 zthI (zck 12 W a0 (ev_ G 123 0 [.ref a0, .int x1] [] W))
  (fun t2 W1 =>
 (zstl W1 a2 0 ((t2 : Int32).toInt64)).bind fun W3 =>
  some (.inl (some (.int 0)), W3))
  (fun E W9 => if E = 1 then some (.inl (some (.int 1)), W9) else none) :=
 (zx_st (zh_L_crimps G) [] 400 0 _ _ _).trans rfl
set_option maxRecDepth 100000 in
theorem q_L_reel_0 (G : Nat × Nat) (a0 : Nat) (x1 : Int32) (x2 : Int32) (x3 : Int32) (a4 : Nat) (W : zW) : ev_ G 128 0 [.ref a0, .int x1, .int x2, .int x3, .ref a4, zU] [] W =
 zthI (zck 12 W a0 (ev_ G 127 0 [.ref a0, .int x1, .int x2, .int x3] [] W))
  (fun t2 W1 =>
 (zstl W1 a4 0 ((t2 : Int32).toInt64)).bind fun W3 =>
  some (.inl (some (.int 0)), W3))
  (fun E W9 => if E = 0 then some (.inl (some (.int 1)), W9) else if E = 1 then some (.inl (some (.int 2)), W9) else if E = 2 then some (.inl (some (.int 3)), W9) else none) :=
 (zx_st (zh_L_reel G) [] 400 0 _ _ _).trans rfl
set_option maxRecDepth 100000 in
theorem q_L_open_0 (G : Nat × Nat) (a0 : Nat) (x1 : Int32) (x2 : Int32) (a3 : Nat) (W : zW) : ev_ G 134 0 [.ref a0, .int x1, .int x2, .ref a3, zU] [] W =
 zthI (zck 12 W a0 (ev_ G 133 0 [.ref a0, .int x1, .int x2, zU] [] W))
  (fun t2 W1 =>
 (zstl W1 a3 0 ((t2 : Int32).toInt64)).bind fun W3 =>
  some (.inl (some (.int 0)), W3))
  (fun E W9 => if E = 0 then some (.inl (some (.int 1)), W9) else if E = 2 then some (.inl (some (.int 2)), W9) else none) :=
 (zx_st (zh_L_open G) [] 400 0 _ _ _).trans rfl
set_option maxRecDepth 100000 in
theorem q_L_ofReel_0 (G : Nat × Nat) (a0 : Nat) (x1 : Int32) (x2 : Int32) (a3 : Nat) (W : zW) : ev_ G 139 0 [.ref a0, .int x1, .int x2, .ref a3, zU] [] W =
 zthI (zck 12 W a0 (ev_ G 138 0 [.ref a0, .int x1, .int x2, zU] [] W))
  (fun t2 W1 =>
 (zstl W1 a3 0 ((t2 : Int32).toInt64)).bind fun W3 =>
  some (.inl (some (.int 0)), W3))
  (fun E W9 => if E = 0 then some (.inl (some (.int 1)), W9) else none) :=
 (zx_st (zh_L_ofReel G) [] 400 0 _ _ _).trans rfl
set_option maxRecDepth 100000 in
theorem q_L_board_0 (G : Nat × Nat) (a0 : Nat) (a1 : Nat) (W : zW) : ev_ G 144 0 [.ref a0, .ref a1, zU] [] W =
 zthI (zck 12 W a0 (ev_ G 143 0 [.ref a0] [] W))
  (fun t2 W1 =>
 (zstl W1 a1 0 ((t2 : Int32).toInt64)).bind fun W3 =>
  some (.inl (some (.int 0)), W3))
  (fun E W9 => if E = 2 then some (.inl (some (.int 1)), W9) else none) :=
 (zx_st (zh_L_board G) [] 400 0 _ _ _).trans rfl
set_option maxRecDepth 100000 in
theorem q_L_place_0 (G : Nat × Nat) (a0 : Nat) (x1 : Int32) (x2 : Int32) (x3 : Int32) (a4 : Nat) (W : zW) : ev_ G 152 0 [.ref a0, .int x1, .int x2, .int x3, .ref a4, zU] [] W =
 zthI (zck 12 W a0 (ev_ G 151 0 [.ref a0, .int x1, .int x2, .int x3, zU, zU, zU] [] W))
  (fun t2 W1 =>
 (zstl W1 a4 0 ((t2 : Int32).toInt64)).bind fun W3 =>
  some (.inl (some (.int 0)), W3))
  (fun E W9 => if E = 0 then some (.inl (some (.int 1)), W9) else if E = 2 then some (.inl (some (.int 2)), W9) else none) :=
 (zx_st (zh_L_place G) [] 400 0 _ _ _).trans rfl
set_option maxRecDepth 100000 in
theorem q_L_limits_0 (G : Nat × Nat) (a0 : Nat) (x1 : Int32) (x2 : Int32) (x3 : Int32) (x4 : Int32) (W : zW) : ev_ G 158 0 [.ref a0, .int x1, .int x2, .int x3, .int x4, zU] [] W =
 zthV (zck 12 W a0 (ev_ G 157 0 [.ref a0, .int x1, .int x2, .int x3, .int x4] [] W))
  (fun W1 =>
 some (.inl (some (.int 0)), W1))
  (fun E W9 => if E = 0 then some (.inl (some (.int 1)), W9) else if E = 1 then some (.inl (some (.int 2)), W9) else none) :=
 (zx_st (zh_L_limits G) [] 400 0 _ _ _).trans rfl
set_option maxRecDepth 100000 in
theorem q_L_solder_0 (G : Nat × Nat) (a0 : Nat) (x1 : Int32) (a2 : Nat) (W : zW) : ev_ G 168 0 [.ref a0, .int x1, .ref a2, zU] [] W =
 zthI (zck 12 W a0 (ev_ G 167 0 [.ref a0, .int x1, zU] [] W))
  (fun t2 W1 =>
 (zstl W1 a2 0 ((t2 : Int32).toInt64)).bind fun W3 =>
  some (.inl (some (.int 0)), W3))
  (fun E W9 => if E = 0 then some (.inl (some (.int 1)), W9) else if E = 2 then some (.inl (some (.int 2)), W9) else none) :=
 (zx_st (zh_L_solder G) [] 400 0 _ _ _).trans rfl
set_option maxRecDepth 100000 in
theorem q_L_flaw_0 (G : Nat × Nat) (a0 : Nat) (x1 : Int32) (x2 : Int32) (W : zW) : ev_ G 173 0 [.ref a0, .int x1, .int x2, zU] [] W =
 zthV (zck 12 W a0 (ev_ G 172 0 [.ref a0, .int x1, .int x2, zU, zU] [] W))
  (fun W1 =>
 some (.inl (some (.int 0)), W1))
  (fun E W9 => if E = 0 then some (.inl (some (.int 1)), W9) else if E = 2 then some (.inl (some (.int 2)), W9) else none) :=
 (zx_st (zh_L_flaw G) [] 400 0 _ _ _).trans rfl
set_option maxRecDepth 100000 in
theorem q_L_cover_0 (G : Nat × Nat) (a0 : Nat) (x1 : Int32) (x2 : Int32) (a3 : Nat) (W : zW) : ev_ G 177 0 [.ref a0, .int x1, .int x2, .ref a3, zU] [] W =
 zthI (zck 12 W a0 (ev_ G 176 0 [.ref a0, .int x1, .int x2] [] W))
  (fun t2 W1 =>
 (zstl W1 a3 0 ((t2 : Int32).toInt64)).bind fun W3 =>
  some (.inl (some (.int 0)), W3))
  (fun E W9 => if E = 0 then some (.inl (some (.int 1)), W9) else none) :=
 (zx_st (zh_L_cover G) [] 400 0 _ _ _).trans rfl
set_option maxRecDepth 100000 in
theorem q_L_test_0 (G : Nat × Nat) (a0 : Nat) (x1 : Int32) (a2 : Nat) (W : zW) : ev_ G 182 0 [.ref a0, .int x1, .ref a2, zU] [] W =
 zthI (zck 12 W a0 (ev_ G 181 0 [.ref a0, .int x1, zU] [] W))
  (fun t2 W1 =>
 (zstl W1 a2 0 ((t2 : Int32).toInt64)).bind fun W3 =>
  some (.inl (some (.int 0)), W3))
  (fun E W9 => if E = 0 then some (.inl (some (.int 1)), W9) else if E = 2 then some (.inl (some (.int 2)), W9) else none) :=
 (zx_st (zh_L_test G) [] 400 0 _ _ _).trans rfl
set_option maxRecDepth 100000 in
theorem q_L_repair_0 (G : Nat × Nat) (a0 : Nat) (x1 : Int32) (x2 : Int32) (x3 : Int32) (a4 : Nat) (W : zW) : ev_ G 187 0 [.ref a0, .int x1, .int x2, .int x3, .ref a4, zU] [] W =
 zthI (zck 12 W a0 (ev_ G 186 0 [.ref a0, .int x1, .int x2, .int x3, zU, zU, zU] [] W))
  (fun t2 W1 =>
 (zstl W1 a4 0 ((t2 : Int32).toInt64)).bind fun W3 =>
  some (.inl (some (.int 0)), W3))
  (fun E W9 => if E = 0 then some (.inl (some (.int 1)), W9) else if E = 2 then some (.inl (some (.int 2)), W9) else none) :=
 (zx_st (zh_L_repair G) [] 400 0 _ _ _).trans rfl
set_option maxRecDepth 100000 in
theorem q_L_ship_0 (G : Nat × Nat) (a0 : Nat) (x1 : Int32) (a2 : Nat) (W : zW) : ev_ G 190 0 [.ref a0, .int x1, .ref a2, zU] [] W =
 zthI (zck 12 W a0 (ev_ G 189 0 [.ref a0, .int x1, zU] [] W))
  (fun t2 W1 =>
 (zstl W1 a2 0 ((t2 : Int32).toInt64)).bind fun W3 =>
  some (.inl (some (.int 0)), W3))
  (fun E W9 => if E = 0 then some (.inl (some (.int 1)), W9) else if E = 2 then some (.inl (some (.int 2)), W9) else none) :=
 (zx_st (zh_L_ship G) [] 400 0 _ _ _).trans rfl
set_option maxRecDepth 100000 in
theorem q_L_pass_0 (G : Nat × Nat) (a0 : Nat) (x1 : Int32) (a2 : Nat) (W : zW) : ev_ G 193 0 [.ref a0, .int x1, .ref a2, zU] [] W =
 zthI (zck 12 W a0 (ev_ G 192 0 [.ref a0, .int x1] [] W))
  (fun t2 W1 =>
 (zstl W1 a2 0 ((t2 : Int32).toInt64)).bind fun W3 =>
  some (.inl (some (.int 0)), W3))
  (fun E W9 => if E = 1 then some (.inl (some (.int 1)), W9) else if E = 2 then some (.inl (some (.int 2)), W9) else none) :=
 (zx_st (zh_L_pass G) [] 400 0 _ _ _).trans rfl
set_option maxRecDepth 100000 in
theorem q_L_ofSlot_0 (G : Nat × Nat) (a0 : Nat) (x1 : Int32) (x2 : Int32) (x3 : Int32) (a4 : Nat) (W : zW) : ev_ G 196 0 [.ref a0, .int x1, .int x2, .int x3, .ref a4, zU] [] W =
 zthI (zck 12 W a0 (ev_ G 195 0 [.ref a0, .int x1, .int x2, .int x3, zU] [] W))
  (fun t2 W1 =>
 (zstl W1 a4 0 ((t2 : Int32).toInt64)).bind fun W3 =>
  some (.inl (some (.int 0)), W3))
  (fun E W9 => if E = 0 then some (.inl (some (.int 1)), W9) else none) :=
 (zx_st (zh_L_ofSlot G) [] 400 0 _ _ _).trans rfl
set_option maxRecDepth 100000 in
theorem q_L_jointAnew_0 (G : Nat × Nat) (a0 : Nat) (x1 : Int32) (x2 : Int32) (a3 : Nat) (W : zW) : ev_ G 199 0 [.ref a0, .int x1, .int x2, .ref a3, zU] [] W =
 zthI (zck 12 W a0 (ev_ G 198 0 [.ref a0, .int x1, .int x2, zU, zU] [] W))
  (fun t2 W1 =>
 (zstl W1 a3 0 ((t2 : Int32).toInt64)).bind fun W3 =>
  some (.inl (some (.int 0)), W3))
  (fun E W9 => if E = 0 then some (.inl (some (.int 1)), W9) else none) :=
 (zx_st (zh_L_jointAnew G) [] 400 0 _ _ _).trans rfl
set_option maxRecDepth 100000 in
theorem q_L_recall_0 (G : Nat × Nat) (a0 : Nat) (x1 : Int32) (a2 : Nat) (W : zW) : ev_ G 203 0 [.ref a0, .int x1, .ref a2, zU] [] W =
 zthI (zck 12 W a0 (ev_ G 202 0 [.ref a0, .int x1, zU, zU, zU] [] W))
  (fun t2 W1 =>
 (zstl W1 a2 0 ((t2 : Int32).toInt64)).bind fun W3 =>
  some (.inl (some (.int 0)), W3))
  (fun E W9 => if E = 0 then some (.inl (some (.int 1)), W9) else none) :=
 (zx_st (zh_L_recall G) [] 400 0 _ _ _).trans rfl
set_option maxRecDepth 100000 in
theorem q_L_law_0 (G : Nat × Nat) (a0 : Nat) (W : zW) : ev_ G 205 0 [.ref a0, zU, zU, zU, zU, zU, zU] [] W =
 zthV (ev_ G 10 0 [.ref W.1] [] (znew 12 8 [.null, .null, .null, .null, .null, .null, .int 0, .int 0] W))
  (fun W1 =>
 zthV (ev_ G 11 0 [.ref W1.1, zU] [] (znew 13 45 [.int 0, .null, .null, .null, .null, .int 0, .null, .null, .null, .null, .int 0, .null, .null, .null, .null, .null, .null, .int 0, .null, .null, .null, .int 0, .int 0, .null, .int 0, .int 0, .null, .null, .null, .null, .null, .null, .null, .null, .int 0, .null, .null, .null, .null, .null, .null, .null, .null, .null, .int 0] W1))
   (fun W3 =>
  if zbad 1 then none else
   ev_ G 205 23 [.ref a0, .ref W.1, .ref W1.1, .ref W3.1, .int 0, zU, zU] [] (znal 1 W3))
   (fun _ _ => none))
  (fun _ _ => none) :=
 (zx_st (zh_L_law G) [23, 168, 260, 340, 408, 512, 568, 636, 692, 760, 816, 872, 935, 991, 1071, 1092, 1119, 1155, 1223, 1267, 1347, 1362, 1400, 1435, 1491, 1539, 1560, 1587, 1623, 1679, 1759, 1815, 1871, 1951, 2019, 2075] 400 0 _ _ _).trans rfl
set_option maxRecDepth 100000 in
theorem q_L_law_23 (G : Nat × Nat) (a0 : Nat) (a1 : Nat) (a2 : Nat) (a3 : Nat) (x4 : Int32) (u5 : Value) (u6 : Value) (W : zW) : ev_ G 205 23 [.ref a0, .ref a1, .ref a2, .ref a3, .int x4, u5, u6] [] W =
 (zlen W a0).bind fun t1 =>
 if ((t1 - 6) < x4 : Prop) then
  (if (1 : Int32) &&& 1 = 1 then some (.inl (some (.int 1)), W) else none)
 else
  (zld false W a0 x4).bind fun t2 =>
  ev_ G 205 (zsw 0 [168, 260, 340, 408, 512, 568, 636, 692, 760, 816, 872, 935, 991, 1071, 1155, 1223, 1267, 1347, 1435, 1491, 1539, 1623, 1679, 1759, 1815, 1871, 1951, 2019] 2075 (t2 &&& 31)) [.ref a0, .ref a1, .ref a2, .ref a3, .int x4, u5, u6] [] W :=
 (zx_st (zh_L_law G) [23, 168, 260, 340, 408, 512, 568, 636, 692, 760, 816, 872, 935, 991, 1071, 1092, 1119, 1155, 1223, 1267, 1347, 1362, 1400, 1435, 1491, 1539, 1560, 1587, 1623, 1679, 1759, 1815, 1871, 1951, 2019, 2075] 11 23 _ _ _).trans rfl
set_option maxRecDepth 100000 in
theorem q_L_law_168 (G : Nat × Nat) (a0 : Nat) (a1 : Nat) (a2 : Nat) (a3 : Nat) (x4 : Int32) (u5 : Value) (u6 : Value) (W : zW) : ev_ G 205 168 [.ref a0, .ref a1, .ref a2, .ref a3, .int x4, u5, u6] [] W =
 (zld false W a0 (x4 + 1)).bind fun t1 =>
 (zld false W a0 (x4 + 2)).bind fun t2 =>
 (zld false W a0 (x4 + 3)).bind fun t3 =>
 (zld false W a0 (x4 + 4)).bind fun t4 =>
 zthI (ev_ G 30 0 [.ref a1, .int t1, .int t2, .int t3, .int t4, .ref a3, zU] [] W)
  (fun t6 W5 =>
 (zld false W5 a0 (x4 + 1)).bind fun t7 =>
  (zld false W5 a0 (x4 + 2)).bind fun t8 =>
  (zld false W5 a0 (x4 + 3)).bind fun t9 =>
  (zld false W5 a0 (x4 + 4)).bind fun t10 =>
  zthI (zck 13 W5 a2 (ev_ G 34 0 [.ref a2, .int t7, .int t8, .int t9, .int t10, zU, zU] [] W5))
   (fun t12 W11 =>
  zthI (zck 13 W11 a2 (ev_ G 35 0 [.ref a2] [] W11))
    (fun t14 W13 =>
   if (t14 = t6 : Prop) then
     (if t6 = 0 then
       ((zldl W13 a3 0).bind fun t15 =>
        if (lg_cmp t15 ((t12 : Int32).toInt64)) = 0 then
         (ev_ G 205 2075 [.ref a0, .ref a1, .ref a2, .ref a3, .int x4, .int t6, .int t12] [] W13)
        else
         if (0 : Int32) &&& 1 = 0 then some (.inl (some (.int 0)), W13) else none)
      else
       ev_ G 205 2075 [.ref a0, .ref a1, .ref a2, .ref a3, .int x4, .int t6, .int t12] [] W13)
    else
     if (0 : Int32) &&& 1 = 0 then some (.inl (some (.int 0)), W13) else none)
    (fun _ _ => none))
   (fun _ _ => none))
  (fun _ _ => none) :=
 (zx_st (zh_L_law G) [23, 168, 260, 340, 408, 512, 568, 636, 692, 760, 816, 872, 935, 991, 1071, 1092, 1119, 1155, 1223, 1267, 1347, 1362, 1400, 1435, 1491, 1539, 1560, 1587, 1623, 1679, 1759, 1815, 1871, 1951, 2019, 2075] 400 168 _ _ _).trans rfl
set_option maxRecDepth 100000 in
theorem q_L_law_260 (G : Nat × Nat) (a0 : Nat) (a1 : Nat) (a2 : Nat) (a3 : Nat) (x4 : Int32) (u5 : Value) (u6 : Value) (W : zW) : ev_ G 205 260 [.ref a0, .ref a1, .ref a2, .ref a3, .int x4, u5, u6] [] W =
 (zld false W a0 (x4 + 1)).bind fun t1 =>
 (zld false W a0 (x4 + 2)).bind fun t2 =>
 (zld false W a0 (x4 + 3)).bind fun t3 =>
 zthI (ev_ G 39 0 [.ref a1, .int t1, .int t2, .int t3, .ref a3, zU] [] W)
  (fun t5 W4 =>
 (zld false W4 a0 (x4 + 1)).bind fun t6 =>
  (zld false W4 a0 (x4 + 2)).bind fun t7 =>
  (zld false W4 a0 (x4 + 3)).bind fun t8 =>
  zthI (zck 13 W4 a2 (ev_ G 40 0 [.ref a2, .int t6, .int t7, .int t8, zU] [] W4))
   (fun t10 W9 =>
  zthI (zck 13 W9 a2 (ev_ G 35 0 [.ref a2] [] W9))
    (fun t12 W11 =>
   if (t12 = t5 : Prop) then
     (if t5 = 0 then
       ((zldl W11 a3 0).bind fun t13 =>
        if (lg_cmp t13 ((t10 : Int32).toInt64)) = 0 then
         (ev_ G 205 2075 [.ref a0, .ref a1, .ref a2, .ref a3, .int x4, .int t5, .int t10] [] W11)
        else
         if (0 : Int32) &&& 1 = 0 then some (.inl (some (.int 0)), W11) else none)
      else
       ev_ G 205 2075 [.ref a0, .ref a1, .ref a2, .ref a3, .int x4, .int t5, .int t10] [] W11)
    else
     if (0 : Int32) &&& 1 = 0 then some (.inl (some (.int 0)), W11) else none)
    (fun _ _ => none))
   (fun _ _ => none))
  (fun _ _ => none) :=
 (zx_st (zh_L_law G) [23, 168, 260, 340, 408, 512, 568, 636, 692, 760, 816, 872, 935, 991, 1071, 1092, 1119, 1155, 1223, 1267, 1347, 1362, 1400, 1435, 1491, 1539, 1560, 1587, 1623, 1679, 1759, 1815, 1871, 1951, 2019, 2075] 400 260 _ _ _).trans rfl
set_option maxRecDepth 100000 in
theorem q_L_law_340 (G : Nat × Nat) (a0 : Nat) (a1 : Nat) (a2 : Nat) (a3 : Nat) (x4 : Int32) (u5 : Value) (u6 : Value) (W : zW) : ev_ G 205 340 [.ref a0, .ref a1, .ref a2, .ref a3, .int x4, u5, u6] [] W =
 (zld false W a0 (x4 + 1)).bind fun t1 =>
 (zld false W a0 (x4 + 2)).bind fun t2 =>
 zthI (ev_ G 49 0 [.ref a1, .int t1, .int t2, .ref a3, zU] [] W)
  (fun t4 W3 =>
 (zld false W3 a0 (x4 + 1)).bind fun t5 =>
  (zld false W3 a0 (x4 + 2)).bind fun t6 =>
  zthI (zck 13 W3 a2 (ev_ G 52 0 [.ref a2, .int t5, .int t6, zU, zU, zU, zU] [] W3))
   (fun t8 W7 =>
  zthI (zck 13 W7 a2 (ev_ G 35 0 [.ref a2] [] W7))
    (fun t10 W9 =>
   if (t10 = t4 : Prop) then
     (if t4 = 0 then
       ((zldl W9 a3 0).bind fun t11 =>
        if (lg_cmp t11 ((t8 : Int32).toInt64)) = 0 then
         (ev_ G 205 2075 [.ref a0, .ref a1, .ref a2, .ref a3, .int x4, .int t4, .int t8] [] W9)
        else
         if (0 : Int32) &&& 1 = 0 then some (.inl (some (.int 0)), W9) else none)
      else
       ev_ G 205 2075 [.ref a0, .ref a1, .ref a2, .ref a3, .int x4, .int t4, .int t8] [] W9)
    else
     if (0 : Int32) &&& 1 = 0 then some (.inl (some (.int 0)), W9) else none)
    (fun _ _ => none))
   (fun _ _ => none))
  (fun _ _ => none) :=
 (zx_st (zh_L_law G) [23, 168, 260, 340, 408, 512, 568, 636, 692, 760, 816, 872, 935, 991, 1071, 1092, 1119, 1155, 1223, 1267, 1347, 1362, 1400, 1435, 1491, 1539, 1560, 1587, 1623, 1679, 1759, 1815, 1871, 1951, 2019, 2075] 400 340 _ _ _).trans rfl
set_option maxRecDepth 100000 in
theorem q_L_law_408 (G : Nat × Nat) (a0 : Nat) (a1 : Nat) (a2 : Nat) (a3 : Nat) (x4 : Int32) (u5 : Value) (u6 : Value) (W : zW) : ev_ G 205 408 [.ref a0, .ref a1, .ref a2, .ref a3, .int x4, u5, u6] [] W =
 (zld false W a0 (x4 + 1)).bind fun t1 =>
 (zld false W a0 (x4 + 2)).bind fun t2 =>
 (zld false W a0 (x4 + 3)).bind fun t3 =>
 (zld false W a0 (x4 + 4)).bind fun t4 =>
 (zld false W a0 (x4 + 5)).bind fun t5 =>
 zthI (ev_ G 68 0 [.ref a1, .int t1, .int t2, .int t3, .int t4, .int t5, .ref a3, zU] [] W)
  (fun t7 W6 =>
 (zld false W6 a0 (x4 + 1)).bind fun t8 =>
  (zld false W6 a0 (x4 + 2)).bind fun t9 =>
  (zld false W6 a0 (x4 + 3)).bind fun t10 =>
  (zld false W6 a0 (x4 + 4)).bind fun t11 =>
  (zld false W6 a0 (x4 + 5)).bind fun t12 =>
  zthI (zck 13 W6 a2 (ev_ G 75 0 [.ref a2, .int t8, .int t9, .int t10, .int t11, .int t12, zU, zU, zU, zU] [] W6))
   (fun t14 W13 =>
  zthI (zck 13 W13 a2 (ev_ G 35 0 [.ref a2] [] W13))
    (fun t16 W15 =>
   if (t16 = t7 : Prop) then
     (if t7 = 0 then
       ((zldl W15 a3 0).bind fun t17 =>
        if (lg_cmp t17 ((t14 : Int32).toInt64)) = 0 then
         (ev_ G 205 2075 [.ref a0, .ref a1, .ref a2, .ref a3, .int x4, .int t7, .int t14] [] W15)
        else
         if (0 : Int32) &&& 1 = 0 then some (.inl (some (.int 0)), W15) else none)
      else
       ev_ G 205 2075 [.ref a0, .ref a1, .ref a2, .ref a3, .int x4, .int t7, .int t14] [] W15)
    else
     if (0 : Int32) &&& 1 = 0 then some (.inl (some (.int 0)), W15) else none)
    (fun _ _ => none))
   (fun _ _ => none))
  (fun _ _ => none) :=
 (zx_st (zh_L_law G) [23, 168, 260, 340, 408, 512, 568, 636, 692, 760, 816, 872, 935, 991, 1071, 1092, 1119, 1155, 1223, 1267, 1347, 1362, 1400, 1435, 1491, 1539, 1560, 1587, 1623, 1679, 1759, 1815, 1871, 1951, 2019, 2075] 400 408 _ _ _).trans rfl
set_option maxRecDepth 100000 in
theorem q_L_law_512 (G : Nat × Nat) (a0 : Nat) (a1 : Nat) (a2 : Nat) (a3 : Nat) (x4 : Int32) (u5 : Value) (u6 : Value) (W : zW) : ev_ G 205 512 [.ref a0, .ref a1, .ref a2, .ref a3, .int x4, u5, u6] [] W =
 (zld false W a0 (x4 + 1)).bind fun t1 =>
 zthI (ev_ G 80 0 [.ref a1, .int t1, .ref a3, zU] [] W)
  (fun t3 W2 =>
 (zld false W2 a0 (x4 + 1)).bind fun t4 =>
  zthI (zck 13 W2 a2 (ev_ G 83 0 [.ref a2, .int t4, zU, zU] [] W2))
   (fun t6 W5 =>
  zthI (zck 13 W5 a2 (ev_ G 35 0 [.ref a2] [] W5))
    (fun t8 W7 =>
   if (t8 = t3 : Prop) then
     (if t3 = 0 then
       ((zldl W7 a3 0).bind fun t9 =>
        if (lg_cmp t9 ((t6 : Int32).toInt64)) = 0 then
         (ev_ G 205 2075 [.ref a0, .ref a1, .ref a2, .ref a3, .int x4, .int t3, .int t6] [] W7)
        else
         if (0 : Int32) &&& 1 = 0 then some (.inl (some (.int 0)), W7) else none)
      else
       ev_ G 205 2075 [.ref a0, .ref a1, .ref a2, .ref a3, .int x4, .int t3, .int t6] [] W7)
    else
     if (0 : Int32) &&& 1 = 0 then some (.inl (some (.int 0)), W7) else none)
    (fun _ _ => none))
   (fun _ _ => none))
  (fun _ _ => none) :=
 (zx_st (zh_L_law G) [23, 168, 260, 340, 408, 512, 568, 636, 692, 760, 816, 872, 935, 991, 1071, 1092, 1119, 1155, 1223, 1267, 1347, 1362, 1400, 1435, 1491, 1539, 1560, 1587, 1623, 1679, 1759, 1815, 1871, 1951, 2019, 2075] 400 512 _ _ _).trans rfl
set_option maxRecDepth 100000 in
theorem q_L_law_568 (G : Nat × Nat) (a0 : Nat) (a1 : Nat) (a2 : Nat) (a3 : Nat) (x4 : Int32) (u5 : Value) (u6 : Value) (W : zW) : ev_ G 205 568 [.ref a0, .ref a1, .ref a2, .ref a3, .int x4, u5, u6] [] W =
 (zld false W a0 (x4 + 1)).bind fun t1 =>
 (zld false W a0 (x4 + 2)).bind fun t2 =>
 zthI (ev_ G 86 0 [.ref a1, .int t1, .int t2, .ref a3, zU] [] W)
  (fun t4 W3 =>
 (zld false W3 a0 (x4 + 1)).bind fun t5 =>
  (zld false W3 a0 (x4 + 2)).bind fun t6 =>
  zthI (zck 13 W3 a2 (ev_ G 87 0 [.ref a2, .int t5, .int t6] [] W3))
   (fun t8 W7 =>
  zthI (zck 13 W7 a2 (ev_ G 35 0 [.ref a2] [] W7))
    (fun t10 W9 =>
   if (t10 = t4 : Prop) then
     (if t4 = 0 then
       ((zldl W9 a3 0).bind fun t11 =>
        if (lg_cmp t11 ((t8 : Int32).toInt64)) = 0 then
         (ev_ G 205 2075 [.ref a0, .ref a1, .ref a2, .ref a3, .int x4, .int t4, .int t8] [] W9)
        else
         if (0 : Int32) &&& 1 = 0 then some (.inl (some (.int 0)), W9) else none)
      else
       ev_ G 205 2075 [.ref a0, .ref a1, .ref a2, .ref a3, .int x4, .int t4, .int t8] [] W9)
    else
     if (0 : Int32) &&& 1 = 0 then some (.inl (some (.int 0)), W9) else none)
    (fun _ _ => none))
   (fun _ _ => none))
  (fun _ _ => none) :=
 (zx_st (zh_L_law G) [23, 168, 260, 340, 408, 512, 568, 636, 692, 760, 816, 872, 935, 991, 1071, 1092, 1119, 1155, 1223, 1267, 1347, 1362, 1400, 1435, 1491, 1539, 1560, 1587, 1623, 1679, 1759, 1815, 1871, 1951, 2019, 2075] 400 568 _ _ _).trans rfl
set_option maxRecDepth 100000 in
theorem q_L_law_636 (G : Nat × Nat) (a0 : Nat) (a1 : Nat) (a2 : Nat) (a3 : Nat) (x4 : Int32) (u5 : Value) (u6 : Value) (W : zW) : ev_ G 205 636 [.ref a0, .ref a1, .ref a2, .ref a3, .int x4, u5, u6] [] W =
 (zld false W a0 (x4 + 1)).bind fun t1 =>
 zthI (ev_ G 90 0 [.ref a1, .int t1, .ref a3, zU] [] W)
  (fun t3 W2 =>
 (zld false W2 a0 (x4 + 1)).bind fun t4 =>
  zthI (zck 13 W2 a2 (ev_ G 93 0 [.ref a2, .int t4] [] W2))
   (fun t6 W5 =>
  zthI (zck 13 W5 a2 (ev_ G 35 0 [.ref a2] [] W5))
    (fun t8 W7 =>
   if (t8 = t3 : Prop) then
     (if t3 = 0 then
       ((zldl W7 a3 0).bind fun t9 =>
        if (lg_cmp t9 ((t6 : Int32).toInt64)) = 0 then
         (ev_ G 205 2075 [.ref a0, .ref a1, .ref a2, .ref a3, .int x4, .int t3, .int t6] [] W7)
        else
         if (0 : Int32) &&& 1 = 0 then some (.inl (some (.int 0)), W7) else none)
      else
       ev_ G 205 2075 [.ref a0, .ref a1, .ref a2, .ref a3, .int x4, .int t3, .int t6] [] W7)
    else
     if (0 : Int32) &&& 1 = 0 then some (.inl (some (.int 0)), W7) else none)
    (fun _ _ => none))
   (fun _ _ => none))
  (fun _ _ => none) :=
 (zx_st (zh_L_law G) [23, 168, 260, 340, 408, 512, 568, 636, 692, 760, 816, 872, 935, 991, 1071, 1092, 1119, 1155, 1223, 1267, 1347, 1362, 1400, 1435, 1491, 1539, 1560, 1587, 1623, 1679, 1759, 1815, 1871, 1951, 2019, 2075] 400 636 _ _ _).trans rfl
set_option maxRecDepth 100000 in
theorem q_L_law_692 (G : Nat × Nat) (a0 : Nat) (a1 : Nat) (a2 : Nat) (a3 : Nat) (x4 : Int32) (u5 : Value) (u6 : Value) (W : zW) : ev_ G 205 692 [.ref a0, .ref a1, .ref a2, .ref a3, .int x4, u5, u6] [] W =
 (zld false W a0 (x4 + 1)).bind fun t1 =>
 (zld false W a0 (x4 + 2)).bind fun t2 =>
 zthI (ev_ G 96 0 [.ref a1, .int t1, .int t2, .ref a3, zU] [] W)
  (fun t4 W3 =>
 (zld false W3 a0 (x4 + 1)).bind fun t5 =>
  (zld false W3 a0 (x4 + 2)).bind fun t6 =>
  zthI (zck 13 W3 a2 (ev_ G 97 0 [.ref a2, .int t5, .int t6, zU] [] W3))
   (fun t8 W7 =>
  zthI (zck 13 W7 a2 (ev_ G 35 0 [.ref a2] [] W7))
    (fun t10 W9 =>
   if (t10 = t4 : Prop) then
     (if t4 = 0 then
       ((zldl W9 a3 0).bind fun t11 =>
        if (lg_cmp t11 ((t8 : Int32).toInt64)) = 0 then
         (ev_ G 205 2075 [.ref a0, .ref a1, .ref a2, .ref a3, .int x4, .int t4, .int t8] [] W9)
        else
         if (0 : Int32) &&& 1 = 0 then some (.inl (some (.int 0)), W9) else none)
      else
       ev_ G 205 2075 [.ref a0, .ref a1, .ref a2, .ref a3, .int x4, .int t4, .int t8] [] W9)
    else
     if (0 : Int32) &&& 1 = 0 then some (.inl (some (.int 0)), W9) else none)
    (fun _ _ => none))
   (fun _ _ => none))
  (fun _ _ => none) :=
 (zx_st (zh_L_law G) [23, 168, 260, 340, 408, 512, 568, 636, 692, 760, 816, 872, 935, 991, 1071, 1092, 1119, 1155, 1223, 1267, 1347, 1362, 1400, 1435, 1491, 1539, 1560, 1587, 1623, 1679, 1759, 1815, 1871, 1951, 2019, 2075] 400 692 _ _ _).trans rfl
set_option maxRecDepth 100000 in
theorem q_L_law_760 (G : Nat × Nat) (a0 : Nat) (a1 : Nat) (a2 : Nat) (a3 : Nat) (x4 : Int32) (u5 : Value) (u6 : Value) (W : zW) : ev_ G 205 760 [.ref a0, .ref a1, .ref a2, .ref a3, .int x4, u5, u6] [] W =
 (zld false W a0 (x4 + 1)).bind fun t1 =>
 zthI (ev_ G 104 0 [.ref a1, .int t1, .ref a3, zU] [] W)
  (fun t3 W2 =>
 (zld false W2 a0 (x4 + 1)).bind fun t4 =>
  zthI (zck 13 W2 a2 (ev_ G 107 0 [.ref a2, .int t4] [] W2))
   (fun t6 W5 =>
  zthI (zck 13 W5 a2 (ev_ G 35 0 [.ref a2] [] W5))
    (fun t8 W7 =>
   if (t8 = t3 : Prop) then
     (if t3 = 0 then
       ((zldl W7 a3 0).bind fun t9 =>
        if (lg_cmp t9 ((t6 : Int32).toInt64)) = 0 then
         (ev_ G 205 2075 [.ref a0, .ref a1, .ref a2, .ref a3, .int x4, .int t3, .int t6] [] W7)
        else
         if (0 : Int32) &&& 1 = 0 then some (.inl (some (.int 0)), W7) else none)
      else
       ev_ G 205 2075 [.ref a0, .ref a1, .ref a2, .ref a3, .int x4, .int t3, .int t6] [] W7)
    else
     if (0 : Int32) &&& 1 = 0 then some (.inl (some (.int 0)), W7) else none)
    (fun _ _ => none))
   (fun _ _ => none))
  (fun _ _ => none) :=
 (zx_st (zh_L_law G) [23, 168, 260, 340, 408, 512, 568, 636, 692, 760, 816, 872, 935, 991, 1071, 1092, 1119, 1155, 1223, 1267, 1347, 1362, 1400, 1435, 1491, 1539, 1560, 1587, 1623, 1679, 1759, 1815, 1871, 1951, 2019, 2075] 400 760 _ _ _).trans rfl
set_option maxRecDepth 100000 in
theorem q_L_law_816 (G : Nat × Nat) (a0 : Nat) (a1 : Nat) (a2 : Nat) (a3 : Nat) (x4 : Int32) (u5 : Value) (u6 : Value) (W : zW) : ev_ G 205 816 [.ref a0, .ref a1, .ref a2, .ref a3, .int x4, u5, u6] [] W =
 (zld false W a0 (x4 + 1)).bind fun t1 =>
 zthI (ev_ G 112 0 [.ref a1, .int t1, .ref a3, zU] [] W)
  (fun t3 W2 =>
 (zld false W2 a0 (x4 + 1)).bind fun t4 =>
  zthI (zck 13 W2 a2 (ev_ G 113 0 [.ref a2, .int t4] [] W2))
   (fun t6 W5 =>
  zthI (zck 13 W5 a2 (ev_ G 35 0 [.ref a2] [] W5))
    (fun t8 W7 =>
   if (t8 = t3 : Prop) then
     (if t3 = 0 then
       ((zldl W7 a3 0).bind fun t9 =>
        if (lg_cmp t9 ((t6 : Int32).toInt64)) = 0 then
         (ev_ G 205 2075 [.ref a0, .ref a1, .ref a2, .ref a3, .int x4, .int t3, .int t6] [] W7)
        else
         if (0 : Int32) &&& 1 = 0 then some (.inl (some (.int 0)), W7) else none)
      else
       ev_ G 205 2075 [.ref a0, .ref a1, .ref a2, .ref a3, .int x4, .int t3, .int t6] [] W7)
    else
     if (0 : Int32) &&& 1 = 0 then some (.inl (some (.int 0)), W7) else none)
    (fun _ _ => none))
   (fun _ _ => none))
  (fun _ _ => none) :=
 (zx_st (zh_L_law G) [23, 168, 260, 340, 408, 512, 568, 636, 692, 760, 816, 872, 935, 991, 1071, 1092, 1119, 1155, 1223, 1267, 1347, 1362, 1400, 1435, 1491, 1539, 1560, 1587, 1623, 1679, 1759, 1815, 1871, 1951, 2019, 2075] 400 816 _ _ _).trans rfl
set_option maxRecDepth 100000 in
theorem q_L_law_872 (G : Nat × Nat) (a0 : Nat) (a1 : Nat) (a2 : Nat) (a3 : Nat) (x4 : Int32) (u5 : Value) (u6 : Value) (W : zW) : ev_ G 205 872 [.ref a0, .ref a1, .ref a2, .ref a3, .int x4, u5, u6] [] W =
 (zld false W a0 (x4 + 1)).bind fun t1 =>
 zthI (ev_ G 120 0 [.ref a1, .int t1, .ref a3, zU] [] W)
  (fun t3 W2 =>
 (zld false W2 a0 (x4 + 1)).bind fun t4 =>
  zthI (zck 13 W2 a2 (ev_ G 122 0 [.ref a2, .int t4, zU, zU] [] W2))
   (fun t6 W5 =>
  zthI (zck 13 W5 a2 (ev_ G 35 0 [.ref a2] [] W5))
    (fun t8 W7 =>
   if (t8 = t3 : Prop) then
     (if t3 = 0 then
       ((zldl W7 a3 0).bind fun t9 =>
        if t6 = 0 then
         (if (lg_cmp t9 0) = 0 then
           (ev_ G 205 2075 [.ref a0, .ref a1, .ref a2, .ref a3, .int x4, .int t3, .int t6] [] W7)
          else
           if (0 : Int32) &&& 1 = 0 then some (.inl (some (.int 0)), W7) else none)
        else
         if (lg_cmp t9 1) = 0 then
          (ev_ G 205 2075 [.ref a0, .ref a1, .ref a2, .ref a3, .int x4, .int t3, .int t6] [] W7)
         else
          if (0 : Int32) &&& 1 = 0 then some (.inl (some (.int 0)), W7) else none)
      else
       ev_ G 205 2075 [.ref a0, .ref a1, .ref a2, .ref a3, .int x4, .int t3, .int t6] [] W7)
    else
     if (0 : Int32) &&& 1 = 0 then some (.inl (some (.int 0)), W7) else none)
    (fun _ _ => none))
   (fun _ _ => none))
  (fun _ _ => none) :=
 (zx_st (zh_L_law G) [23, 168, 260, 340, 408, 512, 568, 636, 692, 760, 816, 872, 935, 991, 1071, 1092, 1119, 1155, 1223, 1267, 1347, 1362, 1400, 1435, 1491, 1539, 1560, 1587, 1623, 1679, 1759, 1815, 1871, 1951, 2019, 2075] 400 872 _ _ _).trans rfl
set_option maxRecDepth 100000 in
theorem q_L_law_935 (G : Nat × Nat) (a0 : Nat) (a1 : Nat) (a2 : Nat) (a3 : Nat) (x4 : Int32) (u5 : Value) (u6 : Value) (W : zW) : ev_ G 205 935 [.ref a0, .ref a1, .ref a2, .ref a3, .int x4, u5, u6] [] W =
 (zld false W a0 (x4 + 1)).bind fun t1 =>
 zthI (ev_ G 124 0 [.ref a1, .int t1, .ref a3, zU] [] W)
  (fun t3 W2 =>
 (zld false W2 a0 (x4 + 1)).bind fun t4 =>
  zthI (zck 13 W2 a2 (ev_ G 125 0 [.ref a2, .int t4] [] W2))
   (fun t6 W5 =>
  zthI (zck 13 W5 a2 (ev_ G 35 0 [.ref a2] [] W5))
    (fun t8 W7 =>
   if (t8 = t3 : Prop) then
     (if t3 = 0 then
       ((zldl W7 a3 0).bind fun t9 =>
        if (lg_cmp t9 ((t6 : Int32).toInt64)) = 0 then
         (ev_ G 205 2075 [.ref a0, .ref a1, .ref a2, .ref a3, .int x4, .int t3, .int t6] [] W7)
        else
         if (0 : Int32) &&& 1 = 0 then some (.inl (some (.int 0)), W7) else none)
      else
       ev_ G 205 2075 [.ref a0, .ref a1, .ref a2, .ref a3, .int x4, .int t3, .int t6] [] W7)
    else
     if (0 : Int32) &&& 1 = 0 then some (.inl (some (.int 0)), W7) else none)
    (fun _ _ => none))
   (fun _ _ => none))
  (fun _ _ => none) :=
 (zx_st (zh_L_law G) [23, 168, 260, 340, 408, 512, 568, 636, 692, 760, 816, 872, 935, 991, 1071, 1092, 1119, 1155, 1223, 1267, 1347, 1362, 1400, 1435, 1491, 1539, 1560, 1587, 1623, 1679, 1759, 1815, 1871, 1951, 2019, 2075] 400 935 _ _ _).trans rfl
set_option maxRecDepth 100000 in
theorem q_L_law_991 (G : Nat × Nat) (a0 : Nat) (a1 : Nat) (a2 : Nat) (a3 : Nat) (x4 : Int32) (u5 : Value) (u6 : Value) (W : zW) : ev_ G 205 991 [.ref a0, .ref a1, .ref a2, .ref a3, .int x4, u5, u6] [] W =
 (zld false W a0 (x4 + 1)).bind fun t1 =>
 (zld false W a0 (x4 + 2)).bind fun t2 =>
 (zld false W a0 (x4 + 3)).bind fun t3 =>
 zthI (ev_ G 128 0 [.ref a1, .int t1, .int t2, .int t3, .ref a3, zU] [] W)
  (fun t5 W4 =>
 (zld false W4 a0 (x4 + 1)).bind fun t6 =>
  (zld false W4 a0 (x4 + 2)).bind fun t7 =>
  (zld false W4 a0 (x4 + 3)).bind fun t8 =>
  zthI (zck 13 W4 a2 (ev_ G 129 0 [.ref a2, .int t6, .int t7, .int t8, zU] [] W4))
   (fun t10 W9 =>
  zthI (zck 13 W9 a2 (ev_ G 35 0 [.ref a2] [] W9))
    (fun t12 W11 =>
   if (t12 = t5 : Prop) then
     (if t5 = 0 then
       ((zldl W11 a3 0).bind fun t13 =>
        if (lg_cmp t13 ((t10 : Int32).toInt64)) = 0 then
         (ev_ G 205 2075 [.ref a0, .ref a1, .ref a2, .ref a3, .int x4, .int t5, .int t10] [] W11)
        else
         if (0 : Int32) &&& 1 = 0 then some (.inl (some (.int 0)), W11) else none)
      else
       ev_ G 205 2075 [.ref a0, .ref a1, .ref a2, .ref a3, .int x4, .int t5, .int t10] [] W11)
    else
     if (0 : Int32) &&& 1 = 0 then some (.inl (some (.int 0)), W11) else none)
    (fun _ _ => none))
   (fun _ _ => none))
  (fun _ _ => none) :=
 (zx_st (zh_L_law G) [23, 168, 260, 340, 408, 512, 568, 636, 692, 760, 816, 872, 935, 991, 1071, 1092, 1119, 1155, 1223, 1267, 1347, 1362, 1400, 1435, 1491, 1539, 1560, 1587, 1623, 1679, 1759, 1815, 1871, 1951, 2019, 2075] 400 991 _ _ _).trans rfl
set_option maxRecDepth 100000 in
theorem q_L_law_1071 (G : Nat × Nat) (a0 : Nat) (a1 : Nat) (a2 : Nat) (a3 : Nat) (x4 : Int32) (u5 : Value) (u6 : Value) (W : zW) : ev_ G 205 1071 [.ref a0, .ref a1, .ref a2, .ref a3, .int x4, u5, u6] [] W =
 (zld false W a0 (x4 + 1)).bind fun t1 =>
 (zld false W a0 (x4 + 2)).bind fun t2 =>
 if t2 = 0 then
  (ev_ G 205 1092 [.ref a0, .ref a1, .ref a2, .ref a3, .int x4, u5, u6] [.int 0, .int t1, .ref a1] W)
 else
  ev_ G 205 1092 [.ref a0, .ref a1, .ref a2, .ref a3, .int x4, u5, u6] [.int 1, .int t1, .ref a1] W :=
 (zx_st (zh_L_law G) [23, 168, 260, 340, 408, 512, 568, 636, 692, 760, 816, 872, 935, 991, 1071, 1092, 1119, 1155, 1223, 1267, 1347, 1362, 1400, 1435, 1491, 1539, 1560, 1587, 1623, 1679, 1759, 1815, 1871, 1951, 2019, 2075] 400 1071 _ _ _).trans rfl
set_option maxRecDepth 100000 in
theorem q_L_law_1092 (G : Nat × Nat) (a0 : Nat) (a1 : Nat) (a2 : Nat) (a3 : Nat) (x4 : Int32) (u5 : Value) (u6 : Value) (a_0 : Nat) (x_1 : Int32) (x_2 : Int32) (W : zW) : ev_ G 205 1092 [.ref a0, .ref a1, .ref a2, .ref a3, .int x4, u5, u6] [.int x_2, .int x_1, .ref a_0] W =
 zthI (ev_ G 134 0 [.ref a_0, .int x_1, .int x_2, .ref a3, zU] [] W)
  (fun t2 W1 =>
 (zld false W1 a0 (x4 + 1)).bind fun t3 =>
  (zld false W1 a0 (x4 + 2)).bind fun t4 =>
  if t4 = 0 then
   (ev_ G 205 1119 [.ref a0, .ref a1, .ref a2, .ref a3, .int x4, .int t2, u6] [.int 0, .int t3, .ref a2] W1)
  else
   ev_ G 205 1119 [.ref a0, .ref a1, .ref a2, .ref a3, .int x4, .int t2, u6] [.int 1, .int t3, .ref a2] W1)
  (fun _ _ => none) :=
 (zx_st (zh_L_law G) [23, 168, 260, 340, 408, 512, 568, 636, 692, 760, 816, 872, 935, 991, 1071, 1092, 1119, 1155, 1223, 1267, 1347, 1362, 1400, 1435, 1491, 1539, 1560, 1587, 1623, 1679, 1759, 1815, 1871, 1951, 2019, 2075] 400 1092 _ _ _).trans rfl
set_option maxRecDepth 100000 in
theorem q_L_law_1119 (G : Nat × Nat) (a0 : Nat) (a1 : Nat) (a2 : Nat) (a3 : Nat) (x4 : Int32) (x5 : Int32) (u6 : Value) (a_0 : Nat) (x_1 : Int32) (x_2 : Int32) (W : zW) : ev_ G 205 1119 [.ref a0, .ref a1, .ref a2, .ref a3, .int x4, .int x5, u6] [.int x_2, .int x_1, .ref a_0] W =
 zthI (zck 13 W a_0 (ev_ G 137 0 [.ref a_0, .int x_1, .int x_2] [] W))
  (fun t2 W1 =>
 zthI (zck 13 W1 a2 (ev_ G 35 0 [.ref a2] [] W1))
   (fun t4 W3 =>
  if (t4 = x5 : Prop) then
    (if x5 = 0 then
      ((zldl W3 a3 0).bind fun t5 =>
       if (lg_cmp t5 ((t2 : Int32).toInt64)) = 0 then
        (ev_ G 205 2075 [.ref a0, .ref a1, .ref a2, .ref a3, .int x4, .int x5, .int t2] [] W3)
       else
        if (0 : Int32) &&& 1 = 0 then some (.inl (some (.int 0)), W3) else none)
     else
      ev_ G 205 2075 [.ref a0, .ref a1, .ref a2, .ref a3, .int x4, .int x5, .int t2] [] W3)
   else
    if (0 : Int32) &&& 1 = 0 then some (.inl (some (.int 0)), W3) else none)
   (fun _ _ => none))
  (fun _ _ => none) :=
 (zx_st (zh_L_law G) [23, 168, 260, 340, 408, 512, 568, 636, 692, 760, 816, 872, 935, 991, 1071, 1092, 1119, 1155, 1223, 1267, 1347, 1362, 1400, 1435, 1491, 1539, 1560, 1587, 1623, 1679, 1759, 1815, 1871, 1951, 2019, 2075] 400 1119 _ _ _).trans rfl
set_option maxRecDepth 100000 in
theorem q_L_law_1155 (G : Nat × Nat) (a0 : Nat) (a1 : Nat) (a2 : Nat) (a3 : Nat) (x4 : Int32) (u5 : Value) (u6 : Value) (W : zW) : ev_ G 205 1155 [.ref a0, .ref a1, .ref a2, .ref a3, .int x4, u5, u6] [] W =
 (zld false W a0 (x4 + 1)).bind fun t1 =>
 (zld false W a0 (x4 + 2)).bind fun t2 =>
 zthI (ev_ G 139 0 [.ref a1, .int t1, .int t2, .ref a3, zU] [] W)
  (fun t4 W3 =>
 (zld false W3 a0 (x4 + 1)).bind fun t5 =>
  (zld false W3 a0 (x4 + 2)).bind fun t6 =>
  zthI (zck 13 W3 a2 (ev_ G 140 0 [.ref a2, .int t5, .int t6] [] W3))
   (fun t8 W7 =>
  zthI (zck 13 W7 a2 (ev_ G 35 0 [.ref a2] [] W7))
    (fun t10 W9 =>
   if (t10 = t4 : Prop) then
     (if t4 = 0 then
       ((zldl W9 a3 0).bind fun t11 =>
        if (lg_cmp t11 ((t8 : Int32).toInt64)) = 0 then
         (ev_ G 205 2075 [.ref a0, .ref a1, .ref a2, .ref a3, .int x4, .int t4, .int t8] [] W9)
        else
         if (0 : Int32) &&& 1 = 0 then some (.inl (some (.int 0)), W9) else none)
      else
       ev_ G 205 2075 [.ref a0, .ref a1, .ref a2, .ref a3, .int x4, .int t4, .int t8] [] W9)
    else
     if (0 : Int32) &&& 1 = 0 then some (.inl (some (.int 0)), W9) else none)
    (fun _ _ => none))
   (fun _ _ => none))
  (fun _ _ => none) :=
 (zx_st (zh_L_law G) [23, 168, 260, 340, 408, 512, 568, 636, 692, 760, 816, 872, 935, 991, 1071, 1092, 1119, 1155, 1223, 1267, 1347, 1362, 1400, 1435, 1491, 1539, 1560, 1587, 1623, 1679, 1759, 1815, 1871, 1951, 2019, 2075] 400 1155 _ _ _).trans rfl
set_option maxRecDepth 100000 in
theorem q_L_law_1223 (G : Nat × Nat) (a0 : Nat) (a1 : Nat) (a2 : Nat) (a3 : Nat) (x4 : Int32) (u5 : Value) (u6 : Value) (W : zW) : ev_ G 205 1223 [.ref a0, .ref a1, .ref a2, .ref a3, .int x4, u5, u6] [] W =
 zthI (ev_ G 144 0 [.ref a1, .ref a3, zU] [] W)
  (fun t2 W1 =>
 zthI (zck 13 W1 a2 (ev_ G 145 0 [.ref a2] [] W1))
   (fun t4 W3 =>
  zthI (zck 13 W3 a2 (ev_ G 35 0 [.ref a2] [] W3))
    (fun t6 W5 =>
   if (t6 = t2 : Prop) then
     (if t2 = 0 then
       ((zldl W5 a3 0).bind fun t7 =>
        if (lg_cmp t7 ((t4 : Int32).toInt64)) = 0 then
         (ev_ G 205 2075 [.ref a0, .ref a1, .ref a2, .ref a3, .int x4, .int t2, .int t4] [] W5)
        else
         if (0 : Int32) &&& 1 = 0 then some (.inl (some (.int 0)), W5) else none)
      else
       ev_ G 205 2075 [.ref a0, .ref a1, .ref a2, .ref a3, .int x4, .int t2, .int t4] [] W5)
    else
     if (0 : Int32) &&& 1 = 0 then some (.inl (some (.int 0)), W5) else none)
    (fun _ _ => none))
   (fun _ _ => none))
  (fun _ _ => none) :=
 (zx_st (zh_L_law G) [23, 168, 260, 340, 408, 512, 568, 636, 692, 760, 816, 872, 935, 991, 1071, 1092, 1119, 1155, 1223, 1267, 1347, 1362, 1400, 1435, 1491, 1539, 1560, 1587, 1623, 1679, 1759, 1815, 1871, 1951, 2019, 2075] 400 1223 _ _ _).trans rfl
set_option maxRecDepth 100000 in
theorem q_L_law_1267 (G : Nat × Nat) (a0 : Nat) (a1 : Nat) (a2 : Nat) (a3 : Nat) (x4 : Int32) (u5 : Value) (u6 : Value) (W : zW) : ev_ G 205 1267 [.ref a0, .ref a1, .ref a2, .ref a3, .int x4, u5, u6] [] W =
 (zld false W a0 (x4 + 1)).bind fun t1 =>
 (zld false W a0 (x4 + 2)).bind fun t2 =>
 (zld false W a0 (x4 + 3)).bind fun t3 =>
 zthI (ev_ G 152 0 [.ref a1, .int t1, .int t2, .int t3, .ref a3, zU] [] W)
  (fun t5 W4 =>
 (zld false W4 a0 (x4 + 1)).bind fun t6 =>
  (zld false W4 a0 (x4 + 2)).bind fun t7 =>
  (zld false W4 a0 (x4 + 3)).bind fun t8 =>
  zthI (zck 13 W4 a2 (ev_ G 156 0 [.ref a2, .int t6, .int t7, .int t8, zU, zU] [] W4))
   (fun t10 W9 =>
  zthI (zck 13 W9 a2 (ev_ G 35 0 [.ref a2] [] W9))
    (fun t12 W11 =>
   if (t12 = t5 : Prop) then
     (if t5 = 0 then
       ((zldl W11 a3 0).bind fun t13 =>
        if (lg_cmp t13 ((t10 : Int32).toInt64)) = 0 then
         (ev_ G 205 2075 [.ref a0, .ref a1, .ref a2, .ref a3, .int x4, .int t5, .int t10] [] W11)
        else
         if (0 : Int32) &&& 1 = 0 then some (.inl (some (.int 0)), W11) else none)
      else
       ev_ G 205 2075 [.ref a0, .ref a1, .ref a2, .ref a3, .int x4, .int t5, .int t10] [] W11)
    else
     if (0 : Int32) &&& 1 = 0 then some (.inl (some (.int 0)), W11) else none)
    (fun _ _ => none))
   (fun _ _ => none))
  (fun _ _ => none) :=
 (zx_st (zh_L_law G) [23, 168, 260, 340, 408, 512, 568, 636, 692, 760, 816, 872, 935, 991, 1071, 1092, 1119, 1155, 1223, 1267, 1347, 1362, 1400, 1435, 1491, 1539, 1560, 1587, 1623, 1679, 1759, 1815, 1871, 1951, 2019, 2075] 400 1267 _ _ _).trans rfl
set_option maxRecDepth 100000 in
theorem q_L_law_1347 (G : Nat × Nat) (a0 : Nat) (a1 : Nat) (a2 : Nat) (a3 : Nat) (x4 : Int32) (u5 : Value) (u6 : Value) (W : zW) : ev_ G 205 1347 [.ref a0, .ref a1, .ref a2, .ref a3, .int x4, u5, u6] [] W =
 (zld false W a0 (x4 + 1)).bind fun t1 =>
 if t1 = 0 then
  (ev_ G 205 1362 [.ref a0, .ref a1, .ref a2, .ref a3, .int x4, u5, u6] [.int 0, .ref a1] W)
 else
  ev_ G 205 1362 [.ref a0, .ref a1, .ref a2, .ref a3, .int x4, u5, u6] [.int 1, .ref a1] W :=
 (zx_st (zh_L_law G) [23, 168, 260, 340, 408, 512, 568, 636, 692, 760, 816, 872, 935, 991, 1071, 1092, 1119, 1155, 1223, 1267, 1347, 1362, 1400, 1435, 1491, 1539, 1560, 1587, 1623, 1679, 1759, 1815, 1871, 1951, 2019, 2075] 400 1347 _ _ _).trans rfl
set_option maxRecDepth 100000 in
theorem q_L_law_1362 (G : Nat × Nat) (a0 : Nat) (a1 : Nat) (a2 : Nat) (a3 : Nat) (x4 : Int32) (u5 : Value) (u6 : Value) (a_0 : Nat) (x_1 : Int32) (W : zW) : ev_ G 205 1362 [.ref a0, .ref a1, .ref a2, .ref a3, .int x4, u5, u6] [.int x_1, .ref a_0] W =
 (zld false W a0 (x4 + 2)).bind fun t1 =>
 (zld false W a0 (x4 + 3)).bind fun t2 =>
 (zld false W a0 (x4 + 4)).bind fun t3 =>
 zthI (ev_ G 158 0 [.ref a_0, .int x_1, .int t1, .int t2, .int t3, zU] [] W)
  (fun t5 W4 =>
 (zld false W4 a0 (x4 + 1)).bind fun t6 =>
  if t6 = 0 then
   (ev_ G 205 1400 [.ref a0, .ref a1, .ref a2, .ref a3, .int x4, .int t5, u6] [.int 0, .ref a2] W4)
  else
   ev_ G 205 1400 [.ref a0, .ref a1, .ref a2, .ref a3, .int x4, .int t5, u6] [.int 1, .ref a2] W4)
  (fun _ _ => none) :=
 (zx_st (zh_L_law G) [23, 168, 260, 340, 408, 512, 568, 636, 692, 760, 816, 872, 935, 991, 1071, 1092, 1119, 1155, 1223, 1267, 1347, 1362, 1400, 1435, 1491, 1539, 1560, 1587, 1623, 1679, 1759, 1815, 1871, 1951, 2019, 2075] 400 1362 _ _ _).trans rfl
set_option maxRecDepth 100000 in
theorem q_L_law_1400 (G : Nat × Nat) (a0 : Nat) (a1 : Nat) (a2 : Nat) (a3 : Nat) (x4 : Int32) (x5 : Int32) (u6 : Value) (a_0 : Nat) (x_1 : Int32) (W : zW) : ev_ G 205 1400 [.ref a0, .ref a1, .ref a2, .ref a3, .int x4, .int x5, u6] [.int x_1, .ref a_0] W =
 (zld false W a0 (x4 + 2)).bind fun t1 =>
 (zld false W a0 (x4 + 3)).bind fun t2 =>
 (zld false W a0 (x4 + 4)).bind fun t3 =>
 zthV (zck 13 W a_0 (ev_ G 159 0 [.ref a_0, .int x_1, .int t1, .int t2, .int t3, zU, zU] [] W))
  (fun W4 =>
 zthI (zck 13 W4 a2 (ev_ G 35 0 [.ref a2] [] W4))
   (fun t7 W6 =>
  if (t7 = x5 : Prop) then
    (ev_ G 205 2075 [.ref a0, .ref a1, .ref a2, .ref a3, .int x4, .int x5, u6] [] W6)
   else
    if (0 : Int32) &&& 1 = 0 then some (.inl (some (.int 0)), W6) else none)
   (fun _ _ => none))
  (fun _ _ => none) :=
 (zx_st (zh_L_law G) [23, 168, 260, 340, 408, 512, 568, 636, 692, 760, 816, 872, 935, 991, 1071, 1092, 1119, 1155, 1223, 1267, 1347, 1362, 1400, 1435, 1491, 1539, 1560, 1587, 1623, 1679, 1759, 1815, 1871, 1951, 2019, 2075] 400 1400 _ _ _).trans rfl
set_option maxRecDepth 100000 in
theorem q_L_law_1435 (G : Nat × Nat) (a0 : Nat) (a1 : Nat) (a2 : Nat) (a3 : Nat) (x4 : Int32) (u5 : Value) (u6 : Value) (W : zW) : ev_ G 205 1435 [.ref a0, .ref a1, .ref a2, .ref a3, .int x4, u5, u6] [] W =
 (zld false W a0 (x4 + 1)).bind fun t1 =>
 zthI (ev_ G 168 0 [.ref a1, .int t1, .ref a3, zU] [] W)
  (fun t3 W2 =>
 (zld false W2 a0 (x4 + 1)).bind fun t4 =>
  zthI (zck 13 W2 a2 (ev_ G 171 0 [.ref a2, .int t4, zU, zU, zU] [] W2))
   (fun t6 W5 =>
  zthI (zck 13 W5 a2 (ev_ G 35 0 [.ref a2] [] W5))
    (fun t8 W7 =>
   if (t8 = t3 : Prop) then
     (if t3 = 0 then
       ((zldl W7 a3 0).bind fun t9 =>
        if (lg_cmp t9 ((t6 : Int32).toInt64)) = 0 then
         (ev_ G 205 2075 [.ref a0, .ref a1, .ref a2, .ref a3, .int x4, .int t3, .int t6] [] W7)
        else
         if (0 : Int32) &&& 1 = 0 then some (.inl (some (.int 0)), W7) else none)
      else
       ev_ G 205 2075 [.ref a0, .ref a1, .ref a2, .ref a3, .int x4, .int t3, .int t6] [] W7)
    else
     if (0 : Int32) &&& 1 = 0 then some (.inl (some (.int 0)), W7) else none)
    (fun _ _ => none))
   (fun _ _ => none))
  (fun _ _ => none) :=
 (zx_st (zh_L_law G) [23, 168, 260, 340, 408, 512, 568, 636, 692, 760, 816, 872, 935, 991, 1071, 1092, 1119, 1155, 1223, 1267, 1347, 1362, 1400, 1435, 1491, 1539, 1560, 1587, 1623, 1679, 1759, 1815, 1871, 1951, 2019, 2075] 400 1435 _ _ _).trans rfl
set_option maxRecDepth 100000 in
theorem q_L_law_1491 (G : Nat × Nat) (a0 : Nat) (a1 : Nat) (a2 : Nat) (a3 : Nat) (x4 : Int32) (u5 : Value) (u6 : Value) (W : zW) : ev_ G 205 1491 [.ref a0, .ref a1, .ref a2, .ref a3, .int x4, u5, u6] [] W =
 (zld false W a0 (x4 + 1)).bind fun t1 =>
 (zld false W a0 (x4 + 2)).bind fun t2 =>
 zthI (ev_ G 173 0 [.ref a1, .int t1, .int t2, zU] [] W)
  (fun t4 W3 =>
 (zld false W3 a0 (x4 + 1)).bind fun t5 =>
  (zld false W3 a0 (x4 + 2)).bind fun t6 =>
  zthV (zck 13 W3 a2 (ev_ G 174 0 [.ref a2, .int t5, .int t6, zU] [] W3))
   (fun W7 =>
  zthI (zck 13 W7 a2 (ev_ G 35 0 [.ref a2] [] W7))
    (fun t10 W9 =>
   if (t10 = t4 : Prop) then
     (ev_ G 205 2075 [.ref a0, .ref a1, .ref a2, .ref a3, .int x4, .int t4, u6] [] W9)
    else
     if (0 : Int32) &&& 1 = 0 then some (.inl (some (.int 0)), W9) else none)
    (fun _ _ => none))
   (fun _ _ => none))
  (fun _ _ => none) :=
 (zx_st (zh_L_law G) [23, 168, 260, 340, 408, 512, 568, 636, 692, 760, 816, 872, 935, 991, 1071, 1092, 1119, 1155, 1223, 1267, 1347, 1362, 1400, 1435, 1491, 1539, 1560, 1587, 1623, 1679, 1759, 1815, 1871, 1951, 2019, 2075] 400 1491 _ _ _).trans rfl
set_option maxRecDepth 100000 in
theorem q_L_law_1539 (G : Nat × Nat) (a0 : Nat) (a1 : Nat) (a2 : Nat) (a3 : Nat) (x4 : Int32) (u5 : Value) (u6 : Value) (W : zW) : ev_ G 205 1539 [.ref a0, .ref a1, .ref a2, .ref a3, .int x4, u5, u6] [] W =
 (zld false W a0 (x4 + 1)).bind fun t1 =>
 (zld false W a0 (x4 + 2)).bind fun t2 =>
 if t2 = 0 then
  (ev_ G 205 1560 [.ref a0, .ref a1, .ref a2, .ref a3, .int x4, u5, u6] [.int 0, .int t1, .ref a1] W)
 else
  ev_ G 205 1560 [.ref a0, .ref a1, .ref a2, .ref a3, .int x4, u5, u6] [.int 1, .int t1, .ref a1] W :=
 (zx_st (zh_L_law G) [23, 168, 260, 340, 408, 512, 568, 636, 692, 760, 816, 872, 935, 991, 1071, 1092, 1119, 1155, 1223, 1267, 1347, 1362, 1400, 1435, 1491, 1539, 1560, 1587, 1623, 1679, 1759, 1815, 1871, 1951, 2019, 2075] 400 1539 _ _ _).trans rfl
set_option maxRecDepth 100000 in
theorem q_L_law_1560 (G : Nat × Nat) (a0 : Nat) (a1 : Nat) (a2 : Nat) (a3 : Nat) (x4 : Int32) (u5 : Value) (u6 : Value) (a_0 : Nat) (x_1 : Int32) (x_2 : Int32) (W : zW) : ev_ G 205 1560 [.ref a0, .ref a1, .ref a2, .ref a3, .int x4, u5, u6] [.int x_2, .int x_1, .ref a_0] W =
 zthI (ev_ G 177 0 [.ref a_0, .int x_1, .int x_2, .ref a3, zU] [] W)
  (fun t2 W1 =>
 (zld false W1 a0 (x4 + 1)).bind fun t3 =>
  (zld false W1 a0 (x4 + 2)).bind fun t4 =>
  if t4 = 0 then
   (ev_ G 205 1587 [.ref a0, .ref a1, .ref a2, .ref a3, .int x4, .int t2, u6] [.int 0, .int t3, .ref a2] W1)
  else
   ev_ G 205 1587 [.ref a0, .ref a1, .ref a2, .ref a3, .int x4, .int t2, u6] [.int 1, .int t3, .ref a2] W1)
  (fun _ _ => none) :=
 (zx_st (zh_L_law G) [23, 168, 260, 340, 408, 512, 568, 636, 692, 760, 816, 872, 935, 991, 1071, 1092, 1119, 1155, 1223, 1267, 1347, 1362, 1400, 1435, 1491, 1539, 1560, 1587, 1623, 1679, 1759, 1815, 1871, 1951, 2019, 2075] 400 1560 _ _ _).trans rfl
set_option maxRecDepth 100000 in
theorem q_L_law_1587 (G : Nat × Nat) (a0 : Nat) (a1 : Nat) (a2 : Nat) (a3 : Nat) (x4 : Int32) (x5 : Int32) (u6 : Value) (a_0 : Nat) (x_1 : Int32) (x_2 : Int32) (W : zW) : ev_ G 205 1587 [.ref a0, .ref a1, .ref a2, .ref a3, .int x4, .int x5, u6] [.int x_2, .int x_1, .ref a_0] W =
 zthI (zck 13 W a_0 (ev_ G 178 0 [.ref a_0, .int x_1, .int x_2, zU, zU] [] W))
  (fun t2 W1 =>
 zthI (zck 13 W1 a2 (ev_ G 35 0 [.ref a2] [] W1))
   (fun t4 W3 =>
  if (t4 = x5 : Prop) then
    (if x5 = 0 then
      ((zldl W3 a3 0).bind fun t5 =>
       if (lg_cmp t5 ((t2 : Int32).toInt64)) = 0 then
        (ev_ G 205 2075 [.ref a0, .ref a1, .ref a2, .ref a3, .int x4, .int x5, .int t2] [] W3)
       else
        if (0 : Int32) &&& 1 = 0 then some (.inl (some (.int 0)), W3) else none)
     else
      ev_ G 205 2075 [.ref a0, .ref a1, .ref a2, .ref a3, .int x4, .int x5, .int t2] [] W3)
   else
    if (0 : Int32) &&& 1 = 0 then some (.inl (some (.int 0)), W3) else none)
   (fun _ _ => none))
  (fun _ _ => none) :=
 (zx_st (zh_L_law G) [23, 168, 260, 340, 408, 512, 568, 636, 692, 760, 816, 872, 935, 991, 1071, 1092, 1119, 1155, 1223, 1267, 1347, 1362, 1400, 1435, 1491, 1539, 1560, 1587, 1623, 1679, 1759, 1815, 1871, 1951, 2019, 2075] 400 1587 _ _ _).trans rfl
set_option maxRecDepth 100000 in
theorem q_L_law_1623 (G : Nat × Nat) (a0 : Nat) (a1 : Nat) (a2 : Nat) (a3 : Nat) (x4 : Int32) (u5 : Value) (u6 : Value) (W : zW) : ev_ G 205 1623 [.ref a0, .ref a1, .ref a2, .ref a3, .int x4, u5, u6] [] W =
 (zld false W a0 (x4 + 1)).bind fun t1 =>
 zthI (ev_ G 182 0 [.ref a1, .int t1, .ref a3, zU] [] W)
  (fun t3 W2 =>
 (zld false W2 a0 (x4 + 1)).bind fun t4 =>
  zthI (zck 13 W2 a2 (ev_ G 184 0 [.ref a2, .int t4, zU, zU] [] W2))
   (fun t6 W5 =>
  zthI (zck 13 W5 a2 (ev_ G 35 0 [.ref a2] [] W5))
    (fun t8 W7 =>
   if (t8 = t3 : Prop) then
     (if t3 = 0 then
       ((zldl W7 a3 0).bind fun t9 =>
        if (lg_cmp t9 ((t6 : Int32).toInt64)) = 0 then
         (ev_ G 205 2075 [.ref a0, .ref a1, .ref a2, .ref a3, .int x4, .int t3, .int t6] [] W7)
        else
         if (0 : Int32) &&& 1 = 0 then some (.inl (some (.int 0)), W7) else none)
      else
       ev_ G 205 2075 [.ref a0, .ref a1, .ref a2, .ref a3, .int x4, .int t3, .int t6] [] W7)
    else
     if (0 : Int32) &&& 1 = 0 then some (.inl (some (.int 0)), W7) else none)
    (fun _ _ => none))
   (fun _ _ => none))
  (fun _ _ => none) :=
 (zx_st (zh_L_law G) [23, 168, 260, 340, 408, 512, 568, 636, 692, 760, 816, 872, 935, 991, 1071, 1092, 1119, 1155, 1223, 1267, 1347, 1362, 1400, 1435, 1491, 1539, 1560, 1587, 1623, 1679, 1759, 1815, 1871, 1951, 2019, 2075] 400 1623 _ _ _).trans rfl
set_option maxRecDepth 100000 in
theorem q_L_law_1679 (G : Nat × Nat) (a0 : Nat) (a1 : Nat) (a2 : Nat) (a3 : Nat) (x4 : Int32) (u5 : Value) (u6 : Value) (W : zW) : ev_ G 205 1679 [.ref a0, .ref a1, .ref a2, .ref a3, .int x4, u5, u6] [] W =
 (zld false W a0 (x4 + 1)).bind fun t1 =>
 (zld false W a0 (x4 + 2)).bind fun t2 =>
 (zld false W a0 (x4 + 3)).bind fun t3 =>
 zthI (ev_ G 187 0 [.ref a1, .int t1, .int t2, .int t3, .ref a3, zU] [] W)
  (fun t5 W4 =>
 (zld false W4 a0 (x4 + 1)).bind fun t6 =>
  (zld false W4 a0 (x4 + 2)).bind fun t7 =>
  (zld false W4 a0 (x4 + 3)).bind fun t8 =>
  zthI (zck 13 W4 a2 (ev_ G 188 0 [.ref a2, .int t6, .int t7, .int t8, zU, zU, zU] [] W4))
   (fun t10 W9 =>
  zthI (zck 13 W9 a2 (ev_ G 35 0 [.ref a2] [] W9))
    (fun t12 W11 =>
   if (t12 = t5 : Prop) then
     (if t5 = 0 then
       ((zldl W11 a3 0).bind fun t13 =>
        if (lg_cmp t13 ((t10 : Int32).toInt64)) = 0 then
         (ev_ G 205 2075 [.ref a0, .ref a1, .ref a2, .ref a3, .int x4, .int t5, .int t10] [] W11)
        else
         if (0 : Int32) &&& 1 = 0 then some (.inl (some (.int 0)), W11) else none)
      else
       ev_ G 205 2075 [.ref a0, .ref a1, .ref a2, .ref a3, .int x4, .int t5, .int t10] [] W11)
    else
     if (0 : Int32) &&& 1 = 0 then some (.inl (some (.int 0)), W11) else none)
    (fun _ _ => none))
   (fun _ _ => none))
  (fun _ _ => none) :=
 (zx_st (zh_L_law G) [23, 168, 260, 340, 408, 512, 568, 636, 692, 760, 816, 872, 935, 991, 1071, 1092, 1119, 1155, 1223, 1267, 1347, 1362, 1400, 1435, 1491, 1539, 1560, 1587, 1623, 1679, 1759, 1815, 1871, 1951, 2019, 2075] 400 1679 _ _ _).trans rfl
set_option maxRecDepth 100000 in
theorem q_L_law_1759 (G : Nat × Nat) (a0 : Nat) (a1 : Nat) (a2 : Nat) (a3 : Nat) (x4 : Int32) (u5 : Value) (u6 : Value) (W : zW) : ev_ G 205 1759 [.ref a0, .ref a1, .ref a2, .ref a3, .int x4, u5, u6] [] W =
 (zld false W a0 (x4 + 1)).bind fun t1 =>
 zthI (ev_ G 190 0 [.ref a1, .int t1, .ref a3, zU] [] W)
  (fun t3 W2 =>
 (zld false W2 a0 (x4 + 1)).bind fun t4 =>
  zthI (zck 13 W2 a2 (ev_ G 191 0 [.ref a2, .int t4] [] W2))
   (fun t6 W5 =>
  zthI (zck 13 W5 a2 (ev_ G 35 0 [.ref a2] [] W5))
    (fun t8 W7 =>
   if (t8 = t3 : Prop) then
     (if t3 = 0 then
       ((zldl W7 a3 0).bind fun t9 =>
        if (lg_cmp t9 ((t6 : Int32).toInt64)) = 0 then
         (ev_ G 205 2075 [.ref a0, .ref a1, .ref a2, .ref a3, .int x4, .int t3, .int t6] [] W7)
        else
         if (0 : Int32) &&& 1 = 0 then some (.inl (some (.int 0)), W7) else none)
      else
       ev_ G 205 2075 [.ref a0, .ref a1, .ref a2, .ref a3, .int x4, .int t3, .int t6] [] W7)
    else
     if (0 : Int32) &&& 1 = 0 then some (.inl (some (.int 0)), W7) else none)
    (fun _ _ => none))
   (fun _ _ => none))
  (fun _ _ => none) :=
 (zx_st (zh_L_law G) [23, 168, 260, 340, 408, 512, 568, 636, 692, 760, 816, 872, 935, 991, 1071, 1092, 1119, 1155, 1223, 1267, 1347, 1362, 1400, 1435, 1491, 1539, 1560, 1587, 1623, 1679, 1759, 1815, 1871, 1951, 2019, 2075] 400 1759 _ _ _).trans rfl
set_option maxRecDepth 100000 in
theorem q_L_law_1815 (G : Nat × Nat) (a0 : Nat) (a1 : Nat) (a2 : Nat) (a3 : Nat) (x4 : Int32) (u5 : Value) (u6 : Value) (W : zW) : ev_ G 205 1815 [.ref a0, .ref a1, .ref a2, .ref a3, .int x4, u5, u6] [] W =
 (zld false W a0 (x4 + 1)).bind fun t1 =>
 zthI (ev_ G 193 0 [.ref a1, .int t1, .ref a3, zU] [] W)
  (fun t3 W2 =>
 (zld false W2 a0 (x4 + 1)).bind fun t4 =>
  zthI (zck 13 W2 a2 (ev_ G 194 0 [.ref a2, .int t4] [] W2))
   (fun t6 W5 =>
  zthI (zck 13 W5 a2 (ev_ G 35 0 [.ref a2] [] W5))
    (fun t8 W7 =>
   if (t8 = t3 : Prop) then
     (if t3 = 0 then
       ((zldl W7 a3 0).bind fun t9 =>
        if (lg_cmp t9 ((t6 : Int32).toInt64)) = 0 then
         (ev_ G 205 2075 [.ref a0, .ref a1, .ref a2, .ref a3, .int x4, .int t3, .int t6] [] W7)
        else
         if (0 : Int32) &&& 1 = 0 then some (.inl (some (.int 0)), W7) else none)
      else
       ev_ G 205 2075 [.ref a0, .ref a1, .ref a2, .ref a3, .int x4, .int t3, .int t6] [] W7)
    else
     if (0 : Int32) &&& 1 = 0 then some (.inl (some (.int 0)), W7) else none)
    (fun _ _ => none))
   (fun _ _ => none))
  (fun _ _ => none) :=
 (zx_st (zh_L_law G) [23, 168, 260, 340, 408, 512, 568, 636, 692, 760, 816, 872, 935, 991, 1071, 1092, 1119, 1155, 1223, 1267, 1347, 1362, 1400, 1435, 1491, 1539, 1560, 1587, 1623, 1679, 1759, 1815, 1871, 1951, 2019, 2075] 400 1815 _ _ _).trans rfl
set_option maxRecDepth 100000 in
theorem q_L_law_1871 (G : Nat × Nat) (a0 : Nat) (a1 : Nat) (a2 : Nat) (a3 : Nat) (x4 : Int32) (u5 : Value) (u6 : Value) (W : zW) : ev_ G 205 1871 [.ref a0, .ref a1, .ref a2, .ref a3, .int x4, u5, u6] [] W =
 (zld false W a0 (x4 + 1)).bind fun t1 =>
 (zld false W a0 (x4 + 2)).bind fun t2 =>
 (zld false W a0 (x4 + 3)).bind fun t3 =>
 zthI (ev_ G 196 0 [.ref a1, .int t1, .int t2, .int t3, .ref a3, zU] [] W)
  (fun t5 W4 =>
 (zld false W4 a0 (x4 + 1)).bind fun t6 =>
  (zld false W4 a0 (x4 + 2)).bind fun t7 =>
  (zld false W4 a0 (x4 + 3)).bind fun t8 =>
  zthI (zck 13 W4 a2 (ev_ G 197 0 [.ref a2, .int t6, .int t7, .int t8, zU] [] W4))
   (fun t10 W9 =>
  zthI (zck 13 W9 a2 (ev_ G 35 0 [.ref a2] [] W9))
    (fun t12 W11 =>
   if (t12 = t5 : Prop) then
     (if t5 = 0 then
       ((zldl W11 a3 0).bind fun t13 =>
        if (lg_cmp t13 ((t10 : Int32).toInt64)) = 0 then
         (ev_ G 205 2075 [.ref a0, .ref a1, .ref a2, .ref a3, .int x4, .int t5, .int t10] [] W11)
        else
         if (0 : Int32) &&& 1 = 0 then some (.inl (some (.int 0)), W11) else none)
      else
       ev_ G 205 2075 [.ref a0, .ref a1, .ref a2, .ref a3, .int x4, .int t5, .int t10] [] W11)
    else
     if (0 : Int32) &&& 1 = 0 then some (.inl (some (.int 0)), W11) else none)
    (fun _ _ => none))
   (fun _ _ => none))
  (fun _ _ => none) :=
 (zx_st (zh_L_law G) [23, 168, 260, 340, 408, 512, 568, 636, 692, 760, 816, 872, 935, 991, 1071, 1092, 1119, 1155, 1223, 1267, 1347, 1362, 1400, 1435, 1491, 1539, 1560, 1587, 1623, 1679, 1759, 1815, 1871, 1951, 2019, 2075] 400 1871 _ _ _).trans rfl
set_option maxRecDepth 100000 in
theorem q_L_law_1951 (G : Nat × Nat) (a0 : Nat) (a1 : Nat) (a2 : Nat) (a3 : Nat) (x4 : Int32) (u5 : Value) (u6 : Value) (W : zW) : ev_ G 205 1951 [.ref a0, .ref a1, .ref a2, .ref a3, .int x4, u5, u6] [] W =
 (zld false W a0 (x4 + 1)).bind fun t1 =>
 (zld false W a0 (x4 + 2)).bind fun t2 =>
 zthI (ev_ G 199 0 [.ref a1, .int t1, .int t2, .ref a3, zU] [] W)
  (fun t4 W3 =>
 (zld false W3 a0 (x4 + 1)).bind fun t5 =>
  (zld false W3 a0 (x4 + 2)).bind fun t6 =>
  zthI (zck 13 W3 a2 (ev_ G 200 0 [.ref a2, .int t5, .int t6] [] W3))
   (fun t8 W7 =>
  zthI (zck 13 W7 a2 (ev_ G 35 0 [.ref a2] [] W7))
    (fun t10 W9 =>
   if (t10 = t4 : Prop) then
     (if t4 = 0 then
       ((zldl W9 a3 0).bind fun t11 =>
        if (lg_cmp t11 ((t8 : Int32).toInt64)) = 0 then
         (ev_ G 205 2075 [.ref a0, .ref a1, .ref a2, .ref a3, .int x4, .int t4, .int t8] [] W9)
        else
         if (0 : Int32) &&& 1 = 0 then some (.inl (some (.int 0)), W9) else none)
      else
       ev_ G 205 2075 [.ref a0, .ref a1, .ref a2, .ref a3, .int x4, .int t4, .int t8] [] W9)
    else
     if (0 : Int32) &&& 1 = 0 then some (.inl (some (.int 0)), W9) else none)
    (fun _ _ => none))
   (fun _ _ => none))
  (fun _ _ => none) :=
 (zx_st (zh_L_law G) [23, 168, 260, 340, 408, 512, 568, 636, 692, 760, 816, 872, 935, 991, 1071, 1092, 1119, 1155, 1223, 1267, 1347, 1362, 1400, 1435, 1491, 1539, 1560, 1587, 1623, 1679, 1759, 1815, 1871, 1951, 2019, 2075] 400 1951 _ _ _).trans rfl
set_option maxRecDepth 100000 in
theorem q_L_law_2019 (G : Nat × Nat) (a0 : Nat) (a1 : Nat) (a2 : Nat) (a3 : Nat) (x4 : Int32) (u5 : Value) (u6 : Value) (W : zW) : ev_ G 205 2019 [.ref a0, .ref a1, .ref a2, .ref a3, .int x4, u5, u6] [] W =
 (zld false W a0 (x4 + 1)).bind fun t1 =>
 zthI (ev_ G 203 0 [.ref a1, .int t1, .ref a3, zU] [] W)
  (fun t3 W2 =>
 (zld false W2 a0 (x4 + 1)).bind fun t4 =>
  zthI (zck 13 W2 a2 (ev_ G 204 0 [.ref a2, .int t4, zU, zU, zU, zU] [] W2))
   (fun t6 W5 =>
  zthI (zck 13 W5 a2 (ev_ G 35 0 [.ref a2] [] W5))
    (fun t8 W7 =>
   if (t8 = t3 : Prop) then
     (if t3 = 0 then
       ((zldl W7 a3 0).bind fun t9 =>
        if (lg_cmp t9 ((t6 : Int32).toInt64)) = 0 then
         (ev_ G 205 2075 [.ref a0, .ref a1, .ref a2, .ref a3, .int x4, .int t3, .int t6] [] W7)
        else
         if (0 : Int32) &&& 1 = 0 then some (.inl (some (.int 0)), W7) else none)
      else
       ev_ G 205 2075 [.ref a0, .ref a1, .ref a2, .ref a3, .int x4, .int t3, .int t6] [] W7)
    else
     if (0 : Int32) &&& 1 = 0 then some (.inl (some (.int 0)), W7) else none)
    (fun _ _ => none))
   (fun _ _ => none))
  (fun _ _ => none) :=
 (zx_st (zh_L_law G) [23, 168, 260, 340, 408, 512, 568, 636, 692, 760, 816, 872, 935, 991, 1071, 1092, 1119, 1155, 1223, 1267, 1347, 1362, 1400, 1435, 1491, 1539, 1560, 1587, 1623, 1679, 1759, 1815, 1871, 1951, 2019, 2075] 400 2019 _ _ _).trans rfl
set_option maxRecDepth 100000 in
theorem q_L_law_2075 (G : Nat × Nat) (a0 : Nat) (a1 : Nat) (a2 : Nat) (a3 : Nat) (x4 : Int32) (u5 : Value) (u6 : Value) (W : zW) : ev_ G 205 2075 [.ref a0, .ref a1, .ref a2, .ref a3, .int x4, u5, u6] [] W =
 ev_ G 205 23 [.ref a0, .ref a1, .ref a2, .ref a3, .int (x4 + 6), u5, u6] [] W :=
 (zx_st (zh_L_law G) [23, 168, 260, 340, 408, 512, 568, 636, 692, 760, 816, 872, 935, 991, 1071, 1092, 1119, 1155, 1223, 1267, 1347, 1362, 1400, 1435, 1491, 1539, 1560, 1587, 1623, 1679, 1759, 1815, 1871, 1951, 2019, 2075] 400 2075 _ _ _).trans rfl
