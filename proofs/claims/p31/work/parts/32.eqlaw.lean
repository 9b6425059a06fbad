/-! the law: its stretches, by program -/
set_option maxRecDepth 100000 in
theorem q_L_limited_0 (G : Nat × Nat) (a0 : Nat) (x1 : Int32) (x2 : Int32) (x3 : Int32) (x4 : Int32) (W : zW) : ev_ G 208 0 [.ref a0, .int x1, .int x2, .int x3, .int x4] [] W =
 if (x1 = 1 : Prop) then
  (zthV (zck 12 W a0 (ev_ G 157 0 [.ref a0, .int 1, .int x2, .int x3, .int x4] [] W))
    (fun W1 =>
   some (.inl (some (.int 0)), W1))
    zxe)
 else
  zthV (zck 12 W a0 (ev_ G 157 0 [.ref a0, .int 0, .int x2, .int x3, .int x4] [] W))
   (fun W3 =>
  some (.inl (some (.int 0)), W3))
   zxe :=
 (zx_st (zh_L_limited G) [] 400 0 _ _ _).trans rfl
set_option maxRecDepth 100000 in
theorem q_L_flawed_0 (G : Nat × Nat) (a0 : Nat) (x1 : Int32) (x2 : Int32) (W : zW) : ev_ G 209 0 [.ref a0, .int x1, .int x2] [] W =
 zthV (zck 12 W a0 (ev_ G 172 0 [.ref a0, .int x1, .int x2, zU, zU] [] W))
  (fun W1 =>
 some (.inl (some (.int 0)), W1))
  zxe :=
 (zx_st (zh_L_flawed G) [] 400 0 _ _ _).trans rfl
set_option maxRecDepth 100000 in
theorem q_L_does_0 (G : Nat × Nat) (a0 : Nat) (x1 : Int32) (x2 : Int32) (x3 : Int32) (x4 : Int32) (x5 : Int32) (x6 : Int32) (W : zW) : ev_ G 207 0 [.ref a0, .int x1, .int x2, .int x3, .int x4, .int x5, .int x6, zU] [] W =
 if x1 = 0 then
  (zthI (zck 12 W a0 (ev_ G 29 0 [.ref a0, .int x2, .int x3, .int x4, .int x5] [] W))
    (fun t2 W1 =>
   some (.inl (some (.int t2)), W1))
    (fun E W9 => if E = 0 then some (.inl (some (.int (-3000000))), W9) else if E = 1 then some (.inl (some (.int (-2000000))), W9) else if E = 2 then some (.inl (some (.int (-1000000))), W9) else none))
 else
  if (x1 = 1 : Prop) then
   (zthI (zck 12 W a0 (ev_ G 38 0 [.ref a0, .int x2, .int x3, .int x4] [] W))
     (fun t4 W3 =>
    some (.inl (some (.int t4)), W3))
     (fun E W9 => if E = 0 then some (.inl (some (.int (-3000000))), W9) else if E = 1 then some (.inl (some (.int (-2000000))), W9) else if E = 2 then some (.inl (some (.int (-1000000))), W9) else none))
  else
   if (x1 = 2 : Prop) then
    (zthI (zck 12 W a0 (ev_ G 48 0 [.ref a0, .int x2, .int x3, zU, zU] [] W))
      (fun t6 W5 =>
     some (.inl (some (.int t6)), W5))
      (fun E W9 => if E = 0 then some (.inl (some (.int (-3000000))), W9) else if E = 1 then some (.inl (some (.int (-2000000))), W9) else if E = 2 then some (.inl (some (.int (-1000000))), W9) else none))
   else
    if (x1 = 3 : Prop) then
     (zthI (zck 12 W a0 (ev_ G 67 0 [.ref a0, .int x2, .int x3, .int x4, .int x5, .int x6, zU, zU] [] W))
       (fun t8 W7 =>
      some (.inl (some (.int t8)), W7))
       (fun E W9 => if E = 0 then some (.inl (some (.int (-3000000))), W9) else if E = 1 then some (.inl (some (.int (-2000000))), W9) else if E = 2 then some (.inl (some (.int (-1000000))), W9) else none))
    else
     if (x1 = 4 : Prop) then
      (zthI (zck 12 W a0 (ev_ G 79 0 [.ref a0, .int x2, zU] [] W))
        (fun t10 W9 =>
       some (.inl (some (.int t10)), W9))
        (fun E W9 => if E = 0 then some (.inl (some (.int (-3000000))), W9) else if E = 1 then some (.inl (some (.int (-2000000))), W9) else if E = 2 then some (.inl (some (.int (-1000000))), W9) else none))
     else
      if (x1 = 5 : Prop) then
       (zthI (zck 12 W a0 (ev_ G 85 0 [.ref a0, .int x2, .int x3, zU] [] W))
         (fun t12 W11 =>
        some (.inl (some (.int t12)), W11))
         (fun E W9 => if E = 0 then some (.inl (some (.int (-3000000))), W9) else if E = 1 then some (.inl (some (.int (-2000000))), W9) else if E = 2 then some (.inl (some (.int (-1000000))), W9) else none))
      else
       if (x1 = 6 : Prop) then
        (zthI (zck 12 W a0 (ev_ G 95 0 [.ref a0, .int x2, .int x3] [] W))
          (fun t14 W13 =>
         some (.inl (some (.int t14)), W13))
          (fun E W9 => if E = 0 then some (.inl (some (.int (-3000000))), W9) else if E = 1 then some (.inl (some (.int (-2000000))), W9) else if E = 2 then some (.inl (some (.int (-1000000))), W9) else none))
       else
        if (x1 = 7 : Prop) then
         (zthI (zck 12 W a0 (ev_ G 119 0 [.ref a0, .int x2] [] W))
           (fun t16 W15 =>
          if t16 = 0 then
            (some (.inl (some (.int 0)), W15))
           else
            some (.inl (some (.int 1)), W15))
           (fun E W9 => if E = 0 then some (.inl (some (.int (-3000000))), W9) else if E = 1 then some (.inl (some (.int (-2000000))), W9) else if E = 2 then some (.inl (some (.int (-1000000))), W9) else none))
        else
         if (x1 = 8 : Prop) then
          (zthI (zck 12 W a0 (ev_ G 127 0 [.ref a0, .int x2, .int x3, .int x4] [] W))
            (fun t18 W17 =>
           some (.inl (some (.int t18)), W17))
            (fun E W9 => if E = 0 then some (.inl (some (.int (-3000000))), W9) else if E = 1 then some (.inl (some (.int (-2000000))), W9) else if E = 2 then some (.inl (some (.int (-1000000))), W9) else none))
         else
          if (x1 = 9 : Prop) then
           (if (x3 = 1 : Prop) then
             (ev_ G 207 166 [.ref a0, .int x1, .int x2, .int x3, .int x4, .int x5, .int x6, zU] [.int 1, .int x2, .ref a0] W)
            else
             ev_ G 207 166 [.ref a0, .int x1, .int x2, .int x3, .int x4, .int x5, .int x6, zU] [.int 0, .int x2, .ref a0] W)
          else
           if (x1 = 10 : Prop) then
            (zthI (zck 12 W a0 (ev_ G 138 0 [.ref a0, .int x2, .int x3, zU] [] W))
              (fun t20 W19 =>
             some (.inl (some (.int t20)), W19))
              (fun E W9 => if E = 0 then some (.inl (some (.int (-3000000))), W9) else if E = 1 then some (.inl (some (.int (-2000000))), W9) else if E = 2 then some (.inl (some (.int (-1000000))), W9) else none))
           else
            if (x1 = 11 : Prop) then
             (zthI (zck 12 W a0 (ev_ G 143 0 [.ref a0] [] W))
               (fun t22 W21 =>
              some (.inl (some (.int t22)), W21))
               (fun E W9 => if E = 0 then some (.inl (some (.int (-3000000))), W9) else if E = 1 then some (.inl (some (.int (-2000000))), W9) else if E = 2 then some (.inl (some (.int (-1000000))), W9) else none))
            else
             if (x1 = 12 : Prop) then
              (zthI (zck 12 W a0 (ev_ G 151 0 [.ref a0, .int x2, .int x3, .int x4, zU, zU, zU] [] W))
                (fun t24 W23 =>
               some (.inl (some (.int t24)), W23))
                (fun E W9 => if E = 0 then some (.inl (some (.int (-3000000))), W9) else if E = 1 then some (.inl (some (.int (-2000000))), W9) else if E = 2 then some (.inl (some (.int (-1000000))), W9) else none))
             else
              if (x1 = 13 : Prop) then
               (zthI (ev_ G 208 0 [.ref a0, .int x2, .int x3, .int x4, .int x5] [] W)
                 (fun t26 W25 =>
                some (.inl (some (.int t26)), W25))
                 (fun E W9 => if E = 0 then some (.inl (some (.int (-3000000))), W9) else if E = 1 then some (.inl (some (.int (-2000000))), W9) else if E = 2 then some (.inl (some (.int (-1000000))), W9) else none))
              else
               if (x1 = 14 : Prop) then
                (zthI (zck 12 W a0 (ev_ G 167 0 [.ref a0, .int x2, zU] [] W))
                  (fun t28 W27 =>
                 some (.inl (some (.int t28)), W27))
                  (fun E W9 => if E = 0 then some (.inl (some (.int (-3000000))), W9) else if E = 1 then some (.inl (some (.int (-2000000))), W9) else if E = 2 then some (.inl (some (.int (-1000000))), W9) else none))
               else
                if (x1 = 15 : Prop) then
                 (zthI (ev_ G 209 0 [.ref a0, .int x2, .int x3] [] W)
                   (fun t30 W29 =>
                  some (.inl (some (.int t30)), W29))
                   (fun E W9 => if E = 0 then some (.inl (some (.int (-3000000))), W9) else if E = 1 then some (.inl (some (.int (-2000000))), W9) else if E = 2 then some (.inl (some (.int (-1000000))), W9) else none))
                else
                 if (x1 = 16 : Prop) then
                  (if (x3 = 1 : Prop) then
                    (ev_ G 207 283 [.ref a0, .int x1, .int x2, .int x3, .int x4, .int x5, .int x6, zU] [.int 1, .int x2, .ref a0] W)
                   else
                    ev_ G 207 283 [.ref a0, .int x1, .int x2, .int x3, .int x4, .int x5, .int x6, zU] [.int 0, .int x2, .ref a0] W)
                 else
                  if (x1 = 17 : Prop) then
                   (zthI (zck 12 W a0 (ev_ G 181 0 [.ref a0, .int x2, zU] [] W))
                     (fun t32 W31 =>
                    some (.inl (some (.int t32)), W31))
                     (fun E W9 => if E = 0 then some (.inl (some (.int (-3000000))), W9) else if E = 1 then some (.inl (some (.int (-2000000))), W9) else if E = 2 then some (.inl (some (.int (-1000000))), W9) else none))
                  else
                   if (x1 = 18 : Prop) then
                    (zthI (zck 12 W a0 (ev_ G 186 0 [.ref a0, .int x2, .int x3, .int x4, zU, zU, zU] [] W))
                      (fun t34 W33 =>
                     some (.inl (some (.int t34)), W33))
                      (fun E W9 => if E = 0 then some (.inl (some (.int (-3000000))), W9) else if E = 1 then some (.inl (some (.int (-2000000))), W9) else if E = 2 then some (.inl (some (.int (-1000000))), W9) else none))
                   else
                    if (x1 = 19 : Prop) then
                     (zthI (zck 12 W a0 (ev_ G 189 0 [.ref a0, .int x2, zU] [] W))
                       (fun t36 W35 =>
                      some (.inl (some (.int t36)), W35))
                       (fun E W9 => if E = 0 then some (.inl (some (.int (-3000000))), W9) else if E = 1 then some (.inl (some (.int (-2000000))), W9) else if E = 2 then some (.inl (some (.int (-1000000))), W9) else none))
                    else
                     if (x1 = 20 : Prop) then
                      (zthI (zck 12 W a0 (ev_ G 192 0 [.ref a0, .int x2] [] W))
                        (fun t38 W37 =>
                       some (.inl (some (.int t38)), W37))
                        (fun E W9 => if E = 0 then some (.inl (some (.int (-3000000))), W9) else if E = 1 then some (.inl (some (.int (-2000000))), W9) else if E = 2 then some (.inl (some (.int (-1000000))), W9) else none))
                     else
                      if (x1 = 21 : Prop) then
                       (zthI (zck 12 W a0 (ev_ G 195 0 [.ref a0, .int x2, .int x3, .int x4, zU] [] W))
                         (fun t40 W39 =>
                        some (.inl (some (.int t40)), W39))
                         (fun E W9 => if E = 0 then some (.inl (some (.int (-3000000))), W9) else if E = 1 then some (.inl (some (.int (-2000000))), W9) else if E = 2 then some (.inl (some (.int (-1000000))), W9) else none))
                      else
                       zthI (zck 12 W a0 (ev_ G 202 0 [.ref a0, .int x2, zU, zU, zU] [] W))
                        (fun t42 W41 =>
                       some (.inl (some (.int t42)), W41))
                        (fun E W9 => if E = 0 then some (.inl (some (.int (-3000000))), W9) else if E = 1 then some (.inl (some (.int (-2000000))), W9) else if E = 2 then some (.inl (some (.int (-1000000))), W9) else none) :=
 (zx_st (zh_L_does G) [166, 283] 400 0 _ _ _).trans rfl
set_option maxRecDepth 100000 in
theorem q_L_does_166 (G : Nat × Nat) (a0 : Nat) (x1 : Int32) (x2 : Int32) (x3 : Int32) (x4 : Int32) (x5 : Int32) (x6 : Int32) (a_0 : Nat) (x_1 : Int32) (x_2 : Int32) (W : zW) : ev_ G 207 166 [.ref a0, .int x1, .int x2, .int x3, .int x4, .int x5, .int x6, zU] [.int x_2, .int x_1, .ref a_0] W =
 zthI (zck 12 W a_0 (ev_ G 133 0 [.ref a_0, .int x_1, .int x_2, zU] [] W))
  (fun t2 W1 =>
 some (.inl (some (.int t2)), W1))
  (fun E W9 => if E = 0 then some (.inl (some (.int (-3000000))), W9) else if E = 1 then some (.inl (some (.int (-2000000))), W9) else if E = 2 then some (.inl (some (.int (-1000000))), W9) else none) :=
 (zx_st (zh_L_does G) [166, 283] 400 166 _ _ _).trans rfl
set_option maxRecDepth 100000 in
theorem q_L_does_283 (G : Nat × Nat) (a0 : Nat) (x1 : Int32) (x2 : Int32) (x3 : Int32) (x4 : Int32) (x5 : Int32) (x6 : Int32) (a_0 : Nat) (x_1 : Int32) (x_2 : Int32) (W : zW) : ev_ G 207 283 [.ref a0, .int x1, .int x2, .int x3, .int x4, .int x5, .int x6, zU] [.int x_2, .int x_1, .ref a_0] W =
 zthI (zck 12 W a_0 (ev_ G 176 0 [.ref a_0, .int x_1, .int x_2] [] W))
  (fun t2 W1 =>
 some (.inl (some (.int t2)), W1))
  (fun E W9 => if E = 0 then some (.inl (some (.int (-3000000))), W9) else if E = 1 then some (.inl (some (.int (-2000000))), W9) else if E = 2 then some (.inl (some (.int (-1000000))), W9) else none) :=
 (zx_st (zh_L_does G) [166, 283] 400 283 _ _ _).trans rfl
set_option maxRecDepth 100000 in
theorem q_L_part_0 (G : Nat × Nat) (a0 : Nat) (x1 : Int32) (x2 : Int32) (W : zW) : ev_ G 206 0 [.ref a0, .int x1, .int x2, zU] [] W =
 (zlen W a0).bind fun t1 =>
 if (t1 ≤ x1 : Prop) then
  (if x2 = 0 then none else
   some (.inl (some (.int (((((983 * x1) + ((853 * x1) * x1)) &&& 2147483647) - (((983 * x1) + ((853 * x1) * x1)) &&& 2147483647) / x2 * x2)))), W))
 else
  (zld false W a0 x1).bind fun t2 =>
  if x2 = 0 then none else
  some (.inl (some (.int ((t2 &&& 2147483647) - (t2 &&& 2147483647) / x2 * x2))), W) :=
 (zx_st (zh_L_part G) [] 400 0 _ _ _).trans rfl
set_option maxRecDepth 100000 in
theorem q_L_wrong_0 (G : Nat × Nat) (a0 : Nat) (a1 : Nat) (W : zW) : ev_ G 212 0 [.ref a0, .ref a1, zU, zU, zU] [] W =
 ev_ G 212 4 [.ref a0, .ref a1, .int 0, .int 0, zU] [] W :=
 (zx_st (zh_L_wrong G) [4, 16] 400 0 _ _ _).trans rfl
set_option maxRecDepth 100000 in
theorem q_L_wrong_4 (G : Nat × Nat) (a0 : Nat) (a1 : Nat) (x2 : Int32) (x3 : Int32) (u4 : Value) (W : zW) : ev_ G 212 4 [.ref a0, .ref a1, .int x2, .int x3, u4] [] W =
 (zld false W a1 1).bind fun t1 =>
 if (t1 ≤ x3 : Prop) then
  (some (.inl (some (.int x2)), W))
 else
  ev_ G 212 16 [.ref a0, .ref a1, .int x2, .int x3, .int (x3 + 1)] [] W :=
 (zx_st (zh_L_wrong G) [4, 16] 400 4 _ _ _).trans rfl
set_option maxRecDepth 100000 in
theorem q_L_wrong_16 (G : Nat × Nat) (a0 : Nat) (a1 : Nat) (x2 : Int32) (x3 : Int32) (x4 : Int32) (W : zW) : ev_ G 212 16 [.ref a0, .ref a1, .int x2, .int x3, .int x4] [] W =
 (zld false W a1 1).bind fun t1 =>
 if (t1 ≤ x4 : Prop) then
  (ev_ G 212 4 [.ref a0, .ref a1, .int x2, .int (x3 + 1), .int x4] [] W)
 else
  (zld false W a0 x3).bind fun t2 =>
  if 8 = 0 then none else
  if 256 = 0 then none else
  (zld false W a0 x4).bind fun t3 =>
  if 8 = 0 then none else
  if 256 = 0 then none else
  if (((t2 / 8) - (t2 / 8) / 256 * 256) = ((t3 / 8) - (t3 / 8) / 256 * 256) : Prop) then
   ((zld false W a0 x3).bind fun t4 =>
    if 2048 = 0 then none else
    if (((t4 / 2048) - 1) = x4 : Prop) then
     (ev_ G 212 16 [.ref a0, .ref a1, .int (x2 + 0), .int x3, .int (x4 + 1)] [] W)
    else
     ev_ G 212 16 [.ref a0, .ref a1, .int (x2 + 1), .int x3, .int (x4 + 1)] [] W)
  else
   ev_ G 212 16 [.ref a0, .ref a1, .int (x2 + 0), .int x3, .int (x4 + 1)] [] W :=
 (zx_st (zh_L_wrong G) [4, 16] 400 16 _ _ _).trans rfl
set_option maxRecDepth 100000 in
theorem q_L_way_0 (G : Nat × Nat) (a0 : Nat) (a1 : Nat) (a2 : Nat) (x3 : Int32) (x4 : Int32) (a5 : Nat) (W : zW) : ev_ G 210 0 [.ref a0, .ref a1, .ref a2, .int x3, .int x4, .ref a5, zU, zU, zU, zU, zU, zU, zU, zU, zU, zU] [] W =
 if zbad 9 then none else
 if zbad 9 then none else
 if zbad 9 then none else
 (zsto 0 (znai 0 9 (znai 0 9 (znai 0 9 W))) W.1 0 x3).bind fun W1 =>
 ev_ G 210 29 [.ref a0, .ref a1, .ref a2, .int x3, .int x4, .ref a5, .ref W.1, .ref ((znai 0 9 W).1), .ref ((znai 0 9 (znai 0 9 W)).1), .int (-1), .int 0, zU, zU, zU, zU, zU] [] W1 :=
 (zx_st (zh_L_way G) [29, 76, 112, 151, 224, 248] 400 0 _ _ _).trans rfl
set_option maxRecDepth 100000 in
theorem q_L_way_29 (G : Nat × Nat) (a0 : Nat) (a1 : Nat) (a2 : Nat) (x3 : Int32) (x4 : Int32) (a5 : Nat) (a6 : Nat) (a7 : Nat) (a8 : Nat) (x9 : Int32) (x10 : Int32) (u11 : Value) (u12 : Value) (u13 : Value) (u14 : Value) (u15 : Value) (W : zW) : ev_ G 210 29 [.ref a0, .ref a1, .ref a2, .int x3, .int x4, .ref a5, .ref a6, .ref a7, .ref a8, .int x9, .int x10, u11, u12, u13, u14, u15] [] W =
 if x10 < 0 then
  (some (.inl (some (.int x9)), W))
 else
  (zld false W a8 x10).bind fun t1 =>
  (zld false W a6 x10).bind fun t2 =>
  if (t2 = x4 : Prop) then
   (if x9 < 0 then
     (ev_ G 210 76 [.ref a0, .ref a1, .ref a2, .int x3, .int x4, .ref a5, .ref a6, .ref a7, .ref a8, .int ((t1 * 8) + x10), .int x10, .int ((t1 * 8) + x10), .int 0, u13, u14, u15] [] W)
    else
     if (x9 ≤ ((t1 * 8) + x10) : Prop) then
      (ev_ G 210 112 [.ref a0, .ref a1, .ref a2, .int x3, .int x4, .ref a5, .ref a6, .ref a7, .ref a8, .int x9, .int x10, .int ((t1 * 8) + x10), u12, u13, u14, u15] [] W)
     else
      ev_ G 210 76 [.ref a0, .ref a1, .ref a2, .int x3, .int x4, .ref a5, .ref a6, .ref a7, .ref a8, .int ((t1 * 8) + x10), .int x10, .int ((t1 * 8) + x10), .int 0, u13, u14, u15] [] W)
  else
   ev_ G 210 112 [.ref a0, .ref a1, .ref a2, .int x3, .int x4, .ref a5, .ref a6, .ref a7, .ref a8, .int x9, .int x10, .int ((t1 * 8) + x10), u12, u13, u14, u15] [] W :=
 (zx_st (zh_L_way G) [29, 76, 112, 151, 224, 248] 400 29 _ _ _).trans rfl
set_option maxRecDepth 100000 in
theorem q_L_way_76 (G : Nat × Nat) (a0 : Nat) (a1 : Nat) (a2 : Nat) (x3 : Int32) (x4 : Int32) (a5 : Nat) (a6 : Nat) (a7 : Nat) (a8 : Nat) (x9 : Int32) (x10 : Int32) (x11 : Int32) (x12 : Int32) (u13 : Value) (u14 : Value) (u15 : Value) (W : zW) : ev_ G 210 76 [.ref a0, .ref a1, .ref a2, .int x3, .int x4, .ref a5, .ref a6, .ref a7, .ref a8, .int x9, .int x10, .int x11, .int x12, u13, u14, u15] [] W =
 if (8 ≤ x12 : Prop) then
  (ev_ G 210 112 [.ref a0, .ref a1, .ref a2, .int x3, .int x4, .ref a5, .ref a6, .ref a7, .ref a8, .int x9, .int x10, .int x11, .int x12, u13, u14, u15] [] W)
 else
  if (x10 ≤ x12 : Prop) then
   ((zsto 0 W a5 x12 (-1)).bind fun W1 =>
    ev_ G 210 76 [.ref a0, .ref a1, .ref a2, .int x3, .int x4, .ref a5, .ref a6, .ref a7, .ref a8, .int x9, .int x10, .int x11, .int (x12 + 1), u13, u14, u15] [] W1)
  else
   (zld false W a7 x12).bind fun t2 =>
   (zsto 0 W a5 x12 (t2 - 1)).bind fun W3 =>
   ev_ G 210 76 [.ref a0, .ref a1, .ref a2, .int x3, .int x4, .ref a5, .ref a6, .ref a7, .ref a8, .int x9, .int x10, .int x11, .int (x12 + 1), u13, u14, u15] [] W3 :=
 (zx_st (zh_L_way G) [29, 76, 112, 151, 224, 248] 400 76 _ _ _).trans rfl
set_option maxRecDepth 100000 in
theorem q_L_way_112 (G : Nat × Nat) (a0 : Nat) (a1 : Nat) (a2 : Nat) (x3 : Int32) (x4 : Int32) (a5 : Nat) (a6 : Nat) (a7 : Nat) (a8 : Nat) (x9 : Int32) (x10 : Int32) (x11 : Int32) (u12 : Value) (u13 : Value) (u14 : Value) (u15 : Value) (W : zW) : ev_ G 210 112 [.ref a0, .ref a1, .ref a2, .int x3, .int x4, .ref a5, .ref a6, .ref a7, .ref a8, .int x9, .int x10, .int x11, u12, u13, u14, u15] [] W =
 (zld false W a6 x10).bind fun t1 =>
 if (t1 = x4 : Prop) then
  (ev_ G 210 29 [.ref a0, .ref a1, .ref a2, .int x3, .int x4, .ref a5, .ref a6, .ref a7, .ref a8, .int x9, .int (x10 + (-1)), .int x11, u12, u13, u14, u15] [] W)
 else
  (zld false W a7 x10).bind fun t2 =>
  (zld false W a2 0).bind fun t3 =>
  if (t2 = t3 : Prop) then
   (ev_ G 210 29 [.ref a0, .ref a1, .ref a2, .int x3, .int x4, .ref a5, .ref a6, .ref a7, .ref a8, .int x9, .int (x10 + (-1)), .int x11, u12, u13, u14, u15] [] W)
  else
   if x9 < 0 then
    (ev_ G 210 151 [.ref a0, .ref a1, .ref a2, .int x3, .int x4, .ref a5, .ref a6, .ref a7, .ref a8, .int x9, .int x10, .int x11, u12, u13, u14, u15] [] W)
   else
    if (x11 < x9 : Prop) then
     (ev_ G 210 151 [.ref a0, .ref a1, .ref a2, .int x3, .int x4, .ref a5, .ref a6, .ref a7, .ref a8, .int x9, .int x10, .int x11, u12, u13, u14, u15] [] W)
    else
     ev_ G 210 29 [.ref a0, .ref a1, .ref a2, .int x3, .int x4, .ref a5, .ref a6, .ref a7, .ref a8, .int x9, .int (x10 + (-1)), .int x11, u12, u13, u14, u15] [] W :=
 (zx_st (zh_L_way G) [29, 76, 112, 151, 224, 248] 400 112 _ _ _).trans rfl
set_option maxRecDepth 100000 in
theorem q_L_way_151 (G : Nat × Nat) (a0 : Nat) (a1 : Nat) (a2 : Nat) (x3 : Int32) (x4 : Int32) (a5 : Nat) (a6 : Nat) (a7 : Nat) (a8 : Nat) (x9 : Int32) (x10 : Int32) (x11 : Int32) (u12 : Value) (u13 : Value) (u14 : Value) (u15 : Value) (W : zW) : ev_ G 210 151 [.ref a0, .ref a1, .ref a2, .int x3, .int x4, .ref a5, .ref a6, .ref a7, .ref a8, .int x9, .int x10, .int x11, u12, u13, u14, u15] [] W =
 (zld false W a7 x10).bind fun t1 =>
 (zld false W a7 x10).bind fun t2 =>
 (zsto 0 W a7 x10 (t2 + 1)).bind fun W3 =>
 (zld false W3 a0 t1).bind fun t4 =>
 if 8 = 0 then none else
 (zld false W3 a6 x10).bind fun t5 =>
 if ((t4 - t4 / 8 * 8) = t5 : Prop) then
  ((zld false W3 a0 t1).bind fun t6 =>
   if 8 = 0 then none else
   if 8 = 0 then none else
   ev_ G 210 224 [.ref a0, .ref a1, .ref a2, .int x3, .int x4, .ref a5, .ref a6, .ref a7, .ref a8, .int x9, .int x10, .int x11, .int t1, u13, u14, u15] [.int ((t6 / 8) - (t6 / 8) / 8 * 8)] W3)
 else
  (zld false W3 a0 t1).bind fun t7 =>
  if 8 = 0 then none else
  if 8 = 0 then none else
  (zld false W3 a6 x10).bind fun t8 =>
  if (((t7 / 8) - (t7 / 8) / 8 * 8) = t8 : Prop) then
   ((zld false W3 a0 t1).bind fun t9 =>
    if 8 = 0 then none else
    ev_ G 210 224 [.ref a0, .ref a1, .ref a2, .int x3, .int x4, .ref a5, .ref a6, .ref a7, .ref a8, .int x9, .int x10, .int x11, .int t1, u13, u14, u15] [.int (t9 - t9 / 8 * 8)] W3)
  else
   ev_ G 210 224 [.ref a0, .ref a1, .ref a2, .int x3, .int x4, .ref a5, .ref a6, .ref a7, .ref a8, .int x9, .int x10, .int x11, .int t1, u13, u14, u15] [.int (-1)] W3 :=
 (zx_st (zh_L_way G) [29, 76, 112, 151, 224, 248] 400 151 _ _ _).trans rfl
set_option maxRecDepth 100000 in
theorem q_L_way_224 (G : Nat × Nat) (a0 : Nat) (a1 : Nat) (a2 : Nat) (x3 : Int32) (x4 : Int32) (a5 : Nat) (a6 : Nat) (a7 : Nat) (a8 : Nat) (x9 : Int32) (x10 : Int32) (x11 : Int32) (x12 : Int32) (u13 : Value) (u14 : Value) (u15 : Value) (x_0 : Int32) (W : zW) : ev_ G 210 224 [.ref a0, .ref a1, .ref a2, .int x3, .int x4, .ref a5, .ref a6, .ref a7, .ref a8, .int x9, .int x10, .int x11, .int x12, u13, u14, u15] [.int x_0] W =
 if x_0 < 0 then
  (ev_ G 210 248 [.ref a0, .ref a1, .ref a2, .int x3, .int x4, .ref a5, .ref a6, .ref a7, .ref a8, .int x9, .int x10, .int x11, .int x12, .int x_0, .int 0, .int 0] [] W)
 else
  (zld false W a1 x12).bind fun t1 =>
  if t1 ≤ 0 then
   (ev_ G 210 248 [.ref a0, .ref a1, .ref a2, .int x3, .int x4, .ref a5, .ref a6, .ref a7, .ref a8, .int x9, .int x10, .int x11, .int x12, .int x_0, .int 0, .int 0] [] W)
  else
   ev_ G 210 248 [.ref a0, .ref a1, .ref a2, .int x3, .int x4, .ref a5, .ref a6, .ref a7, .ref a8, .int x9, .int x10, .int x11, .int x12, .int x_0, .int 1, .int 0] [] W :=
 (zx_st (zh_L_way G) [29, 76, 112, 151, 224, 248] 400 224 _ _ _).trans rfl
set_option maxRecDepth 100000 in
theorem q_L_way_248 (G : Nat × Nat) (a0 : Nat) (a1 : Nat) (a2 : Nat) (x3 : Int32) (x4 : Int32) (a5 : Nat) (a6 : Nat) (a7 : Nat) (a8 : Nat) (x9 : Int32) (x10 : Int32) (x11 : Int32) (x12 : Int32) (x13 : Int32) (x14 : Int32) (x15 : Int32) (W : zW) : ev_ G 210 248 [.ref a0, .ref a1, .ref a2, .int x3, .int x4, .ref a5, .ref a6, .ref a7, .ref a8, .int x9, .int x10, .int x11, .int x12, .int x13, .int x14, .int x15] [] W =
 if (x10 < x15 : Prop) then
  (if x14 = 0 then
    (ev_ G 210 29 [.ref a0, .ref a1, .ref a2, .int x3, .int x4, .ref a5, .ref a6, .ref a7, .ref a8, .int x9, .int x10, .int x11, .int x12, .int x13, .int x14, .int x15] [] W)
   else
    (zld false W a8 x10).bind fun t1 =>
    (zld false W a0 x12).bind fun t2 =>
    if 64 = 0 then none else
    (zsto 0 W a8 (x10 + 1) (t1 + (t2 / 64))).bind fun W3 =>
    (zsto 0 W3 a6 (x10 + 1) x13).bind fun W4 =>
    (zsto 0 W4 a7 (x10 + 1) 0).bind fun W5 =>
    ev_ G 210 29 [.ref a0, .ref a1, .ref a2, .int x3, .int x4, .ref a5, .ref a6, .ref a7, .ref a8, .int x9, .int (x10 + 1), .int x11, .int x12, .int x13, .int x14, .int x15] [] W5)
 else
  if x14 = 0 then
   (ev_ G 210 248 [.ref a0, .ref a1, .ref a2, .int x3, .int x4, .ref a5, .ref a6, .ref a7, .ref a8, .int x9, .int x10, .int x11, .int x12, .int x13, .int 0, .int (x15 + 1)] [] W)
  else
   (zld false W a6 x15).bind fun t6 =>
   if (t6 = x13 : Prop) then
    (ev_ G 210 248 [.ref a0, .ref a1, .ref a2, .int x3, .int x4, .ref a5, .ref a6, .ref a7, .ref a8, .int x9, .int x10, .int x11, .int x12, .int x13, .int 0, .int (x15 + 1)] [] W)
   else
    ev_ G 210 248 [.ref a0, .ref a1, .ref a2, .int x3, .int x4, .ref a5, .ref a6, .ref a7, .ref a8, .int x9, .int x10, .int x11, .int x12, .int x13, .int 1, .int (x15 + 1)] [] W :=
 (zx_st (zh_L_way G) [29, 76, 112, 151, 224, 248] 400 248 _ _ _).trans rfl
set_option maxRecDepth 100000 in
theorem q_L_isHarness_0 (G : Nat × Nat) (a0 : Nat) (a1 : Nat) (a2 : Nat) (a3 : Nat) (a4 : Nat) (a5 : Nat) (a6 : Nat) (x7 : Int32) (x8 : Int32) (x9 : Int32) (W : zW) : ev_ G 218 0 [.ref a0, .ref a1, .ref a2, .ref a3, .ref a4, .ref a5, .ref a6, .int x7, .int x8, .int x9, zU, zU, zU, zU, zU, zU, zU, zU, zU, zU, zU, zU, zU, zU] [] W =
 if x7 = 0 then
  ((zld false W a6 0).bind fun t1 =>
   if (16 ≤ t1 : Prop) then
    (ev_ G 218 263 [.ref a0, .ref a1, .ref a2, .ref a3, .ref a4, .ref a5, .ref a6, .int x7, .int x8, .int x9, zU, zU, zU, zU, zU, zU, zU, zU, zU, zU, zU, zU, zU, zU] [] W)
   else
    if 9 = 0 then none else
    if 9 = 0 then none else
    if 9 = 0 then none else
    if 9 = 0 then none else
    if ((x8 / 9) - (x8 / 9) / 9 * 9) = 0 then
     (if 81 = 0 then none else
      if 1001 = 0 then none else
      ev_ G 218 61 [.ref a0, .ref a1, .ref a2, .ref a3, .ref a4, .ref a5, .ref a6, .int x7, .int x8, .int x9, .int (x8 - x8 / 9 * 9), .int (x9 - x9 / 9 * 9), zU, zU, zU, zU, zU, zU, zU, zU, zU, zU, zU, zU] [.int ((x8 / 81) - (x8 / 81) / 1001 * 1001)] W)
    else
     if 81 = 0 then none else
     if 12 = 0 then none else
     ev_ G 218 61 [.ref a0, .ref a1, .ref a2, .ref a3, .ref a4, .ref a5, .ref a6, .int x7, .int x8, .int x9, .int (x8 - x8 / 9 * 9), .int (x9 - x9 / 9 * 9), zU, zU, zU, zU, zU, zU, zU, zU, zU, zU, zU, zU] [.int ((1 + ((x8 / 81) - (x8 / 81) / 12 * 12)))] W)
 else
  ev_ G 218 263 [.ref a0, .ref a1, .ref a2, .ref a3, .ref a4, .ref a5, .ref a6, .int x7, .int x8, .int x9, zU, zU, zU, zU, zU, zU, zU, zU, zU, zU, zU, zU, zU, zU] [] W :=
 (zx_st (zh_L_isHarness G) [61, 94, 115, 154, 171, 214, 263, 316, 341, 367, 386, 422, 472, 517, 569, 606, 750, 771, 799, 943, 1005, 1049, 1078, 1110, 1163, 1188, 1215, 1250, 1277] 400 0 _ _ _).trans rfl
set_option maxRecDepth 100000 in
theorem q_L_isHarness_61 (G : Nat × Nat) (a0 : Nat) (a1 : Nat) (a2 : Nat) (a3 : Nat) (a4 : Nat) (a5 : Nat) (a6 : Nat) (x7 : Int32) (x8 : Int32) (x9 : Int32) (x10 : Int32) (x11 : Int32) (x_0 : Int32) (W : zW) : ev_ G 218 61 [.ref a0, .ref a1, .ref a2, .ref a3, .ref a4, .ref a5, .ref a6, .int x7, .int x8, .int x9, .int x10, .int x11, zU, zU, zU, zU, zU, zU, zU, zU, zU, zU, zU, zU] [.int x_0] W =
 if 9 = 0 then none else
 if 9 = 0 then none else
 if ((x9 / 9) - (x9 / 9) / 9 * 9) = 0 then
  (if 81 = 0 then none else
   if 26 = 0 then none else
   ev_ G 218 94 [.ref a0, .ref a1, .ref a2, .ref a3, .ref a4, .ref a5, .ref a6, .int x7, .int x8, .int x9, .int x10, .int x11, .int x_0, zU, zU, zU, zU, zU, zU, zU, zU, zU, zU, zU] [.int ((x9 / 81) - (x9 / 81) / 26 * 26)] W)
 else
  if 81 = 0 then none else
  if 3 = 0 then none else
  ev_ G 218 94 [.ref a0, .ref a1, .ref a2, .ref a3, .ref a4, .ref a5, .ref a6, .int x7, .int x8, .int x9, .int x10, .int x11, .int x_0, zU, zU, zU, zU, zU, zU, zU, zU, zU, zU, zU] [.int ((1 + ((x9 / 81) - (x9 / 81) / 3 * 3)))] W :=
 (zx_st (zh_L_isHarness G) [61, 94, 115, 154, 171, 214, 263, 316, 341, 367, 386, 422, 472, 517, 569, 606, 750, 771, 799, 943, 1005, 1049, 1078, 1110, 1163, 1188, 1215, 1250, 1277] 400 61 _ _ _).trans rfl
set_option maxRecDepth 100000 in
theorem q_L_isHarness_94 (G : Nat × Nat) (a0 : Nat) (a1 : Nat) (a2 : Nat) (a3 : Nat) (a4 : Nat) (a5 : Nat) (a6 : Nat) (x7 : Int32) (x8 : Int32) (x9 : Int32) (x10 : Int32) (x11 : Int32) (x12 : Int32) (x_0 : Int32) (W : zW) : ev_ G 218 94 [.ref a0, .ref a1, .ref a2, .ref a3, .ref a4, .ref a5, .ref a6, .int x7, .int x8, .int x9, .int x10, .int x11, .int x12, zU, zU, zU, zU, zU, zU, zU, zU, zU, zU, zU] [.int x_0] W =
 if (8 ≤ x10 : Prop) then
  (ev_ G 218 115 [.ref a0, .ref a1, .ref a2, .ref a3, .ref a4, .ref a5, .ref a6, .int x7, .int x8, .int x9, .int x10, .int x11, .int x12, .int x_0, zU, zU, zU, zU, zU, zU, zU, zU, zU, zU] [.int 0] W)
 else
  if (8 ≤ x11 : Prop) then
   (ev_ G 218 115 [.ref a0, .ref a1, .ref a2, .ref a3, .ref a4, .ref a5, .ref a6, .int x7, .int x8, .int x9, .int x10, .int x11, .int x12, .int x_0, zU, zU, zU, zU, zU, zU, zU, zU, zU, zU] [.int 0] W)
  else
   ev_ G 218 115 [.ref a0, .ref a1, .ref a2, .ref a3, .ref a4, .ref a5, .ref a6, .int x7, .int x8, .int x9, .int x10, .int x11, .int x12, .int x_0, zU, zU, zU, zU, zU, zU, zU, zU, zU, zU] [.int 1] W :=
 (zx_st (zh_L_isHarness G) [61, 94, 115, 154, 171, 214, 263, 316, 341, 367, 386, 422, 472, 517, 569, 606, 750, 771, 799, 943, 1005, 1049, 1078, 1110, 1163, 1188, 1215, 1250, 1277] 400 94 _ _ _).trans rfl
set_option maxRecDepth 100000 in
theorem q_L_isHarness_115 (G : Nat × Nat) (a0 : Nat) (a1 : Nat) (a2 : Nat) (a3 : Nat) (a4 : Nat) (a5 : Nat) (a6 : Nat) (x7 : Int32) (x8 : Int32) (x9 : Int32) (x10 : Int32) (x11 : Int32) (x12 : Int32) (x13 : Int32) (x_0 : Int32) (W : zW) : ev_ G 218 115 [.ref a0, .ref a1, .ref a2, .ref a3, .ref a4, .ref a5, .ref a6, .int x7, .int x8, .int x9, .int x10, .int x11, .int x12, .int x13, zU, zU, zU, zU, zU, zU, zU, zU, zU, zU] [.int x_0] W =
 if (x10 = x11 : Prop) then
  (ev_ G 218 154 [.ref a0, .ref a1, .ref a2, .ref a3, .ref a4, .ref a5, .ref a6, .int x7, .int x8, .int x9, .int x10, .int x11, .int x12, .int x13, .int x_0, zU, zU, zU, zU, zU, zU, zU, zU, zU] [.int 0] W)
 else
  if x12 ≤ 0 then
   (ev_ G 218 154 [.ref a0, .ref a1, .ref a2, .ref a3, .ref a4, .ref a5, .ref a6, .int x7, .int x8, .int x9, .int x10, .int x11, .int x12, .int x13, .int x_0, zU, zU, zU, zU, zU, zU, zU, zU, zU] [.int 0] W)
  else
   if (1000 ≤ x12 : Prop) then
    (ev_ G 218 154 [.ref a0, .ref a1, .ref a2, .ref a3, .ref a4, .ref a5, .ref a6, .int x7, .int x8, .int x9, .int x10, .int x11, .int x12, .int x13, .int x_0, zU, zU, zU, zU, zU, zU, zU, zU, zU] [.int 0] W)
   else
    if x13 ≤ 0 then
     (ev_ G 218 154 [.ref a0, .ref a1, .ref a2, .ref a3, .ref a4, .ref a5, .ref a6, .int x7, .int x8, .int x9, .int x10, .int x11, .int x12, .int x13, .int x_0, zU, zU, zU, zU, zU, zU, zU, zU, zU] [.int 0] W)
    else
     if (25 ≤ x13 : Prop) then
      (ev_ G 218 154 [.ref a0, .ref a1, .ref a2, .ref a3, .ref a4, .ref a5, .ref a6, .int x7, .int x8, .int x9, .int x10, .int x11, .int x12, .int x13, .int x_0, zU, zU, zU, zU, zU, zU, zU, zU, zU] [.int 0] W)
     else
      ev_ G 218 154 [.ref a0, .ref a1, .ref a2, .ref a3, .ref a4, .ref a5, .ref a6, .int x7, .int x8, .int x9, .int x10, .int x11, .int x12, .int x13, .int x_0, zU, zU, zU, zU, zU, zU, zU, zU, zU] [.int 1] W :=
 (zx_st (zh_L_isHarness G) [61, 94, 115, 154, 171, 214, 263, 316, 341, 367, 386, 422, 472, 517, 569, 606, 750, 771, 799, 943, 1005, 1049, 1078, 1110, 1163, 1188, 1215, 1250, 1277] 400 115 _ _ _).trans rfl
set_option maxRecDepth 100000 in
theorem q_L_isHarness_154 (G : Nat × Nat) (a0 : Nat) (a1 : Nat) (a2 : Nat) (a3 : Nat) (a4 : Nat) (a5 : Nat) (a6 : Nat) (x7 : Int32) (x8 : Int32) (x9 : Int32) (x10 : Int32) (x11 : Int32) (x12 : Int32) (x13 : Int32) (x14 : Int32) (x_0 : Int32) (W : zW) : ev_ G 218 154 [.ref a0, .ref a1, .ref a2, .ref a3, .ref a4, .ref a5, .ref a6, .int x7, .int x8, .int x9, .int x10, .int x11, .int x12, .int x13, .int x14, zU, zU, zU, zU, zU, zU, zU, zU, zU] [.int x_0] W =
 if x14 = 0 then
  (ev_ G 218 171 [.ref a0, .ref a1, .ref a2, .ref a3, .ref a4, .ref a5, .ref a6, .int x7, .int x8, .int x9, .int x10, .int x11, .int x12, .int x13, .int x14, .int x_0, zU, zU, zU, zU, zU, zU, zU, zU] [.int 0] W)
 else
  if x_0 = 0 then
   (ev_ G 218 171 [.ref a0, .ref a1, .ref a2, .ref a3, .ref a4, .ref a5, .ref a6, .int x7, .int x8, .int x9, .int x10, .int x11, .int x12, .int x13, .int x14, .int x_0, zU, zU, zU, zU, zU, zU, zU, zU] [.int 0] W)
  else
   ev_ G 218 171 [.ref a0, .ref a1, .ref a2, .ref a3, .ref a4, .ref a5, .ref a6, .int x7, .int x8, .int x9, .int x10, .int x11, .int x12, .int x13, .int x14, .int x_0, zU, zU, zU, zU, zU, zU, zU, zU] [.int 1] W :=
 (zx_st (zh_L_isHarness G) [61, 94, 115, 154, 171, 214, 263, 316, 341, 367, 386, 422, 472, 517, 569, 606, 750, 771, 799, 943, 1005, 1049, 1078, 1110, 1163, 1188, 1215, 1250, 1277] 400 154 _ _ _).trans rfl
set_option maxRecDepth 100000 in
theorem q_L_isHarness_171 (G : Nat × Nat) (a0 : Nat) (a1 : Nat) (a2 : Nat) (a3 : Nat) (a4 : Nat) (a5 : Nat) (a6 : Nat) (x7 : Int32) (x8 : Int32) (x9 : Int32) (x10 : Int32) (x11 : Int32) (x12 : Int32) (x13 : Int32) (x14 : Int32) (x15 : Int32) (x_0 : Int32) (W : zW) : ev_ G 218 171 [.ref a0, .ref a1, .ref a2, .ref a3, .ref a4, .ref a5, .ref a6, .int x7, .int x8, .int x9, .int x10, .int x11, .int x12, .int x13, .int x14, .int x15, zU, zU, zU, zU, zU, zU, zU, zU] [.int x_0] W =
 if x_0 = 0 then
  (ev_ G 218 214 [.ref a0, .ref a1, .ref a2, .ref a3, .ref a4, .ref a5, .ref a6, .int x7, .int x8, .int x9, .int x10, .int x11, .int x12, .int x13, .int x14, .int x15, .int x_0, zU, zU, zU, zU, zU, zU, zU] [] W)
 else
  (zld false W a6 0).bind fun t1 =>
  (zsto 0 W a1 t1 (((x10 + (8 * x11)) + (64 * x12)))).bind fun W2 =>
  (zld false W2 a6 0).bind fun t3 =>
  (zsto 0 W2 a2 t3 x13).bind fun W4 =>
  (zld false W4 a6 0).bind fun t5 =>
  (zsto 0 W4 a6 0 (t5 + 1)).bind fun W6 =>
  ev_ G 218 214 [.ref a0, .ref a1, .ref a2, .ref a3, .ref a4, .ref a5, .ref a6, .int x7, .int x8, .int x9, .int x10, .int x11, .int x12, .int x13, .int x14, .int x15, .int x_0, zU, zU, zU, zU, zU, zU, zU] [] W6 :=
 (zx_st (zh_L_isHarness G) [61, 94, 115, 154, 171, 214, 263, 316, 341, 367, 386, 422, 472, 517, 569, 606, 750, 771, 799, 943, 1005, 1049, 1078, 1110, 1163, 1188, 1215, 1250, 1277] 400 171 _ _ _).trans rfl
set_option maxRecDepth 100000 in
theorem q_L_isHarness_214 (G : Nat × Nat) (a0 : Nat) (a1 : Nat) (a2 : Nat) (a3 : Nat) (a4 : Nat) (a5 : Nat) (a6 : Nat) (x7 : Int32) (x8 : Int32) (x9 : Int32) (x10 : Int32) (x11 : Int32) (x12 : Int32) (x13 : Int32) (x14 : Int32) (x15 : Int32) (x16 : Int32) (W : zW) : ev_ G 218 214 [.ref a0, .ref a1, .ref a2, .ref a3, .ref a4, .ref a5, .ref a6, .int x7, .int x8, .int x9, .int x10, .int x11, .int x12, .int x13, .int x14, .int x15, .int x16, zU, zU, zU, zU, zU, zU, zU] [] W =
 zthI (ev_ G 207 0 [.ref a0, .int 0, .int x10, .int x11, .int x12, .int x13, .int 0, zU] [] W)
  (fun t2 W1 =>
 if x14 = 0 then
   (if (t2 = (-3000000) : Prop) then
     (if (1 : Int32) &&& 1 = 1 then some (.inl (some (.int 1)), W1) else none)
    else
     if (0 : Int32) &&& 1 = 0 then some (.inl (some (.int 0)), W1) else none)
  else
   if x16 = 0 then
    (if (t2 = (-2000000) : Prop) then
      (if (1 : Int32) &&& 1 = 1 then some (.inl (some (.int 1)), W1) else none)
     else
      if (0 : Int32) &&& 1 = 0 then some (.inl (some (.int 0)), W1) else none)
   else
    (zld false W1 a6 0).bind fun t3 =>
    if (t2 = (t3 - 1) : Prop) then
     (if (1 : Int32) &&& 1 = 1 then some (.inl (some (.int 1)), W1) else none)
    else
     if (0 : Int32) &&& 1 = 0 then some (.inl (some (.int 0)), W1) else none)
  zxe :=
 (zx_st (zh_L_isHarness G) [61, 94, 115, 154, 171, 214, 263, 316, 341, 367, 386, 422, 472, 517, 569, 606, 750, 771, 799, 943, 1005, 1049, 1078, 1110, 1163, 1188, 1215, 1250, 1277] 400 214 _ _ _).trans rfl
set_option maxRecDepth 100000 in
theorem q_L_isHarness_263 (G : Nat × Nat) (a0 : Nat) (a1 : Nat) (a2 : Nat) (a3 : Nat) (a4 : Nat) (a5 : Nat) (a6 : Nat) (x7 : Int32) (x8 : Int32) (x9 : Int32) (W : zW) : ev_ G 218 263 [.ref a0, .ref a1, .ref a2, .ref a3, .ref a4, .ref a5, .ref a6, .int x7, .int x8, .int x9, zU, zU, zU, zU, zU, zU, zU, zU, zU, zU, zU, zU, zU, zU] [] W =
 if (2 ≤ x7 : Prop) then
  (ev_ G 218 472 [.ref a0, .ref a1, .ref a2, .ref a3, .ref a4, .ref a5, .ref a6, .int x7, .int x8, .int x9, zU, zU, zU, zU, zU, zU, zU, zU, zU, zU, zU, zU, zU, zU] [] W)
 else
  (zld false W a6 1).bind fun t1 =>
  if (8 ≤ t1 : Prop) then
   (ev_ G 218 472 [.ref a0, .ref a1, .ref a2, .ref a3, .ref a4, .ref a5, .ref a6, .int x7, .int x8, .int x9, zU, zU, zU, zU, zU, zU, zU, zU, zU, zU, zU, zU, zU, zU] [] W)
  else
   if 9 = 0 then none else
   if 9 = 0 then none else
   if 9 = 0 then none else
   if ((x8 / 9) - (x8 / 9) / 9 * 9) = 0 then
    (if 81 = 0 then none else
     if 10 = 0 then none else
     ev_ G 218 316 [.ref a0, .ref a1, .ref a2, .ref a3, .ref a4, .ref a5, .ref a6, .int x7, .int x8, .int x9, .int (x8 - x8 / 9 * 9), zU, zU, zU, zU, zU, zU, zU, zU, zU, zU, zU, zU, zU] [.int ((x8 / 81) - (x8 / 81) / 10 * 10)] W)
   else
    if 9 = 0 then none else
    if 2 = 0 then none else
    ev_ G 218 316 [.ref a0, .ref a1, .ref a2, .ref a3, .ref a4, .ref a5, .ref a6, .int x7, .int x8, .int x9, .int (x8 - x8 / 9 * 9), zU, zU, zU, zU, zU, zU, zU, zU, zU, zU, zU, zU, zU] [.int ((4 + ((x8 / 9) - (x8 / 9) / 2 * 2)))] W :=
 (zx_st (zh_L_isHarness G) [61, 94, 115, 154, 171, 214, 263, 316, 341, 367, 386, 422, 472, 517, 569, 606, 750, 771, 799, 943, 1005, 1049, 1078, 1110, 1163, 1188, 1215, 1250, 1277] 400 263 _ _ _).trans rfl
set_option maxRecDepth 100000 in
theorem q_L_isHarness_316 (G : Nat × Nat) (a0 : Nat) (a1 : Nat) (a2 : Nat) (a3 : Nat) (a4 : Nat) (a5 : Nat) (a6 : Nat) (x7 : Int32) (x8 : Int32) (x9 : Int32) (x10 : Int32) (x_0 : Int32) (W : zW) : ev_ G 218 316 [.ref a0, .ref a1, .ref a2, .ref a3, .ref a4, .ref a5, .ref a6, .int x7, .int x8, .int x9, .int x10, zU, zU, zU, zU, zU, zU, zU, zU, zU, zU, zU, zU, zU] [.int x_0] W =
 if 9 = 0 then none else
 if (x9 - x9 / 9 * 9) = 0 then
  (if 9 = 0 then none else
   if 11 = 0 then none else
   ev_ G 218 341 [.ref a0, .ref a1, .ref a2, .ref a3, .ref a4, .ref a5, .ref a6, .int x7, .int x8, .int x9, .int x10, .int x_0, zU, zU, zU, zU, zU, zU, zU, zU, zU, zU, zU, zU] [.int ((x9 / 9) - (x9 / 9) / 11 * 11)] W)
 else
  if 2 = 0 then none else
  ev_ G 218 341 [.ref a0, .ref a1, .ref a2, .ref a3, .ref a4, .ref a5, .ref a6, .int x7, .int x8, .int x9, .int x10, .int x_0, zU, zU, zU, zU, zU, zU, zU, zU, zU, zU, zU, zU] [.int (x9 - x9 / 2 * 2)] W :=
 (zx_st (zh_L_isHarness G) [61, 94, 115, 154, 171, 214, 263, 316, 341, 367, 386, 422, 472, 517, 569, 606, 750, 771, 799, 943, 1005, 1049, 1078, 1110, 1163, 1188, 1215, 1250, 1277] 400 316 _ _ _).trans rfl
set_option maxRecDepth 100000 in
theorem q_L_isHarness_341 (G : Nat × Nat) (a0 : Nat) (a1 : Nat) (a2 : Nat) (a3 : Nat) (a4 : Nat) (a5 : Nat) (a6 : Nat) (x7 : Int32) (x8 : Int32) (x9 : Int32) (x10 : Int32) (x11 : Int32) (x_0 : Int32) (W : zW) : ev_ G 218 341 [.ref a0, .ref a1, .ref a2, .ref a3, .ref a4, .ref a5, .ref a6, .int x7, .int x8, .int x9, .int x10, .int x11, zU, zU, zU, zU, zU, zU, zU, zU, zU, zU, zU, zU] [.int x_0] W =
 if x11 ≤ 0 then
  (ev_ G 218 367 [.ref a0, .ref a1, .ref a2, .ref a3, .ref a4, .ref a5, .ref a6, .int x7, .int x8, .int x9, .int x10, .int x11, .int x_0, zU, zU, zU, zU, zU, zU, zU, zU, zU, zU, zU] [.int 0] W)
 else
  if (9 ≤ x11 : Prop) then
   (ev_ G 218 367 [.ref a0, .ref a1, .ref a2, .ref a3, .ref a4, .ref a5, .ref a6, .int x7, .int x8, .int x9, .int x10, .int x11, .int x_0, zU, zU, zU, zU, zU, zU, zU, zU, zU, zU, zU] [.int 0] W)
  else
   if (10 ≤ x_0 : Prop) then
    (ev_ G 218 367 [.ref a0, .ref a1, .ref a2, .ref a3, .ref a4, .ref a5, .ref a6, .int x7, .int x8, .int x9, .int x10, .int x11, .int x_0, zU, zU, zU, zU, zU, zU, zU, zU, zU, zU, zU] [.int 0] W)
   else
    ev_ G 218 367 [.ref a0, .ref a1, .ref a2, .ref a3, .ref a4, .ref a5, .ref a6, .int x7, .int x8, .int x9, .int x10, .int x11, .int x_0, zU, zU, zU, zU, zU, zU, zU, zU, zU, zU, zU] [.int 1] W :=
 (zx_st (zh_L_isHarness G) [61, 94, 115, 154, 171, 214, 263, 316, 341, 367, 386, 422, 472, 517, 569, 606, 750, 771, 799, 943, 1005, 1049, 1078, 1110, 1163, 1188, 1215, 1250, 1277] 400 341 _ _ _).trans rfl
set_option maxRecDepth 100000 in
theorem q_L_isHarness_367 (G : Nat × Nat) (a0 : Nat) (a1 : Nat) (a2 : Nat) (a3 : Nat) (a4 : Nat) (a5 : Nat) (a6 : Nat) (x7 : Int32) (x8 : Int32) (x9 : Int32) (x10 : Int32) (x11 : Int32) (x12 : Int32) (x_0 : Int32) (W : zW) : ev_ G 218 367 [.ref a0, .ref a1, .ref a2, .ref a3, .ref a4, .ref a5, .ref a6, .int x7, .int x8, .int x9, .int x10, .int x11, .int x12, zU, zU, zU, zU, zU, zU, zU, zU, zU, zU, zU] [.int x_0] W =
 if (8 ≤ x10 : Prop) then
  (ev_ G 218 386 [.ref a0, .ref a1, .ref a2, .ref a3, .ref a4, .ref a5, .ref a6, .int x7, .int x8, .int x9, .int x10, .int x11, .int x12, .int x_0, zU, zU, zU, zU, zU, zU, zU, zU, zU, zU] [.int 0] W)
 else
  if x_0 = 0 then
   (ev_ G 218 386 [.ref a0, .ref a1, .ref a2, .ref a3, .ref a4, .ref a5, .ref a6, .int x7, .int x8, .int x9, .int x10, .int x11, .int x12, .int x_0, zU, zU, zU, zU, zU, zU, zU, zU, zU, zU] [.int 0] W)
  else
   ev_ G 218 386 [.ref a0, .ref a1, .ref a2, .ref a3, .ref a4, .ref a5, .ref a6, .int x7, .int x8, .int x9, .int x10, .int x11, .int x12, .int x_0, zU, zU, zU, zU, zU, zU, zU, zU, zU, zU] [.int 1] W :=
 (zx_st (zh_L_isHarness G) [61, 94, 115, 154, 171, 214, 263, 316, 341, 367, 386, 422, 472, 517, 569, 606, 750, 771, 799, 943, 1005, 1049, 1078, 1110, 1163, 1188, 1215, 1250, 1277] 400 367 _ _ _).trans rfl
set_option maxRecDepth 100000 in
theorem q_L_isHarness_386 (G : Nat × Nat) (a0 : Nat) (a1 : Nat) (a2 : Nat) (a3 : Nat) (a4 : Nat) (a5 : Nat) (a6 : Nat) (x7 : Int32) (x8 : Int32) (x9 : Int32) (x10 : Int32) (x11 : Int32) (x12 : Int32) (x13 : Int32) (x_0 : Int32) (W : zW) : ev_ G 218 386 [.ref a0, .ref a1, .ref a2, .ref a3, .ref a4, .ref a5, .ref a6, .int x7, .int x8, .int x9, .int x10, .int x11, .int x12, .int x13, zU, zU, zU, zU, zU, zU, zU, zU, zU, zU] [.int x_0] W =
 if x_0 = 0 then
  (ev_ G 218 422 [.ref a0, .ref a1, .ref a2, .ref a3, .ref a4, .ref a5, .ref a6, .int x7, .int x8, .int x9, .int x10, .int x11, .int x12, .int x13, .int x_0, zU, zU, zU, zU, zU, zU, zU, zU, zU] [] W)
 else
  (zld false W a6 1).bind fun t1 =>
  (zsto 0 W a3 t1 (((x10 + (8 * x11)) + (128 * x12)))).bind fun W2 =>
  (zld false W2 a6 1).bind fun t3 =>
  (zsto 0 W2 a6 1 (t3 + 1)).bind fun W4 =>
  ev_ G 218 422 [.ref a0, .ref a1, .ref a2, .ref a3, .ref a4, .ref a5, .ref a6, .int x7, .int x8, .int x9, .int x10, .int x11, .int x12, .int x13, .int x_0, zU, zU, zU, zU, zU, zU, zU, zU, zU] [] W4 :=
 (zx_st (zh_L_isHarness G) [61, 94, 115, 154, 171, 214, 263, 316, 341, 367, 386, 422, 472, 517, 569, 606, 750, 771, 799, 943, 1005, 1049, 1078, 1110, 1163, 1188, 1215, 1250, 1277] 400 386 _ _ _).trans rfl
set_option maxRecDepth 100000 in
theorem q_L_isHarness_422 (G : Nat × Nat) (a0 : Nat) (a1 : Nat) (a2 : Nat) (a3 : Nat) (a4 : Nat) (a5 : Nat) (a6 : Nat) (x7 : Int32) (x8 : Int32) (x9 : Int32) (x10 : Int32) (x11 : Int32) (x12 : Int32) (x13 : Int32) (x14 : Int32) (W : zW) : ev_ G 218 422 [.ref a0, .ref a1, .ref a2, .ref a3, .ref a4, .ref a5, .ref a6, .int x7, .int x8, .int x9, .int x10, .int x11, .int x12, .int x13, .int x14, zU, zU, zU, zU, zU, zU, zU, zU, zU] [] W =
 zthI (ev_ G 207 0 [.ref a0, .int 1, .int x10, .int x11, .int x12, .int 0, .int 0, zU] [] W)
  (fun t2 W1 =>
 if (x10 = 8 : Prop) then
   (if (t2 = (-3000000) : Prop) then
     (if (1 : Int32) &&& 1 = 1 then some (.inl (some (.int 1)), W1) else none)
    else
     if (0 : Int32) &&& 1 = 0 then some (.inl (some (.int 0)), W1) else none)
  else
   if x14 = 0 then
    (if (t2 = (-2000000) : Prop) then
      (if (1 : Int32) &&& 1 = 1 then some (.inl (some (.int 1)), W1) else none)
     else
      if (0 : Int32) &&& 1 = 0 then some (.inl (some (.int 0)), W1) else none)
   else
    (zld false W1 a6 1).bind fun t3 =>
    if (t2 = (t3 - 1) : Prop) then
     (if (1 : Int32) &&& 1 = 1 then some (.inl (some (.int 1)), W1) else none)
    else
     if (0 : Int32) &&& 1 = 0 then some (.inl (some (.int 0)), W1) else none)
  zxe :=
 (zx_st (zh_L_isHarness G) [61, 94, 115, 154, 171, 214, 263, 316, 341, 367, 386, 422, 472, 517, 569, 606, 750, 771, 799, 943, 1005, 1049, 1078, 1110, 1163, 1188, 1215, 1250, 1277] 400 422 _ _ _).trans rfl
set_option maxRecDepth 100000 in
theorem q_L_isHarness_472 (G : Nat × Nat) (a0 : Nat) (a1 : Nat) (a2 : Nat) (a3 : Nat) (a4 : Nat) (a5 : Nat) (a6 : Nat) (x7 : Int32) (x8 : Int32) (x9 : Int32) (W : zW) : ev_ G 218 472 [.ref a0, .ref a1, .ref a2, .ref a3, .ref a4, .ref a5, .ref a6, .int x7, .int x8, .int x9, zU, zU, zU, zU, zU, zU, zU, zU, zU, zU, zU, zU, zU, zU] [] W =
 (zld false W a6 1).bind fun t1 =>
 if (t1 + 1) = 0 then none else
 (zld false W a6 1).bind fun t2 =>
 if (t2 + 1) = 0 then none else
 (zld false W a6 1).bind fun t3 =>
 if (t3 ≤ (x8 - x8 / (t1 + 1) * (t1 + 1)) : Prop) then
  (ev_ G 218 517 [.ref a0, .ref a1, .ref a2, .ref a3, .ref a4, .ref a5, .ref a6, .int x7, .int x8, .int x9, .int (x8 - x8 / (t1 + 1) * (t1 + 1)), .int (x9 - x9 / (t2 + 1) * (t2 + 1)), zU, zU, zU, zU, zU, zU, zU, zU, zU, zU, zU, zU] [.int 0] W)
 else
  (zld false W a6 1).bind fun t4 =>
  if (t4 ≤ (x9 - x9 / (t2 + 1) * (t2 + 1)) : Prop) then
   (ev_ G 218 517 [.ref a0, .ref a1, .ref a2, .ref a3, .ref a4, .ref a5, .ref a6, .int x7, .int x8, .int x9, .int (x8 - x8 / (t1 + 1) * (t1 + 1)), .int (x9 - x9 / (t2 + 1) * (t2 + 1)), zU, zU, zU, zU, zU, zU, zU, zU, zU, zU, zU, zU] [.int 0] W)
  else
   ev_ G 218 517 [.ref a0, .ref a1, .ref a2, .ref a3, .ref a4, .ref a5, .ref a6, .int x7, .int x8, .int x9, .int (x8 - x8 / (t1 + 1) * (t1 + 1)), .int (x9 - x9 / (t2 + 1) * (t2 + 1)), zU, zU, zU, zU, zU, zU, zU, zU, zU, zU, zU, zU] [.int 1] W :=
 (zx_st (zh_L_isHarness G) [61, 94, 115, 154, 171, 214, 263, 316, 341, 367, 386, 422, 472, 517, 569, 606, 750, 771, 799, 943, 1005, 1049, 1078, 1110, 1163, 1188, 1215, 1250, 1277] 400 472 _ _ _).trans rfl
set_option maxRecDepth 100000 in
theorem q_L_isHarness_517 (G : Nat × Nat) (a0 : Nat) (a1 : Nat) (a2 : Nat) (a3 : Nat) (a4 : Nat) (a5 : Nat) (a6 : Nat) (x7 : Int32) (x8 : Int32) (x9 : Int32) (x10 : Int32) (x11 : Int32) (x_0 : Int32) (W : zW) : ev_ G 218 517 [.ref a0, .ref a1, .ref a2, .ref a3, .ref a4, .ref a5, .ref a6, .int x7, .int x8, .int x9, .int x10, .int x11, zU, zU, zU, zU, zU, zU, zU, zU, zU, zU, zU, zU] [.int x_0] W =
 if (3 ≤ x7 : Prop) then
  (if (x7 = 3 : Prop) then
    ((zld false W a6 2).bind fun t1 =>
     if (24 ≤ t1 : Prop) then
      (ev_ G 218 1163 [.ref a0, .ref a1, .ref a2, .ref a3, .ref a4, .ref a5, .ref a6, .int x7, .int x8, .int x9, .int x10, .int x11, .int x_0, zU, zU, zU, zU, zU, zU, zU, zU, zU, zU, zU] [] W)
     else
      if 9 = 0 then none else
      if 6 = 0 then none else
      if 9 = 0 then none else
      if 6 = 0 then none else
      if 54 = 0 then none else
      if 9 = 0 then none else
      if x_0 = 0 then
       (ev_ G 218 750 [.ref a0, .ref a1, .ref a2, .ref a3, .ref a4, .ref a5, .ref a6, .int x7, .int x8, .int x9, .int x10, .int x11, .int x_0, .int ((x8 / 9) - (x8 / 9) / 6 * 6), .int ((x9 / 9) - (x9 / 9) / 6 * 6), .int ((x9 / 54) - (x9 / 54) / 9 * 9), zU, zU, zU, zU, zU, zU, zU, zU] [.int 0] W)
      else
       (zld false W a3 x10).bind fun t2 =>
       if 8 = 0 then none else
       if 16 = 0 then none else
       if (((t2 / 8) - (t2 / 8) / 16 * 16) ≤ ((x8 / 9) - (x8 / 9) / 6 * 6) : Prop) then
        (ev_ G 218 750 [.ref a0, .ref a1, .ref a2, .ref a3, .ref a4, .ref a5, .ref a6, .int x7, .int x8, .int x9, .int x10, .int x11, .int x_0, .int ((x8 / 9) - (x8 / 9) / 6 * 6), .int ((x9 / 9) - (x9 / 9) / 6 * 6), .int ((x9 / 54) - (x9 / 54) / 9 * 9), zU, zU, zU, zU, zU, zU, zU, zU] [.int 0] W)
       else
        (zld false W a3 x11).bind fun t3 =>
        if 8 = 0 then none else
        if 16 = 0 then none else
        if (((t3 / 8) - (t3 / 8) / 16 * 16) ≤ ((x9 / 9) - (x9 / 9) / 6 * 6) : Prop) then
         (ev_ G 218 750 [.ref a0, .ref a1, .ref a2, .ref a3, .ref a4, .ref a5, .ref a6, .int x7, .int x8, .int x9, .int x10, .int x11, .int x_0, .int ((x8 / 9) - (x8 / 9) / 6 * 6), .int ((x9 / 9) - (x9 / 9) / 6 * 6), .int ((x9 / 54) - (x9 / 54) / 9 * 9), zU, zU, zU, zU, zU, zU, zU, zU] [.int 0] W)
        else
         ev_ G 218 750 [.ref a0, .ref a1, .ref a2, .ref a3, .ref a4, .ref a5, .ref a6, .int x7, .int x8, .int x9, .int x10, .int x11, .int x_0, .int ((x8 / 9) - (x8 / 9) / 6 * 6), .int ((x9 / 9) - (x9 / 9) / 6 * 6), .int ((x9 / 54) - (x9 / 54) / 9 * 9), zU, zU, zU, zU, zU, zU, zU, zU] [.int 1] W)
   else
    ev_ G 218 1163 [.ref a0, .ref a1, .ref a2, .ref a3, .ref a4, .ref a5, .ref a6, .int x7, .int x8, .int x9, .int x10, .int x11, .int x_0, zU, zU, zU, zU, zU, zU, zU, zU, zU, zU, zU] [] W)
 else
  if x_0 = 0 then
   (ev_ G 218 569 [.ref a0, .ref a1, .ref a2, .ref a3, .ref a4, .ref a5, .ref a6, .int x7, .int x8, .int x9, .int x10, .int x11, .int x_0, zU, zU, zU, zU, zU, zU, zU, zU, zU, zU, zU] [.int 0] W)
  else
   if (x10 = x11 : Prop) then
    (ev_ G 218 569 [.ref a0, .ref a1, .ref a2, .ref a3, .ref a4, .ref a5, .ref a6, .int x7, .int x8, .int x9, .int x10, .int x11, .int x_0, zU, zU, zU, zU, zU, zU, zU, zU, zU, zU, zU] [.int 0] W)
   else
    (zld false W a3 x10).bind fun t4 =>
    if 8 = 0 then none else
    (zld false W a3 x11).bind fun t5 =>
    if 8 = 0 then none else
    if ((t4 / 8) = (t5 / 8) : Prop) then
     ((zld false W a3 x10).bind fun t6 =>
      if (2048 ≤ t6 : Prop) then
       (ev_ G 218 569 [.ref a0, .ref a1, .ref a2, .ref a3, .ref a4, .ref a5, .ref a6, .int x7, .int x8, .int x9, .int x10, .int x11, .int x_0, zU, zU, zU, zU, zU, zU, zU, zU, zU, zU, zU] [.int 0] W)
      else
       ev_ G 218 569 [.ref a0, .ref a1, .ref a2, .ref a3, .ref a4, .ref a5, .ref a6, .int x7, .int x8, .int x9, .int x10, .int x11, .int x_0, zU, zU, zU, zU, zU, zU, zU, zU, zU, zU, zU] [.int 1] W)
    else
     ev_ G 218 569 [.ref a0, .ref a1, .ref a2, .ref a3, .ref a4, .ref a5, .ref a6, .int x7, .int x8, .int x9, .int x10, .int x11, .int x_0, zU, zU, zU, zU, zU, zU, zU, zU, zU, zU, zU] [.int 0] W :=
 (zx_st (zh_L_isHarness G) [61, 94, 115, 154, 171, 214, 263, 316, 341, 367, 386, 422, 472, 517, 569, 606, 750, 771, 799, 943, 1005, 1049, 1078, 1110, 1163, 1188, 1215, 1250, 1277] 400 517 _ _ _).trans rfl
set_option maxRecDepth 100000 in
theorem q_L_isHarness_569 (G : Nat × Nat) (a0 : Nat) (a1 : Nat) (a2 : Nat) (a3 : Nat) (a4 : Nat) (a5 : Nat) (a6 : Nat) (x7 : Int32) (x8 : Int32) (x9 : Int32) (x10 : Int32) (x11 : Int32) (x12 : Int32) (x_0 : Int32) (W : zW) : ev_ G 218 569 [.ref a0, .ref a1, .ref a2, .ref a3, .ref a4, .ref a5, .ref a6, .int x7, .int x8, .int x9, .int x10, .int x11, .int x12, zU, zU, zU, zU, zU, zU, zU, zU, zU, zU, zU] [.int x_0] W =
 if x_0 = 0 then
  (ev_ G 218 606 [.ref a0, .ref a1, .ref a2, .ref a3, .ref a4, .ref a5, .ref a6, .int x7, .int x8, .int x9, .int x10, .int x11, .int x12, .int x_0, zU, zU, zU, zU, zU, zU, zU, zU, zU, zU] [] W)
 else
  (zld false W a3 x10).bind fun t1 =>
  (zsto 0 W a3 x10 ((t1 + (2048 * (x11 + 1))))).bind fun W2 =>
  (zld false W2 a3 x11).bind fun t3 =>
  (zsto 0 W2 a3 x11 ((t3 + (2048 * (x10 + 1))))).bind fun W4 =>
  ev_ G 218 606 [.ref a0, .ref a1, .ref a2, .ref a3, .ref a4, .ref a5, .ref a6, .int x7, .int x8, .int x9, .int x10, .int x11, .int x12, .int x_0, zU, zU, zU, zU, zU, zU, zU, zU, zU, zU] [] W4 :=
 (zx_st (zh_L_isHarness G) [61, 94, 115, 154, 171, 214, 263, 316, 341, 367, 386, 422, 472, 517, 569, 606, 750, 771, 799, 943, 1005, 1049, 1078, 1110, 1163, 1188, 1215, 1250, 1277] 400 569 _ _ _).trans rfl
set_option maxRecDepth 100000 in
theorem q_L_isHarness_606 (G : Nat × Nat) (a0 : Nat) (a1 : Nat) (a2 : Nat) (a3 : Nat) (a4 : Nat) (a5 : Nat) (a6 : Nat) (x7 : Int32) (x8 : Int32) (x9 : Int32) (x10 : Int32) (x11 : Int32) (x12 : Int32) (x13 : Int32) (W : zW) : ev_ G 218 606 [.ref a0, .ref a1, .ref a2, .ref a3, .ref a4, .ref a5, .ref a6, .int x7, .int x8, .int x9, .int x10, .int x11, .int x12, .int x13, zU, zU, zU, zU, zU, zU, zU, zU, zU, zU] [] W =
 zthI (ev_ G 207 0 [.ref a0, .int 2, .int x10, .int x11, .int 0, .int 0, .int 0, zU] [] W)
  (fun t2 W1 =>
 if x12 = 0 then
   (if (t2 = (-3000000) : Prop) then
     (if (1 : Int32) &&& 1 = 1 then some (.inl (some (.int 1)), W1) else none)
    else
     if (0 : Int32) &&& 1 = 0 then some (.inl (some (.int 0)), W1) else none)
  else
   if (x10 = x11 : Prop) then
    (if (t2 = (-2000000) : Prop) then
      (if (1 : Int32) &&& 1 = 1 then some (.inl (some (.int 1)), W1) else none)
     else
      if (0 : Int32) &&& 1 = 0 then some (.inl (some (.int 0)), W1) else none)
   else
    if x13 = 0 then
     (if (t2 = (-1000000) : Prop) then
       (if (1 : Int32) &&& 1 = 1 then some (.inl (some (.int 1)), W1) else none)
      else
       if (0 : Int32) &&& 1 = 0 then some (.inl (some (.int 0)), W1) else none)
    else
     zthI (ev_ G 212 0 [.ref a3, .ref a6, zU, zU, zU] [] W1)
      (fun t4 W3 =>
     if (t2 = t4 : Prop) then
       (if (1 : Int32) &&& 1 = 1 then some (.inl (some (.int 1)), W3) else none)
      else
       if (0 : Int32) &&& 1 = 0 then some (.inl (some (.int 0)), W3) else none)
      zxe)
  zxe :=
 (zx_st (zh_L_isHarness G) [61, 94, 115, 154, 171, 214, 263, 316, 341, 367, 386, 422, 472, 517, 569, 606, 750, 771, 799, 943, 1005, 1049, 1078, 1110, 1163, 1188, 1215, 1250, 1277] 400 606 _ _ _).trans rfl
set_option maxRecDepth 100000 in
theorem q_L_isHarness_750 (G : Nat × Nat) (a0 : Nat) (a1 : Nat) (a2 : Nat) (a3 : Nat) (a4 : Nat) (a5 : Nat) (a6 : Nat) (x7 : Int32) (x8 : Int32) (x9 : Int32) (x10 : Int32) (x11 : Int32) (x12 : Int32) (x13 : Int32) (x14 : Int32) (x15 : Int32) (x_0 : Int32) (W : zW) : ev_ G 218 750 [.ref a0, .ref a1, .ref a2, .ref a3, .ref a4, .ref a5, .ref a6, .int x7, .int x8, .int x9, .int x10, .int x11, .int x12, .int x13, .int x14, .int x15, zU, zU, zU, zU, zU, zU, zU, zU] [.int x_0] W =
 if (x10 = x11 : Prop) then
  (ev_ G 218 771 [.ref a0, .ref a1, .ref a2, .ref a3, .ref a4, .ref a5, .ref a6, .int x7, .int x8, .int x9, .int x10, .int x11, .int x_0, .int x13, .int x14, .int x15, zU, zU, zU, zU, zU, zU, zU, zU] [.int 0] W)
 else
  if (8 ≤ x15 : Prop) then
   (ev_ G 218 771 [.ref a0, .ref a1, .ref a2, .ref a3, .ref a4, .ref a5, .ref a6, .int x7, .int x8, .int x9, .int x10, .int x11, .int x_0, .int x13, .int x14, .int x15, zU, zU, zU, zU, zU, zU, zU, zU] [.int 0] W)
  else
   ev_ G 218 771 [.ref a0, .ref a1, .ref a2, .ref a3, .ref a4, .ref a5, .ref a6, .int x7, .int x8, .int x9, .int x10, .int x11, .int x_0, .int x13, .int x14, .int x15, zU, zU, zU, zU, zU, zU, zU, zU] [.int 1] W :=
 (zx_st (zh_L_isHarness G) [61, 94, 115, 154, 171, 214, 263, 316, 341, 367, 386, 422, 472, 517, 569, 606, 750, 771, 799, 943, 1005, 1049, 1078, 1110, 1163, 1188, 1215, 1250, 1277] 400 750 _ _ _).trans rfl
set_option maxRecDepth 100000 in
theorem q_L_isHarness_771 (G : Nat × Nat) (a0 : Nat) (a1 : Nat) (a2 : Nat) (a3 : Nat) (a4 : Nat) (a5 : Nat) (a6 : Nat) (x7 : Int32) (x8 : Int32) (x9 : Int32) (x10 : Int32) (x11 : Int32) (x12 : Int32) (x13 : Int32) (x14 : Int32) (x15 : Int32) (x_0 : Int32) (W : zW) : ev_ G 218 771 [.ref a0, .ref a1, .ref a2, .ref a3, .ref a4, .ref a5, .ref a6, .int x7, .int x8, .int x9, .int x10, .int x11, .int x12, .int x13, .int x14, .int x15, zU, zU, zU, zU, zU, zU, zU, zU] [.int x_0] W =
 ev_ G 218 799 [.ref a0, .ref a1, .ref a2, .ref a3, .ref a4, .ref a5, .ref a6, .int x7, .int x8, .int x9, .int x10, .int x11, .int x12, .int x13, .int x14, .int x15, .int x_0, .int ((8 * x10) + x13), .int ((8 * x11) + x14), .int 1, .int 0, zU, zU, zU] [] W :=
 (zx_st (zh_L_isHarness G) [61, 94, 115, 154, 171, 214, 263, 316, 341, 367, 386, 422, 472, 517, 569, 606, 750, 771, 799, 943, 1005, 1049, 1078, 1110, 1163, 1188, 1215, 1250, 1277] 400 771 _ _ _).trans rfl
set_option maxRecDepth 100000 in
theorem q_L_isHarness_799 (G : Nat × Nat) (a0 : Nat) (a1 : Nat) (a2 : Nat) (a3 : Nat) (a4 : Nat) (a5 : Nat) (a6 : Nat) (x7 : Int32) (x8 : Int32) (x9 : Int32) (x10 : Int32) (x11 : Int32) (x12 : Int32) (x13 : Int32) (x14 : Int32) (x15 : Int32) (x16 : Int32) (x17 : Int32) (x18 : Int32) (x19 : Int32) (x20 : Int32) (W : zW) : ev_ G 218 799 [.ref a0, .ref a1, .ref a2, .ref a3, .ref a4, .ref a5, .ref a6, .int x7, .int x8, .int x9, .int x10, .int x11, .int x12, .int x13, .int x14, .int x15, .int x16, .int x17, .int x18, .int x19, .int x20, zU, zU, zU] [] W =
 (zld false W a6 2).bind fun t1 =>
 if (t1 ≤ x20 : Prop) then
  (if zbad 8 then none else
   if x12 = 0 then
    (ev_ G 218 943 [.ref a0, .ref a1, .ref a2, .ref a3, .ref a4, .ref a5, .ref a6, .int x7, .int x8, .int x9, .int x10, .int x11, .int x12, .int x13, .int x14, .int x15, .int x16, .int x17, .int x18, .int x19, .ref W.1, zU, zU, zU] [.int (-1)] (znai 0 8 W))
   else
    if x16 = 0 then
     (ev_ G 218 943 [.ref a0, .ref a1, .ref a2, .ref a3, .ref a4, .ref a5, .ref a6, .int x7, .int x8, .int x9, .int x10, .int x11, .int x12, .int x13, .int x14, .int x15, .int x16, .int x17, .int x18, .int x19, .ref W.1, zU, zU, zU] [.int (-1)] (znai 0 8 W))
    else
     if x19 = 0 then
      (ev_ G 218 943 [.ref a0, .ref a1, .ref a2, .ref a3, .ref a4, .ref a5, .ref a6, .int x7, .int x8, .int x9, .int x10, .int x11, .int x12, .int x13, .int x14, .int x15, .int x16, .int x17, .int x18, .int x19, .ref W.1, zU, zU, zU] [.int (-1)] (znai 0 8 W))
     else
      (zld false (znai 0 8 W) a3 x10).bind fun t2 =>
      if 8 = 0 then none else
      (zld false (znai 0 8 W) a3 x11).bind fun t3 =>
      if 8 = 0 then none else
      zthI (ev_ G 210 0 [.ref a1, .ref a2, .ref a6, .int (t2 - t2 / 8 * 8), .int (t3 - t3 / 8 * 8), .ref W.1, zU, zU, zU, zU, zU, zU, zU, zU, zU, zU] [] (znai 0 8 W))
       (fun t5 W4 =>
      ev_ G 218 943 [.ref a0, .ref a1, .ref a2, .ref a3, .ref a4, .ref a5, .ref a6, .int x7, .int x8, .int x9, .int x10, .int x11, .int x12, .int x13, .int x14, .int x15, .int x16, .int x17, .int x18, .int x19, .ref W.1, zU, zU, zU] [.int t5] W4)
       zxe)
 else
  if x19 = 0 then
   (ev_ G 218 799 [.ref a0, .ref a1, .ref a2, .ref a3, .ref a4, .ref a5, .ref a6, .int x7, .int x8, .int x9, .int x10, .int x11, .int x12, .int x13, .int x14, .int x15, .int x16, .int x17, .int x18, .int 0, .int (x20 + 1), zU, zU, zU] [] W)
  else
   (zld false W a4 x20).bind fun t6 =>
   if (32767 < t6 : Prop) then
    (ev_ G 218 799 [.ref a0, .ref a1, .ref a2, .ref a3, .ref a4, .ref a5, .ref a6, .int x7, .int x8, .int x9, .int x10, .int x11, .int x12, .int x13, .int x14, .int x15, .int x16, .int x17, .int x18, .int 1, .int (x20 + 1), zU, zU, zU] [] W)
   else
    (zld false W a4 x20).bind fun t7 =>
    if 64 = 0 then none else
    if ((t7 - t7 / 64 * 64) = x17 : Prop) then
     (ev_ G 218 799 [.ref a0, .ref a1, .ref a2, .ref a3, .ref a4, .ref a5, .ref a6, .int x7, .int x8, .int x9, .int x10, .int x11, .int x12, .int x13, .int x14, .int x15, .int x16, .int x17, .int x18, .int 0, .int (x20 + 1), zU, zU, zU] [] W)
    else
     (zld false W a4 x20).bind fun t8 =>
     if 64 = 0 then none else
     if ((t8 - t8 / 64 * 64) = x18 : Prop) then
      (ev_ G 218 799 [.ref a0, .ref a1, .ref a2, .ref a3, .ref a4, .ref a5, .ref a6, .int x7, .int x8, .int x9, .int x10, .int x11, .int x12, .int x13, .int x14, .int x15, .int x16, .int x17, .int x18, .int 0, .int (x20 + 1), zU, zU, zU] [] W)
     else
      (zld false W a4 x20).bind fun t9 =>
      if 64 = 0 then none else
      if 64 = 0 then none else
      if (((t9 / 64) - (t9 / 64) / 64 * 64) = x17 : Prop) then
       (ev_ G 218 799 [.ref a0, .ref a1, .ref a2, .ref a3, .ref a4, .ref a5, .ref a6, .int x7, .int x8, .int x9, .int x10, .int x11, .int x12, .int x13, .int x14, .int x15, .int x16, .int x17, .int x18, .int 0, .int (x20 + 1), zU, zU, zU] [] W)
      else
       (zld false W a4 x20).bind fun t10 =>
       if 64 = 0 then none else
       if 64 = 0 then none else
       if (((t10 / 64) - (t10 / 64) / 64 * 64) = x18 : Prop) then
        (ev_ G 218 799 [.ref a0, .ref a1, .ref a2, .ref a3, .ref a4, .ref a5, .ref a6, .int x7, .int x8, .int x9, .int x10, .int x11, .int x12, .int x13, .int x14, .int x15, .int x16, .int x17, .int x18, .int 0, .int (x20 + 1), zU, zU, zU] [] W)
       else
        ev_ G 218 799 [.ref a0, .ref a1, .ref a2, .ref a3, .ref a4, .ref a5, .ref a6, .int x7, .int x8, .int x9, .int x10, .int x11, .int x12, .int x13, .int x14, .int x15, .int x16, .int x17, .int x18, .int 1, .int (x20 + 1), zU, zU, zU] [] W :=
 (zx_st (zh_L_isHarness G) [61, 94, 115, 154, 171, 214, 263, 316, 341, 367, 386, 422, 472, 517, 569, 606, 750, 771, 799, 943, 1005, 1049, 1078, 1110, 1163, 1188, 1215, 1250, 1277] 400 799 _ _ _).trans rfl
set_option maxRecDepth 100000 in
theorem q_L_isHarness_943 (G : Nat × Nat) (a0 : Nat) (a1 : Nat) (a2 : Nat) (a3 : Nat) (a4 : Nat) (a5 : Nat) (a6 : Nat) (x7 : Int32) (x8 : Int32) (x9 : Int32) (x10 : Int32) (x11 : Int32) (x12 : Int32) (x13 : Int32) (x14 : Int32) (x15 : Int32) (x16 : Int32) (x17 : Int32) (x18 : Int32) (x19 : Int32) (a20 : Nat) (x_0 : Int32) (W : zW) : ev_ G 218 943 [.ref a0, .ref a1, .ref a2, .ref a3, .ref a4, .ref a5, .ref a6, .int x7, .int x8, .int x9, .int x10, .int x11, .int x12, .int x13, .int x14, .int x15, .int x16, .int x17, .int x18, .int x19, .ref a20, zU, zU, zU] [.int x_0] W =
 zthI (ev_ G 207 0 [.ref a0, .int 3, .int x10, .int x13, .int x11, .int x14, .int x15, zU] [] W)
  (fun t2 W1 =>
 if x12 = 0 then
   (if (t2 = (-3000000) : Prop) then
     (ev_ G 218 1005 [.ref a0, .ref a1, .ref a2, .ref a3, .ref a4, .ref a5, .ref a6, .int x7, .int x8, .int x9, .int x10, .int x11, .int x12, .int x13, .int x14, .int x15, .int x16, .int x17, .int x18, .int x19, .ref a20, .int x_0, .int 1, .int 0] [] W1)
    else
     if (0 : Int32) &&& 1 = 0 then some (.inl (some (.int 0)), W1) else none)
  else
   if x16 = 0 then
    (if (t2 = (-2000000) : Prop) then
      (ev_ G 218 1005 [.ref a0, .ref a1, .ref a2, .ref a3, .ref a4, .ref a5, .ref a6, .int x7, .int x8, .int x9, .int x10, .int x11, .int x12, .int x13, .int x14, .int x15, .int x16, .int x17, .int x18, .int x19, .ref a20, .int x_0, .int 1, .int 0] [] W1)
     else
      if (0 : Int32) &&& 1 = 0 then some (.inl (some (.int 0)), W1) else none)
   else
    if 0 ≤ x_0 then
     ((zld false W1 a6 2).bind fun t3 =>
      if (t2 = t3 : Prop) then
       (ev_ G 218 1005 [.ref a0, .ref a1, .ref a2, .ref a3, .ref a4, .ref a5, .ref a6, .int x7, .int x8, .int x9, .int x10, .int x11, .int x12, .int x13, .int x14, .int x15, .int x16, .int x17, .int x18, .int x19, .ref a20, .int x_0, .int 1, .int 0] [] W1)
      else
       if (0 : Int32) &&& 1 = 0 then some (.inl (some (.int 0)), W1) else none)
    else
     if (t2 = (-1000000) : Prop) then
      (ev_ G 218 1005 [.ref a0, .ref a1, .ref a2, .ref a3, .ref a4, .ref a5, .ref a6, .int x7, .int x8, .int x9, .int x10, .int x11, .int x12, .int x13, .int x14, .int x15, .int x16, .int x17, .int x18, .int x19, .ref a20, .int x_0, .int 1, .int 0] [] W1)
     else
      if (0 : Int32) &&& 1 = 0 then some (.inl (some (.int 0)), W1) else none)
  zxe :=
 (zx_st (zh_L_isHarness G) [61, 94, 115, 154, 171, 214, 263, 316, 341, 367, 386, 422, 472, 517, 569, 606, 750, 771, 799, 943, 1005, 1049, 1078, 1110, 1163, 1188, 1215, 1250, 1277] 400 943 _ _ _).trans rfl
set_option maxRecDepth 100000 in
theorem q_L_isHarness_1005 (G : Nat × Nat) (a0 : Nat) (a1 : Nat) (a2 : Nat) (a3 : Nat) (a4 : Nat) (a5 : Nat) (a6 : Nat) (x7 : Int32) (x8 : Int32) (x9 : Int32) (x10 : Int32) (x11 : Int32) (x12 : Int32) (x13 : Int32) (x14 : Int32) (x15 : Int32) (x16 : Int32) (x17 : Int32) (x18 : Int32) (x19 : Int32) (a20 : Nat) (x21 : Int32) (x22 : Int32) (x23 : Int32) (W : zW) : ev_ G 218 1005 [.ref a0, .ref a1, .ref a2, .ref a3, .ref a4, .ref a5, .ref a6, .int x7, .int x8, .int x9, .int x10, .int x11, .int x12, .int x13, .int x14, .int x15, .int x16, .int x17, .int x18, .int x19, .ref a20, .int x21, .int x22, .int x23] [] W =
 if (8 ≤ x23 : Prop) then
  (ev_ G 218 1110 [.ref a0, .ref a1, .ref a2, .ref a3, .ref a4, .ref a5, .ref a6, .int x7, .int x8, .int x9, .int x10, .int x11, .int x12, .int x13, .int x14, .int x15, .int x16, .int x17, .int x18, .int x19, .ref a20, .int x21, .int x22, .int x23] [] W)
 else
  if x21 < 0 then
   (ev_ G 218 1110 [.ref a0, .ref a1, .ref a2, .ref a3, .ref a4, .ref a5, .ref a6, .int x7, .int x8, .int x9, .int x10, .int x11, .int x12, .int x13, .int x14, .int x15, .int x16, .int x17, .int x18, .int x19, .ref a20, .int x21, .int x22, .int x23] [] W)
  else
   if x22 = 0 then
    (ev_ G 218 1110 [.ref a0, .ref a1, .ref a2, .ref a3, .ref a4, .ref a5, .ref a6, .int x7, .int x8, .int x9, .int x10, .int x11, .int x12, .int x13, .int x14, .int x15, .int x16, .int x17, .int x18, .int x19, .ref a20, .int x21, .int x22, .int x23] [] W)
   else
    (zld false W a6 2).bind fun t1 =>
    zthI (ev_ G 207 0 [.ref a0, .int 5, .int t1, .int x23, .int 0, .int 0, .int 0, zU] [] W)
     (fun t3 W2 =>
    (zld false W2 a20 x23).bind fun t4 =>
     if (t3 = t4 : Prop) then
      (ev_ G 218 1049 [.ref a0, .ref a1, .ref a2, .ref a3, .ref a4, .ref a5, .ref a6, .int x7, .int x8, .int x9, .int x10, .int x11, .int x12, .int x13, .int x14, .int x15, .int x16, .int x17, .int x18, .int x19, .ref a20, .int x21, .int x22, .int x23] [.int 1] W2)
     else
      ev_ G 218 1049 [.ref a0, .ref a1, .ref a2, .ref a3, .ref a4, .ref a5, .ref a6, .int x7, .int x8, .int x9, .int x10, .int x11, .int x12, .int x13, .int x14, .int x15, .int x16, .int x17, .int x18, .int x19, .ref a20, .int x21, .int x22, .int x23] [.int 0] W2)
     zxe :=
 (zx_st (zh_L_isHarness G) [61, 94, 115, 154, 171, 214, 263, 316, 341, 367, 386, 422, 472, 517, 569, 606, 750, 771, 799, 943, 1005, 1049, 1078, 1110, 1163, 1188, 1215, 1250, 1277] 400 1005 _ _ _).trans rfl
set_option maxRecDepth 100000 in
theorem q_L_isHarness_1049 (G : Nat × Nat) (a0 : Nat) (a1 : Nat) (a2 : Nat) (a3 : Nat) (a4 : Nat) (a5 : Nat) (a6 : Nat) (x7 : Int32) (x8 : Int32) (x9 : Int32) (x10 : Int32) (x11 : Int32) (x12 : Int32) (x13 : Int32) (x14 : Int32) (x15 : Int32) (x16 : Int32) (x17 : Int32) (x18 : Int32) (x19 : Int32) (a20 : Nat) (x21 : Int32) (x22 : Int32) (x23 : Int32) (x_0 : Int32) (W : zW) : ev_ G 218 1049 [.ref a0, .ref a1, .ref a2, .ref a3, .ref a4, .ref a5, .ref a6, .int x7, .int x8, .int x9, .int x10, .int x11, .int x12, .int x13, .int x14, .int x15, .int x16, .int x17, .int x18, .int x19, .ref a20, .int x21, .int x22, .int x23] [.int x_0] W =
 (zld false W a6 2).bind fun t1 =>
 (zld false W a5 t1).bind fun t2 =>
 (zld false W a20 x23).bind fun t3 =>
 if 0 ≤ t3 then
  ((zld false W a20 x23).bind fun t4 =>
   ev_ G 218 1078 [.ref a0, .ref a1, .ref a2, .ref a3, .ref a4, .ref a5, .ref a6, .int x7, .int x8, .int x9, .int x10, .int x11, .int x12, .int x13, .int x14, .int x15, .int x16, .int x17, .int x18, .int x19, .ref a20, .int x21, .int x_0, .int x23] [.int (1 <<< (t4 &&& 31)), .int t2, .int t1, .ref a5] W)
 else
  ev_ G 218 1078 [.ref a0, .ref a1, .ref a2, .ref a3, .ref a4, .ref a5, .ref a6, .int x7, .int x8, .int x9, .int x10, .int x11, .int x12, .int x13, .int x14, .int x15, .int x16, .int x17, .int x18, .int x19, .ref a20, .int x21, .int x_0, .int x23] [.int 0, .int t2, .int t1, .ref a5] W :=
 (zx_st (zh_L_isHarness G) [61, 94, 115, 154, 171, 214, 263, 316, 341, 367, 386, 422, 472, 517, 569, 606, 750, 771, 799, 943, 1005, 1049, 1078, 1110, 1163, 1188, 1215, 1250, 1277] 400 1049 _ _ _).trans rfl
set_option maxRecDepth 100000 in
theorem q_L_isHarness_1078 (G : Nat × Nat) (a0 : Nat) (a1 : Nat) (a2 : Nat) (a3 : Nat) (a4 : Nat) (a5 : Nat) (a6 : Nat) (x7 : Int32) (x8 : Int32) (x9 : Int32) (x10 : Int32) (x11 : Int32) (x12 : Int32) (x13 : Int32) (x14 : Int32) (x15 : Int32) (x16 : Int32) (x17 : Int32) (x18 : Int32) (x19 : Int32) (a20 : Nat) (x21 : Int32) (x22 : Int32) (x23 : Int32) (a_0 : Nat) (x_1 : Int32) (x_2 : Int32) (x_3 : Int32) (W : zW) : ev_ G 218 1078 [.ref a0, .ref a1, .ref a2, .ref a3, .ref a4, .ref a5, .ref a6, .int x7, .int x8, .int x9, .int x10, .int x11, .int x12, .int x13, .int x14, .int x15, .int x16, .int x17, .int x18, .int x19, .ref a20, .int x21, .int x22, .int x23] [.int x_3, .int x_2, .int x_1, .ref a_0] W =
 (zsto 0 W a_0 x_1 (x_2 ||| x_3)).bind fun W1 =>
 (zld false W1 a20 x23).bind fun t2 =>
 if 0 ≤ t2 then
  ((zld false W1 a20 x23).bind fun t3 =>
   (zld false W1 a2 t3).bind fun t4 =>
   (zsto 0 W1 a2 t3 (t4 - 1)).bind fun W5 =>
   ev_ G 218 1005 [.ref a0, .ref a1, .ref a2, .ref a3, .ref a4, .ref a5, .ref a6, .int x7, .int x8, .int x9, .int x10, .int x11, .int x12, .int x13, .int x14, .int x15, .int x16, .int x17, .int x18, .int x19, .ref a20, .int x21, .int x22, .int (x23 + 1)] [] W5)
 else
  (zld false W1 a2 16).bind fun t6 =>
  (zsto 0 W1 a2 16 (t6 - 1)).bind fun W7 =>
  ev_ G 218 1005 [.ref a0, .ref a1, .ref a2, .ref a3, .ref a4, .ref a5, .ref a6, .int x7, .int x8, .int x9, .int x10, .int x11, .int x12, .int x13, .int x14, .int x15, .int x16, .int x17, .int x18, .int x19, .ref a20, .int x21, .int x22, .int (x23 + 1)] [] W7 :=
 (zx_st (zh_L_isHarness G) [61, 94, 115, 154, 171, 214, 263, 316, 341, 367, 386, 422, 472, 517, 569, 606, 750, 771, 799, 943, 1005, 1049, 1078, 1110, 1163, 1188, 1215, 1250, 1277] 400 1078 _ _ _).trans rfl
set_option maxRecDepth 100000 in
theorem q_L_isHarness_1110 (G : Nat × Nat) (a0 : Nat) (a1 : Nat) (a2 : Nat) (a3 : Nat) (a4 : Nat) (a5 : Nat) (a6 : Nat) (x7 : Int32) (x8 : Int32) (x9 : Int32) (x10 : Int32) (x11 : Int32) (x12 : Int32) (x13 : Int32) (x14 : Int32) (x15 : Int32) (x16 : Int32) (x17 : Int32) (x18 : Int32) (x19 : Int32) (a20 : Nat) (x21 : Int32) (x22 : Int32) (x23 : Int32) (W : zW) : ev_ G 218 1110 [.ref a0, .ref a1, .ref a2, .ref a3, .ref a4, .ref a5, .ref a6, .int x7, .int x8, .int x9, .int x10, .int x11, .int x12, .int x13, .int x14, .int x15, .int x16, .int x17, .int x18, .int x19, .ref a20, .int x21, .int x22, .int x23] [] W =
 if x21 < 0 then
  (if x22 &&& 1 = x22 then some (.inl (some (.int x22)), W) else none)
 else
  (zld false W a6 2).bind fun t1 =>
  (zsto 0 W a4 t1 (((x17 + (64 * x18)) + (4096 * x15)))).bind fun W2 =>
  (zld false W2 a6 2).bind fun t3 =>
  if 8 = 0 then none else
  (zsto 0 W2 a5 (24 + t3) (x21 / 8)).bind fun W4 =>
  (zld false W4 a6 2).bind fun t5 =>
  (zsto 0 W4 a6 2 (t5 + 1)).bind fun W6 =>
  if x22 &&& 1 = x22 then some (.inl (some (.int x22)), W6) else none :=
 (zx_st (zh_L_isHarness G) [61, 94, 115, 154, 171, 214, 263, 316, 341, 367, 386, 422, 472, 517, 569, 606, 750, 771, 799, 943, 1005, 1049, 1078, 1110, 1163, 1188, 1215, 1250, 1277] 400 1110 _ _ _).trans rfl
set_option maxRecDepth 100000 in
theorem q_L_isHarness_1163 (G : Nat × Nat) (a0 : Nat) (a1 : Nat) (a2 : Nat) (a3 : Nat) (a4 : Nat) (a5 : Nat) (a6 : Nat) (x7 : Int32) (x8 : Int32) (x9 : Int32) (x10 : Int32) (x11 : Int32) (x12 : Int32) (W : zW) : ev_ G 218 1163 [.ref a0, .ref a1, .ref a2, .ref a3, .ref a4, .ref a5, .ref a6, .int x7, .int x8, .int x9, .int x10, .int x11, .int x12, zU, zU, zU, zU, zU, zU, zU, zU, zU, zU, zU] [] W =
 (zld false W a6 2).bind fun t1 =>
 if (t1 + 1) = 0 then none else
 (zld false W a6 2).bind fun t2 =>
 if (t2 ≤ (x8 - x8 / (t1 + 1) * (t1 + 1)) : Prop) then
  (ev_ G 218 1188 [.ref a0, .ref a1, .ref a2, .ref a3, .ref a4, .ref a5, .ref a6, .int x7, .int x8, .int x9, .int x10, .int x11, .int x12, .int (x8 - x8 / (t1 + 1) * (t1 + 1)), zU, zU, zU, zU, zU, zU, zU, zU, zU, zU] [.int 0] W)
 else
  ev_ G 218 1188 [.ref a0, .ref a1, .ref a2, .ref a3, .ref a4, .ref a5, .ref a6, .int x7, .int x8, .int x9, .int x10, .int x11, .int x12, .int (x8 - x8 / (t1 + 1) * (t1 + 1)), zU, zU, zU, zU, zU, zU, zU, zU, zU, zU] [.int 1] W :=
 (zx_st (zh_L_isHarness G) [61, 94, 115, 154, 171, 214, 263, 316, 341, 367, 386, 422, 472, 517, 569, 606, 750, 771, 799, 943, 1005, 1049, 1078, 1110, 1163, 1188, 1215, 1250, 1277] 400 1163 _ _ _).trans rfl
set_option maxRecDepth 100000 in
theorem q_L_isHarness_1188 (G : Nat × Nat) (a0 : Nat) (a1 : Nat) (a2 : Nat) (a3 : Nat) (a4 : Nat) (a5 : Nat) (a6 : Nat) (x7 : Int32) (x8 : Int32) (x9 : Int32) (x10 : Int32) (x11 : Int32) (x12 : Int32) (x13 : Int32) (x_0 : Int32) (W : zW) : ev_ G 218 1188 [.ref a0, .ref a1, .ref a2, .ref a3, .ref a4, .ref a5, .ref a6, .int x7, .int x8, .int x9, .int x10, .int x11, .int x12, .int x13, zU, zU, zU, zU, zU, zU, zU, zU, zU, zU] [.int x_0] W =
 if x_0 = 0 then
  (ev_ G 218 1215 [.ref a0, .ref a1, .ref a2, .ref a3, .ref a4, .ref a5, .ref a6, .int x7, .int x8, .int x9, .int x10, .int x11, .int x12, .int x13, .int x_0, .int 0, .int 0, zU, zU, zU, zU, zU, zU, zU] [] W)
 else
  (zld false W a4 x13).bind fun t1 =>
  if (32768 ≤ t1 : Prop) then
   (ev_ G 218 1215 [.ref a0, .ref a1, .ref a2, .ref a3, .ref a4, .ref a5, .ref a6, .int x7, .int x8, .int x9, .int x10, .int x11, .int x12, .int x13, .int x_0, .int 0, .int 0, zU, zU, zU, zU, zU, zU, zU] [] W)
  else
   ev_ G 218 1215 [.ref a0, .ref a1, .ref a2, .ref a3, .ref a4, .ref a5, .ref a6, .int x7, .int x8, .int x9, .int x10, .int x11, .int x12, .int x13, .int x_0, .int 1, .int 0, zU, zU, zU, zU, zU, zU, zU] [] W :=
 (zx_st (zh_L_isHarness G) [61, 94, 115, 154, 171, 214, 263, 316, 341, 367, 386, 422, 472, 517, 569, 606, 750, 771, 799, 943, 1005, 1049, 1078, 1110, 1163, 1188, 1215, 1250, 1277] 400 1188 _ _ _).trans rfl
set_option maxRecDepth 100000 in
theorem q_L_isHarness_1215 (G : Nat × Nat) (a0 : Nat) (a1 : Nat) (a2 : Nat) (a3 : Nat) (a4 : Nat) (a5 : Nat) (a6 : Nat) (x7 : Int32) (x8 : Int32) (x9 : Int32) (x10 : Int32) (x11 : Int32) (x12 : Int32) (x13 : Int32) (x14 : Int32) (x15 : Int32) (x16 : Int32) (W : zW) : ev_ G 218 1215 [.ref a0, .ref a1, .ref a2, .ref a3, .ref a4, .ref a5, .ref a6, .int x7, .int x8, .int x9, .int x10, .int x11, .int x12, .int x13, .int x14, .int x15, .int x16, zU, zU, zU, zU, zU, zU, zU] [] W =
 if (16 ≤ x16 : Prop) then
  (ev_ G 218 1250 [.ref a0, .ref a1, .ref a2, .ref a3, .ref a4, .ref a5, .ref a6, .int x7, .int x8, .int x9, .int x10, .int x11, .int x12, .int x13, .int x14, .int x15, .int x16, zU, zU, zU, zU, zU, zU, zU] [] W)
 else
  if x15 = 0 then
   (ev_ G 218 1250 [.ref a0, .ref a1, .ref a2, .ref a3, .ref a4, .ref a5, .ref a6, .int x7, .int x8, .int x9, .int x10, .int x11, .int x12, .int x13, .int x14, .int x15, .int x16, zU, zU, zU, zU, zU, zU, zU] [] W)
  else
   (zld false W a2 x16).bind fun t1 =>
   (zld false W a5 x13).bind fun t2 =>
   (zsto 0 W a2 x16 ((t1 + ((t2 >>> (x16 &&& 31)) &&& 1)))).bind fun W3 =>
   ev_ G 218 1215 [.ref a0, .ref a1, .ref a2, .ref a3, .ref a4, .ref a5, .ref a6, .int x7, .int x8, .int x9, .int x10, .int x11, .int x12, .int x13, .int x14, .int x15, .int (x16 + 1), zU, zU, zU, zU, zU, zU, zU] [] W3 :=
 (zx_st (zh_L_isHarness G) [61, 94, 115, 154, 171, 214, 263, 316, 341, 367, 386, 422, 472, 517, 569, 606, 750, 771, 799, 943, 1005, 1049, 1078, 1110, 1163, 1188, 1215, 1250, 1277] 400 1215 _ _ _).trans rfl
set_option maxRecDepth 100000 in
theorem q_L_isHarness_1250 (G : Nat × Nat) (a0 : Nat) (a1 : Nat) (a2 : Nat) (a3 : Nat) (a4 : Nat) (a5 : Nat) (a6 : Nat) (x7 : Int32) (x8 : Int32) (x9 : Int32) (x10 : Int32) (x11 : Int32) (x12 : Int32) (x13 : Int32) (x14 : Int32) (x15 : Int32) (x16 : Int32) (W : zW) : ev_ G 218 1250 [.ref a0, .ref a1, .ref a2, .ref a3, .ref a4, .ref a5, .ref a6, .int x7, .int x8, .int x9, .int x10, .int x11, .int x12, .int x13, .int x14, .int x15, .int x16, zU, zU, zU, zU, zU, zU, zU] [] W =
 if x15 = 0 then
  ((zld false W a4 24).bind fun t1 =>
   if x15 = 0 then
    (ev_ G 218 1277 [.ref a0, .ref a1, .ref a2, .ref a3, .ref a4, .ref a5, .ref a6, .int x7, .int x8, .int x9, .int x10, .int x11, .int x12, .int x13, .int x14, .int x15, .int x16, zU, zU, zU, zU, zU, zU, zU] [.int 0, .int t1, .int 24, .ref a4] W)
   else
    ev_ G 218 1277 [.ref a0, .ref a1, .ref a2, .ref a3, .ref a4, .ref a5, .ref a6, .int x7, .int x8, .int x9, .int x10, .int x11, .int x12, .int x13, .int x14, .int x15, .int x16, zU, zU, zU, zU, zU, zU, zU] [.int 32768, .int t1, .int 24, .ref a4] W)
 else
  (zld false W a4 x13).bind fun t2 =>
  if x15 = 0 then
   (ev_ G 218 1277 [.ref a0, .ref a1, .ref a2, .ref a3, .ref a4, .ref a5, .ref a6, .int x7, .int x8, .int x9, .int x10, .int x11, .int x12, .int x13, .int x14, .int x15, .int x16, zU, zU, zU, zU, zU, zU, zU] [.int 0, .int t2, .int x13, .ref a4] W)
  else
   ev_ G 218 1277 [.ref a0, .ref a1, .ref a2, .ref a3, .ref a4, .ref a5, .ref a6, .int x7, .int x8, .int x9, .int x10, .int x11, .int x12, .int x13, .int x14, .int x15, .int x16, zU, zU, zU, zU, zU, zU, zU] [.int 32768, .int t2, .int x13, .ref a4] W :=
 (zx_st (zh_L_isHarness G) [61, 94, 115, 154, 171, 214, 263, 316, 341, 367, 386, 422, 472, 517, 569, 606, 750, 771, 799, 943, 1005, 1049, 1078, 1110, 1163, 1188, 1215, 1250, 1277] 400 1250 _ _ _).trans rfl
set_option maxRecDepth 100000 in
theorem q_L_isHarness_1277 (G : Nat × Nat) (a0 : Nat) (a1 : Nat) (a2 : Nat) (a3 : Nat) (a4 : Nat) (a5 : Nat) (a6 : Nat) (x7 : Int32) (x8 : Int32) (x9 : Int32) (x10 : Int32) (x11 : Int32) (x12 : Int32) (x13 : Int32) (x14 : Int32) (x15 : Int32) (x16 : Int32) (a_0 : Nat) (x_1 : Int32) (x_2 : Int32) (x_3 : Int32) (W : zW) : ev_ G 218 1277 [.ref a0, .ref a1, .ref a2, .ref a3, .ref a4, .ref a5, .ref a6, .int x7, .int x8, .int x9, .int x10, .int x11, .int x12, .int x13, .int x14, .int x15, .int x16, zU, zU, zU, zU, zU, zU, zU] [.int x_3, .int x_2, .int x_1, .ref a_0] W =
 (zsto 0 W a_0 x_1 (x_2 + x_3)).bind fun W1 =>
 zthI (ev_ G 207 0 [.ref a0, .int 4, .int x13, .int 0, .int 0, .int 0, .int 0, zU] [] W1)
  (fun t3 W2 =>
 if x14 = 0 then
   (if (t3 = (-3000000) : Prop) then
     (if (1 : Int32) &&& 1 = 1 then some (.inl (some (.int 1)), W2) else none)
    else
     if (0 : Int32) &&& 1 = 0 then some (.inl (some (.int 0)), W2) else none)
  else
   if x15 = 0 then
    (if (t3 = (-1000000) : Prop) then
      (if (1 : Int32) &&& 1 = 1 then some (.inl (some (.int 1)), W2) else none)
     else
      if (0 : Int32) &&& 1 = 0 then some (.inl (some (.int 0)), W2) else none)
   else
    (zld false W2 a5 (24 + x13)).bind fun t4 =>
    if (t3 = t4 : Prop) then
     (if (1 : Int32) &&& 1 = 1 then some (.inl (some (.int 1)), W2) else none)
    else
     if (0 : Int32) &&& 1 = 0 then some (.inl (some (.int 0)), W2) else none)
  zxe :=
 (zx_st (zh_L_isHarness G) [61, 94, 115, 154, 171, 214, 263, 316, 341, 367, 386, 422, 472, 517, 569, 606, 750, 771, 799, 943, 1005, 1049, 1078, 1110, 1163, 1188, 1215, 1250, 1277] 400 1277 _ _ _).trans rfl
set_option maxRecDepth 100000 in
theorem q_L_window_0 (G : Nat × Nat) (a0 : Nat) (a1 : Nat) (W : zW) : ev_ G 215 0 [.ref a0, .ref a1, zU, zU, zU] [] W =
 (zld false W a1 7).bind fun t1 =>
 if (8 ≤ t1 : Prop) then
  (ev_ G 215 24 [.ref a0, .ref a1, .int 8, .int 0, .int 0] [] W)
 else
  (zld false W a1 7).bind fun t2 =>
  ev_ G 215 24 [.ref a0, .ref a1, .int t2, .int 0, .int 0] [] W :=
 (zx_st (zh_L_window G) [24] 400 0 _ _ _).trans rfl
set_option maxRecDepth 100000 in
theorem q_L_window_24 (G : Nat × Nat) (a0 : Nat) (a1 : Nat) (x2 : Int32) (x3 : Int32) (x4 : Int32) (W : zW) : ev_ G 215 24 [.ref a0, .ref a1, .int x2, .int x3, .int x4] [] W =
 if (x2 ≤ x4 : Prop) then
  ((zld false W a1 7).bind fun t1 =>
   if (3 ≤ t1 : Prop) then
    (if x2 = 0 then none else
     some (.inl (some (.int (x3 / x2))), W))
   else
    some (.inl (some (.int 0)), W))
 else
  (zld false W a0 x4).bind fun t2 =>
  ev_ G 215 24 [.ref a0, .ref a1, .int x2, .int (x3 + t2), .int (x4 + 1)] [] W :=
 (zx_st (zh_L_window G) [24] 400 24 _ _ _).trans rfl
set_option maxRecDepth 100000 in
theorem q_L_isReel_0 (G : Nat × Nat) (a0 : Nat) (a1 : Nat) (a2 : Nat) (a3 : Nat) (a4 : Nat) (a5 : Nat) (a6 : Nat) (x7 : Int32) (x8 : Int32) (x9 : Int32) (W : zW) : ev_ G 219 0 [.ref a0, .ref a1, .ref a2, .ref a3, .ref a4, .ref a5, .ref a6, .int x7, .int x8, .int x9, zU, zU, zU, zU, zU] [] W =
 if x7 = 0 then
  ((zld false W a6 4).bind fun t1 =>
   if (12 ≤ t1 : Prop) then
    (ev_ G 219 247 [.ref a0, .ref a1, .ref a2, .ref a3, .ref a4, .ref a5, .ref a6, .int x7, .int x8, .int x9, zU, zU, zU, zU, zU] [] W)
   else
    if 9 = 0 then none else
    if ((x8 - x8 / 9 * 9) = 8 : Prop) then
     (ev_ G 219 33 [.ref a0, .ref a1, .ref a2, .ref a3, .ref a4, .ref a5, .ref a6, .int x7, .int x8, .int x9, zU, zU, zU, zU, zU] [.int 6] W)
    else
     if 3 = 0 then none else
     ev_ G 219 33 [.ref a0, .ref a1, .ref a2, .ref a3, .ref a4, .ref a5, .ref a6, .int x7, .int x8, .int x9, zU, zU, zU, zU, zU] [.int (x8 - x8 / 3 * 3)] W)
 else
  ev_ G 219 247 [.ref a0, .ref a1, .ref a2, .ref a3, .ref a4, .ref a5, .ref a6, .int x7, .int x8, .int x9, zU, zU, zU, zU, zU] [] W :=
 (zx_st (zh_L_isReel G) [33, 67, 101, 133, 152, 196, 247, 276, 292, 311, 315, 331, 352, 420, 440, 478, 494, 512, 546] 400 0 _ _ _).trans rfl
set_option maxRecDepth 100000 in
theorem q_L_isReel_33 (G : Nat × Nat) (a0 : Nat) (a1 : Nat) (a2 : Nat) (a3 : Nat) (a4 : Nat) (a5 : Nat) (a6 : Nat) (x7 : Int32) (x8 : Int32) (x9 : Int32) (x_0 : Int32) (W : zW) : ev_ G 219 33 [.ref a0, .ref a1, .ref a2, .ref a3, .ref a4, .ref a5, .ref a6, .int x7, .int x8, .int x9, zU, zU, zU, zU, zU] [.int x_0] W =
 if 9 = 0 then none else
 if 9 = 0 then none else
 if ((x8 / 9) - (x8 / 9) / 9 * 9) = 0 then
  (if 81 = 0 then none else
   if 101 = 0 then none else
   ev_ G 219 67 [.ref a0, .ref a1, .ref a2, .ref a3, .ref a4, .ref a5, .ref a6, .int x7, .int x8, .int x9, .int x_0, zU, zU, zU, zU] [.int ((x8 / 81) - (x8 / 81) / 101 * 101)] W)
 else
  if 81 = 0 then none else
  if 9 = 0 then none else
  ev_ G 219 67 [.ref a0, .ref a1, .ref a2, .ref a3, .ref a4, .ref a5, .ref a6, .int x7, .int x8, .int x9, .int x_0, zU, zU, zU, zU] [.int ((1 + ((x8 / 81) - (x8 / 81) / 9 * 9)))] W :=
 (zx_st (zh_L_isReel G) [33, 67, 101, 133, 152, 196, 247, 276, 292, 311, 315, 331, 352, 420, 440, 478, 494, 512, 546] 400 33 _ _ _).trans rfl
set_option maxRecDepth 100000 in
theorem q_L_isReel_67 (G : Nat × Nat) (a0 : Nat) (a1 : Nat) (a2 : Nat) (a3 : Nat) (a4 : Nat) (a5 : Nat) (a6 : Nat) (x7 : Int32) (x8 : Int32) (x9 : Int32) (x10 : Int32) (x_0 : Int32) (W : zW) : ev_ G 219 67 [.ref a0, .ref a1, .ref a2, .ref a3, .ref a4, .ref a5, .ref a6, .int x7, .int x8, .int x9, .int x10, zU, zU, zU, zU] [.int x_0] W =
 if 9 = 0 then none else
 if (x9 - x9 / 9 * 9) = 0 then
  (if 9 = 0 then none else
   if 5002 = 0 then none else
   ev_ G 219 101 [.ref a0, .ref a1, .ref a2, .ref a3, .ref a4, .ref a5, .ref a6, .int x7, .int x8, .int x9, .int x10, .int x_0, zU, zU, zU] [.int ((x9 / 9) - (x9 / 9) / 5002 * 5002)] W)
 else
  if 9 = 0 then none else
  if 400 = 0 then none else
  ev_ G 219 101 [.ref a0, .ref a1, .ref a2, .ref a3, .ref a4, .ref a5, .ref a6, .int x7, .int x8, .int x9, .int x10, .int x_0, zU, zU, zU] [.int ((20 + ((x9 / 9) - (x9 / 9) / 400 * 400)))] W :=
 (zx_st (zh_L_isReel G) [33, 67, 101, 133, 152, 196, 247, 276, 292, 311, 315, 331, 352, 420, 440, 478, 494, 512, 546] 400 67 _ _ _).trans rfl
set_option maxRecDepth 100000 in
theorem q_L_isReel_101 (G : Nat × Nat) (a0 : Nat) (a1 : Nat) (a2 : Nat) (a3 : Nat) (a4 : Nat) (a5 : Nat) (a6 : Nat) (x7 : Int32) (x8 : Int32) (x9 : Int32) (x10 : Int32) (x11 : Int32) (x_0 : Int32) (W : zW) : ev_ G 219 101 [.ref a0, .ref a1, .ref a2, .ref a3, .ref a4, .ref a5, .ref a6, .int x7, .int x8, .int x9, .int x10, .int x11, zU, zU, zU] [.int x_0] W =
 if x11 ≤ 0 then
  (ev_ G 219 133 [.ref a0, .ref a1, .ref a2, .ref a3, .ref a4, .ref a5, .ref a6, .int x7, .int x8, .int x9, .int x10, .int x11, .int x_0, zU, zU] [.int 0] W)
 else
  if (100 ≤ x11 : Prop) then
   (ev_ G 219 133 [.ref a0, .ref a1, .ref a2, .ref a3, .ref a4, .ref a5, .ref a6, .int x7, .int x8, .int x9, .int x10, .int x11, .int x_0, zU, zU] [.int 0] W)
  else
   if x_0 ≤ 0 then
    (ev_ G 219 133 [.ref a0, .ref a1, .ref a2, .ref a3, .ref a4, .ref a5, .ref a6, .int x7, .int x8, .int x9, .int x10, .int x11, .int x_0, zU, zU] [.int 0] W)
   else
    if (5001 ≤ x_0 : Prop) then
     (ev_ G 219 133 [.ref a0, .ref a1, .ref a2, .ref a3, .ref a4, .ref a5, .ref a6, .int x7, .int x8, .int x9, .int x10, .int x11, .int x_0, zU, zU] [.int 0] W)
    else
     ev_ G 219 133 [.ref a0, .ref a1, .ref a2, .ref a3, .ref a4, .ref a5, .ref a6, .int x7, .int x8, .int x9, .int x10, .int x11, .int x_0, zU, zU] [.int 1] W :=
 (zx_st (zh_L_isReel G) [33, 67, 101, 133, 152, 196, 247, 276, 292, 311, 315, 331, 352, 420, 440, 478, 494, 512, 546] 400 101 _ _ _).trans rfl
set_option maxRecDepth 100000 in
theorem q_L_isReel_133 (G : Nat × Nat) (a0 : Nat) (a1 : Nat) (a2 : Nat) (a3 : Nat) (a4 : Nat) (a5 : Nat) (a6 : Nat) (x7 : Int32) (x8 : Int32) (x9 : Int32) (x10 : Int32) (x11 : Int32) (x12 : Int32) (x_0 : Int32) (W : zW) : ev_ G 219 133 [.ref a0, .ref a1, .ref a2, .ref a3, .ref a4, .ref a5, .ref a6, .int x7, .int x8, .int x9, .int x10, .int x11, .int x12, zU, zU] [.int x_0] W =
 if (6 ≤ x10 : Prop) then
  (ev_ G 219 152 [.ref a0, .ref a1, .ref a2, .ref a3, .ref a4, .ref a5, .ref a6, .int x7, .int x8, .int x9, .int x10, .int x11, .int x12, .int x_0, zU] [.int 0] W)
 else
  if x_0 = 0 then
   (ev_ G 219 152 [.ref a0, .ref a1, .ref a2, .ref a3, .ref a4, .ref a5, .ref a6, .int x7, .int x8, .int x9, .int x10, .int x11, .int x12, .int x_0, zU] [.int 0] W)
  else
   ev_ G 219 152 [.ref a0, .ref a1, .ref a2, .ref a3, .ref a4, .ref a5, .ref a6, .int x7, .int x8, .int x9, .int x10, .int x11, .int x12, .int x_0, zU] [.int 1] W :=
 (zx_st (zh_L_isReel G) [33, 67, 101, 133, 152, 196, 247, 276, 292, 311, 315, 331, 352, 420, 440, 478, 494, 512, 546] 400 133 _ _ _).trans rfl
set_option maxRecDepth 100000 in
theorem q_L_isReel_152 (G : Nat × Nat) (a0 : Nat) (a1 : Nat) (a2 : Nat) (a3 : Nat) (a4 : Nat) (a5 : Nat) (a6 : Nat) (x7 : Int32) (x8 : Int32) (x9 : Int32) (x10 : Int32) (x11 : Int32) (x12 : Int32) (x13 : Int32) (x_0 : Int32) (W : zW) : ev_ G 219 152 [.ref a0, .ref a1, .ref a2, .ref a3, .ref a4, .ref a5, .ref a6, .int x7, .int x8, .int x9, .int x10, .int x11, .int x12, .int x13, zU] [.int x_0] W =
 if x_0 = 0 then
  (ev_ G 219 196 [.ref a0, .ref a1, .ref a2, .ref a3, .ref a4, .ref a5, .ref a6, .int x7, .int x8, .int x9, .int x10, .int x11, .int x12, .int x13, .int x_0] [] W)
 else
  (zld false W a6 4).bind fun t1 =>
  (zsto 0 W a1 t1 (x10 + (8 * x12))).bind fun W2 =>
  (zld false W2 a6 4).bind fun t3 =>
  (zsto 0 W2 a2 t3 x11).bind fun W4 =>
  (zld false W4 a6 4).bind fun t5 =>
  (zsto 0 W4 a3 t5 (-1)).bind fun W6 =>
  (zld false W6 a6 4).bind fun t7 =>
  (zsto 0 W6 a6 4 (t7 + 1)).bind fun W8 =>
  ev_ G 219 196 [.ref a0, .ref a1, .ref a2, .ref a3, .ref a4, .ref a5, .ref a6, .int x7, .int x8, .int x9, .int x10, .int x11, .int x12, .int x13, .int x_0] [] W8 :=
 (zx_st (zh_L_isReel G) [33, 67, 101, 133, 152, 196, 247, 276, 292, 311, 315, 331, 352, 420, 440, 478, 494, 512, 546] 400 152 _ _ _).trans rfl
set_option maxRecDepth 100000 in
theorem q_L_isReel_196 (G : Nat × Nat) (a0 : Nat) (a1 : Nat) (a2 : Nat) (a3 : Nat) (a4 : Nat) (a5 : Nat) (a6 : Nat) (x7 : Int32) (x8 : Int32) (x9 : Int32) (x10 : Int32) (x11 : Int32) (x12 : Int32) (x13 : Int32) (x14 : Int32) (W : zW) : ev_ G 219 196 [.ref a0, .ref a1, .ref a2, .ref a3, .ref a4, .ref a5, .ref a6, .int x7, .int x8, .int x9, .int x10, .int x11, .int x12, .int x13, .int x14] [] W =
 zthI (ev_ G 207 0 [.ref a0, .int 8, .int x10, .int x11, .int x12, .int 0, .int 0, zU] [] W)
  (fun t2 W1 =>
 if (x10 = 6 : Prop) then
   (if (t2 = (-3000000) : Prop) then
     (if (1 : Int32) &&& 1 = 1 then some (.inl (some (.int 1)), W1) else none)
    else
     if (0 : Int32) &&& 1 = 0 then some (.inl (some (.int 0)), W1) else none)
  else
   if x14 = 0 then
    (if (t2 = (-2000000) : Prop) then
      (if (1 : Int32) &&& 1 = 1 then some (.inl (some (.int 1)), W1) else none)
     else
      if (0 : Int32) &&& 1 = 0 then some (.inl (some (.int 0)), W1) else none)
   else
    (zld false W1 a6 4).bind fun t3 =>
    if (t2 = (t3 - 1) : Prop) then
     (if (1 : Int32) &&& 1 = 1 then some (.inl (some (.int 1)), W1) else none)
    else
     if (0 : Int32) &&& 1 = 0 then some (.inl (some (.int 0)), W1) else none)
  zxe :=
 (zx_st (zh_L_isReel G) [33, 67, 101, 133, 152, 196, 247, 276, 292, 311, 315, 331, 352, 420, 440, 478, 494, 512, 546] 400 196 _ _ _).trans rfl
set_option maxRecDepth 100000 in
theorem q_L_isReel_247 (G : Nat × Nat) (a0 : Nat) (a1 : Nat) (a2 : Nat) (a3 : Nat) (a4 : Nat) (a5 : Nat) (a6 : Nat) (x7 : Int32) (x8 : Int32) (x9 : Int32) (W : zW) : ev_ G 219 247 [.ref a0, .ref a1, .ref a2, .ref a3, .ref a4, .ref a5, .ref a6, .int x7, .int x8, .int x9, zU, zU, zU, zU, zU] [] W =
 if (2 ≤ x7 : Prop) then
  (if 9 = 0 then none else
   if (x8 - x8 / 9 * 9) = 0 then
    (if 10001 = 0 then none else
     ev_ G 219 420 [.ref a0, .ref a1, .ref a2, .ref a3, .ref a4, .ref a5, .ref a6, .int x7, .int x8, .int x9, zU, zU, zU, zU, zU] [.int (x9 - x9 / 10001 * 10001)] W)
   else
    if 120 = 0 then none else
    ev_ G 219 420 [.ref a0, .ref a1, .ref a2, .ref a3, .ref a4, .ref a5, .ref a6, .int x7, .int x8, .int x9, zU, zU, zU, zU, zU] [.int (450 + (x9 - x9 / 120 * 120))] W)
 else
  (zld false W a6 4).bind fun t1 =>
  if (t1 + 1) = 0 then none else
  if 3 = 0 then none else
  if (x9 - x9 / 3 * 3) = 0 then
   (ev_ G 219 276 [.ref a0, .ref a1, .ref a2, .ref a3, .ref a4, .ref a5, .ref a6, .int x7, .int x8, .int x9, .int (x8 - x8 / (t1 + 1) * (t1 + 1)), zU, zU, zU, zU] [.int 1] W)
  else
   ev_ G 219 276 [.ref a0, .ref a1, .ref a2, .ref a3, .ref a4, .ref a5, .ref a6, .int x7, .int x8, .int x9, .int (x8 - x8 / (t1 + 1) * (t1 + 1)), zU, zU, zU, zU] [.int 0] W :=
 (zx_st (zh_L_isReel G) [33, 67, 101, 133, 152, 196, 247, 276, 292, 311, 315, 331, 352, 420, 440, 478, 494, 512, 546] 400 247 _ _ _).trans rfl
set_option maxRecDepth 100000 in
theorem q_L_isReel_276 (G : Nat × Nat) (a0 : Nat) (a1 : Nat) (a2 : Nat) (a3 : Nat) (a4 : Nat) (a5 : Nat) (a6 : Nat) (x7 : Int32) (x8 : Int32) (x9 : Int32) (x10 : Int32) (x_0 : Int32) (W : zW) : ev_ G 219 276 [.ref a0, .ref a1, .ref a2, .ref a3, .ref a4, .ref a5, .ref a6, .int x7, .int x8, .int x9, .int x10, zU, zU, zU, zU] [.int x_0] W =
 (zld false W a6 4).bind fun t1 =>
 if (t1 ≤ x10 : Prop) then
  (ev_ G 219 292 [.ref a0, .ref a1, .ref a2, .ref a3, .ref a4, .ref a5, .ref a6, .int x7, .int x8, .int x9, .int x10, .int x_0, zU, zU, zU] [.int 0] W)
 else
  ev_ G 219 292 [.ref a0, .ref a1, .ref a2, .ref a3, .ref a4, .ref a5, .ref a6, .int x7, .int x8, .int x9, .int x10, .int x_0, zU, zU, zU] [.int 1] W :=
 (zx_st (zh_L_isReel G) [33, 67, 101, 133, 152, 196, 247, 276, 292, 311, 315, 331, 352, 420, 440, 478, 494, 512, 546] 400 276 _ _ _).trans rfl
set_option maxRecDepth 100000 in
theorem q_L_isReel_292 (G : Nat × Nat) (a0 : Nat) (a1 : Nat) (a2 : Nat) (a3 : Nat) (a4 : Nat) (a5 : Nat) (a6 : Nat) (x7 : Int32) (x8 : Int32) (x9 : Int32) (x10 : Int32) (x11 : Int32) (x_0 : Int32) (W : zW) : ev_ G 219 292 [.ref a0, .ref a1, .ref a2, .ref a3, .ref a4, .ref a5, .ref a6, .int x7, .int x8, .int x9, .int x10, .int x11, zU, zU, zU] [.int x_0] W =
 if x_0 = 0 then
  (ev_ G 219 315 [.ref a0, .ref a1, .ref a2, .ref a3, .ref a4, .ref a5, .ref a6, .int x7, .int x8, .int x9, .int x10, .int x11, .int x_0, zU, zU] [] W)
 else
  (zld false W a3 x10).bind fun t1 =>
  if t1 < 0 then
   (ev_ G 219 311 [.ref a0, .ref a1, .ref a2, .ref a3, .ref a4, .ref a5, .ref a6, .int x7, .int x8, .int x9, .int x10, .int x11, .int x_0, zU, zU] [] W)
  else
   if x11 = 0 then
    (ev_ G 219 315 [.ref a0, .ref a1, .ref a2, .ref a3, .ref a4, .ref a5, .ref a6, .int x7, .int x8, .int x9, .int x10, .int x11, .int x_0, zU, zU] [] W)
   else
    ev_ G 219 311 [.ref a0, .ref a1, .ref a2, .ref a3, .ref a4, .ref a5, .ref a6, .int x7, .int x8, .int x9, .int x10, .int x11, .int x_0, zU, zU] [] W :=
 (zx_st (zh_L_isReel G) [33, 67, 101, 133, 152, 196, 247, 276, 292, 311, 315, 331, 352, 420, 440, 478, 494, 512, 546] 400 292 _ _ _).trans rfl
set_option maxRecDepth 100000 in
theorem q_L_isReel_311 (G : Nat × Nat) (a0 : Nat) (a1 : Nat) (a2 : Nat) (a3 : Nat) (a4 : Nat) (a5 : Nat) (a6 : Nat) (x7 : Int32) (x8 : Int32) (x9 : Int32) (x10 : Int32) (x11 : Int32) (x12 : Int32) (W : zW) : ev_ G 219 311 [.ref a0, .ref a1, .ref a2, .ref a3, .ref a4, .ref a5, .ref a6, .int x7, .int x8, .int x9, .int x10, .int x11, .int x12, zU, zU] [] W =
 if 1 = 0 then
  (ev_ G 219 331 [.ref a0, .ref a1, .ref a2, .ref a3, .ref a4, .ref a5, .ref a6, .int x7, .int x8, .int x9, .int x10, .int x11, .int x12, .int 1, zU] [.int 12, .ref a3] W)
 else
  ev_ G 219 331 [.ref a0, .ref a1, .ref a2, .ref a3, .ref a4, .ref a5, .ref a6, .int x7, .int x8, .int x9, .int x10, .int x11, .int x12, .int 1, zU] [.int x10, .ref a3] W :=
 (zx_st (zh_L_isReel G) [33, 67, 101, 133, 152, 196, 247, 276, 292, 311, 315, 331, 352, 420, 440, 478, 494, 512, 546] 400 311 _ _ _).trans rfl
set_option maxRecDepth 100000 in
theorem q_L_isReel_315 (G : Nat × Nat) (a0 : Nat) (a1 : Nat) (a2 : Nat) (a3 : Nat) (a4 : Nat) (a5 : Nat) (a6 : Nat) (x7 : Int32) (x8 : Int32) (x9 : Int32) (x10 : Int32) (x11 : Int32) (x12 : Int32) (W : zW) : ev_ G 219 315 [.ref a0, .ref a1, .ref a2, .ref a3, .ref a4, .ref a5, .ref a6, .int x7, .int x8, .int x9, .int x10, .int x11, .int x12, zU, zU] [] W =
 if 0 = 0 then
  (ev_ G 219 331 [.ref a0, .ref a1, .ref a2, .ref a3, .ref a4, .ref a5, .ref a6, .int x7, .int x8, .int x9, .int x10, .int x11, .int x12, .int 0, zU] [.int 12, .ref a3] W)
 else
  ev_ G 219 331 [.ref a0, .ref a1, .ref a2, .ref a3, .ref a4, .ref a5, .ref a6, .int x7, .int x8, .int x9, .int x10, .int x11, .int x12, .int 0, zU] [.int x10, .ref a3] W :=
 (zx_st (zh_L_isReel G) [33, 67, 101, 133, 152, 196, 247, 276, 292, 311, 315, 331, 352, 420, 440, 478, 494, 512, 546] 400 315 _ _ _).trans rfl
set_option maxRecDepth 100000 in
theorem q_L_isReel_331 (G : Nat × Nat) (a0 : Nat) (a1 : Nat) (a2 : Nat) (a3 : Nat) (a4 : Nat) (a5 : Nat) (a6 : Nat) (x7 : Int32) (x8 : Int32) (x9 : Int32) (x10 : Int32) (x11 : Int32) (x12 : Int32) (x13 : Int32) (a_0 : Nat) (x_1 : Int32) (W : zW) : ev_ G 219 331 [.ref a0, .ref a1, .ref a2, .ref a3, .ref a4, .ref a5, .ref a6, .int x7, .int x8, .int x9, .int x10, .int x11, .int x12, .int x13, zU] [.int x_1, .ref a_0] W =
 (zld false W a4 17).bind fun t1 =>
 (zsto 0 W a_0 x_1 t1).bind fun W2 =>
 if x11 = 0 then
  (ev_ G 219 352 [.ref a0, .ref a1, .ref a2, .ref a3, .ref a4, .ref a5, .ref a6, .int x7, .int x8, .int x9, .int x10, .int x11, .int x12, .int x13, zU] [.int 0, .int x10, .int 9, .ref a0] W2)
 else
  ev_ G 219 352 [.ref a0, .ref a1, .ref a2, .ref a3, .ref a4, .ref a5, .ref a6, .int x7, .int x8, .int x9, .int x10, .int x11, .int x12, .int x13, zU] [.int 1, .int x10, .int 9, .ref a0] W2 :=
 (zx_st (zh_L_isReel G) [33, 67, 101, 133, 152, 196, 247, 276, 292, 311, 315, 331, 352, 420, 440, 478, 494, 512, 546] 400 331 _ _ _).trans rfl
set_option maxRecDepth 100000 in
theorem q_L_isReel_352 (G : Nat × Nat) (a0 : Nat) (a1 : Nat) (a2 : Nat) (a3 : Nat) (a4 : Nat) (a5 : Nat) (a6 : Nat) (x7 : Int32) (x8 : Int32) (x9 : Int32) (x10 : Int32) (x11 : Int32) (x12 : Int32) (x13 : Int32) (a_0 : Nat) (x_1 : Int32) (x_2 : Int32) (x_3 : Int32) (W : zW) : ev_ G 219 352 [.ref a0, .ref a1, .ref a2, .ref a3, .ref a4, .ref a5, .ref a6, .int x7, .int x8, .int x9, .int x10, .int x11, .int x12, .int x13, zU] [.int x_3, .int x_2, .int x_1, .ref a_0] W =
 zthI (ev_ G 207 0 [.ref a_0, .int x_1, .int x_2, .int x_3, .int 0, .int 0, .int 0, zU] [] W)
  (fun t2 W1 =>
 if x12 = 0 then
   (if (t2 = (-3000000) : Prop) then
     (if (1 : Int32) &&& 1 = 1 then some (.inl (some (.int 1)), W1) else none)
    else
     if (0 : Int32) &&& 1 = 0 then some (.inl (some (.int 0)), W1) else none)
  else
   if x13 = 0 then
    (if (t2 = (-1000000) : Prop) then
      (if (1 : Int32) &&& 1 = 1 then some (.inl (some (.int 1)), W1) else none)
     else
      if (0 : Int32) &&& 1 = 0 then some (.inl (some (.int 0)), W1) else none)
   else
    (zld false W1 a1 x10).bind fun t3 =>
    if 8 = 0 then none else
    if (t2 = (t3 / 8) : Prop) then
     (if (1 : Int32) &&& 1 = 1 then some (.inl (some (.int 1)), W1) else none)
    else
     if (0 : Int32) &&& 1 = 0 then some (.inl (some (.int 0)), W1) else none)
  zxe :=
 (zx_st (zh_L_isReel G) [33, 67, 101, 133, 152, 196, 247, 276, 292, 311, 315, 331, 352, 420, 440, 478, 494, 512, 546] 400 352 _ _ _).trans rfl
set_option maxRecDepth 100000 in
theorem q_L_isReel_420 (G : Nat × Nat) (a0 : Nat) (a1 : Nat) (a2 : Nat) (a3 : Nat) (a4 : Nat) (a5 : Nat) (a6 : Nat) (x7 : Int32) (x8 : Int32) (x9 : Int32) (x_0 : Int32) (W : zW) : ev_ G 219 420 [.ref a0, .ref a1, .ref a2, .ref a3, .ref a4, .ref a5, .ref a6, .int x7, .int x8, .int x9, zU, zU, zU, zU, zU] [.int x_0] W =
 if x_0 ≤ 0 then
  (ev_ G 219 440 [.ref a0, .ref a1, .ref a2, .ref a3, .ref a4, .ref a5, .ref a6, .int x7, .int x8, .int x9, .int x_0, zU, zU, zU, zU] [.int 0] W)
 else
  if (10000 ≤ x_0 : Prop) then
   (ev_ G 219 440 [.ref a0, .ref a1, .ref a2, .ref a3, .ref a4, .ref a5, .ref a6, .int x7, .int x8, .int x9, .int x_0, zU, zU, zU, zU] [.int 0] W)
  else
   ev_ G 219 440 [.ref a0, .ref a1, .ref a2, .ref a3, .ref a4, .ref a5, .ref a6, .int x7, .int x8, .int x9, .int x_0, zU, zU, zU, zU] [.int 1] W :=
 (zx_st (zh_L_isReel G) [33, 67, 101, 133, 152, 196, 247, 276, 292, 311, 315, 331, 352, 420, 440, 478, 494, 512, 546] 400 420 _ _ _).trans rfl
set_option maxRecDepth 100000 in
theorem q_L_isReel_440 (G : Nat × Nat) (a0 : Nat) (a1 : Nat) (a2 : Nat) (a3 : Nat) (a4 : Nat) (a5 : Nat) (a6 : Nat) (x7 : Int32) (x8 : Int32) (x9 : Int32) (x10 : Int32) (x_0 : Int32) (W : zW) : ev_ G 219 440 [.ref a0, .ref a1, .ref a2, .ref a3, .ref a4, .ref a5, .ref a6, .int x7, .int x8, .int x9, .int x10, zU, zU, zU, zU] [.int x_0] W =
 zthI (ev_ G 215 0 [.ref a5, .ref a6, zU, zU, zU] [] W)
  (fun t2 W1 =>
 (zld false W1 a6 7).bind fun t3 =>
  if (t3 < 3 : Prop) then
   (ev_ G 219 494 [.ref a0, .ref a1, .ref a2, .ref a3, .ref a4, .ref a5, .ref a6, .int x7, .int x8, .int x9, .int x10, .int x_0, .int (x10 - t2), zU, zU] [.int 1] W1)
  else
   if 0 ≤ (x10 - t2) then
    (ev_ G 219 478 [.ref a0, .ref a1, .ref a2, .ref a3, .ref a4, .ref a5, .ref a6, .int x7, .int x8, .int x9, .int x10, .int x_0, .int (x10 - t2), zU, zU] [.int (x10 - t2), .int 10] W1)
   else
    ev_ G 219 478 [.ref a0, .ref a1, .ref a2, .ref a3, .ref a4, .ref a5, .ref a6, .int x7, .int x8, .int x9, .int x10, .int x_0, .int (x10 - t2), zU, zU] [.int (-(x10 - t2)), .int 10] W1)
  zxe :=
 (zx_st (zh_L_isReel G) [33, 67, 101, 133, 152, 196, 247, 276, 292, 311, 315, 331, 352, 420, 440, 478, 494, 512, 546] 400 440 _ _ _).trans rfl
set_option maxRecDepth 100000 in
theorem q_L_isReel_478 (G : Nat × Nat) (a0 : Nat) (a1 : Nat) (a2 : Nat) (a3 : Nat) (a4 : Nat) (a5 : Nat) (a6 : Nat) (x7 : Int32) (x8 : Int32) (x9 : Int32) (x10 : Int32) (x11 : Int32) (x12 : Int32) (x_0 : Int32) (x_1 : Int32) (W : zW) : ev_ G 219 478 [.ref a0, .ref a1, .ref a2, .ref a3, .ref a4, .ref a5, .ref a6, .int x7, .int x8, .int x9, .int x10, .int x11, .int x12, zU, zU] [.int x_1, .int x_0] W =
 zthI (ev_ G 215 0 [.ref a5, .ref a6, zU, zU, zU] [] W)
  (fun t2 W1 =>
 if (t2 < (x_0 * x_1) : Prop) then
   (ev_ G 219 494 [.ref a0, .ref a1, .ref a2, .ref a3, .ref a4, .ref a5, .ref a6, .int x7, .int x8, .int x9, .int x10, .int x11, .int x12, zU, zU] [.int 0] W1)
  else
   ev_ G 219 494 [.ref a0, .ref a1, .ref a2, .ref a3, .ref a4, .ref a5, .ref a6, .int x7, .int x8, .int x9, .int x10, .int x11, .int x12, zU, zU] [.int 1] W1)
  zxe :=
 (zx_st (zh_L_isReel G) [33, 67, 101, 133, 152, 196, 247, 276, 292, 311, 315, 331, 352, 420, 440, 478, 494, 512, 546] 400 478 _ _ _).trans rfl
set_option maxRecDepth 100000 in
theorem q_L_isReel_494 (G : Nat × Nat) (a0 : Nat) (a1 : Nat) (a2 : Nat) (a3 : Nat) (a4 : Nat) (a5 : Nat) (a6 : Nat) (x7 : Int32) (x8 : Int32) (x9 : Int32) (x10 : Int32) (x11 : Int32) (x12 : Int32) (x_0 : Int32) (W : zW) : ev_ G 219 494 [.ref a0, .ref a1, .ref a2, .ref a3, .ref a4, .ref a5, .ref a6, .int x7, .int x8, .int x9, .int x10, .int x11, .int x12, zU, zU] [.int x_0] W =
 (zld false W a6 6).bind fun t1 =>
 if x11 = 0 then
  (ev_ G 219 512 [.ref a0, .ref a1, .ref a2, .ref a3, .ref a4, .ref a5, .ref a6, .int x7, .int x8, .int x9, .int x10, .int x11, .int x12, .int x_0, zU] [.int 0, .int t1, .int 6, .ref a6] W)
 else
  ev_ G 219 512 [.ref a0, .ref a1, .ref a2, .ref a3, .ref a4, .ref a5, .ref a6, .int x7, .int x8, .int x9, .int x10, .int x11, .int x12, .int x_0, zU] [.int 1, .int t1, .int 6, .ref a6] W :=
 (zx_st (zh_L_isReel G) [33, 67, 101, 133, 152, 196, 247, 276, 292, 311, 315, 331, 352, 420, 440, 478, 494, 512, 546] 400 494 _ _ _).trans rfl
set_option maxRecDepth 100000 in
theorem q_L_isReel_512 (G : Nat × Nat) (a0 : Nat) (a1 : Nat) (a2 : Nat) (a3 : Nat) (a4 : Nat) (a5 : Nat) (a6 : Nat) (x7 : Int32) (x8 : Int32) (x9 : Int32) (x10 : Int32) (x11 : Int32) (x12 : Int32) (x13 : Int32) (a_0 : Nat) (x_1 : Int32) (x_2 : Int32) (x_3 : Int32) (W : zW) : ev_ G 219 512 [.ref a0, .ref a1, .ref a2, .ref a3, .ref a4, .ref a5, .ref a6, .int x7, .int x8, .int x9, .int x10, .int x11, .int x12, .int x13, zU] [.int x_3, .int x_2, .int x_1, .ref a_0] W =
 (zsto 0 W a_0 x_1 (x_2 + x_3)).bind fun W1 =>
 if x11 = 0 then
  (ev_ G 219 546 [.ref a0, .ref a1, .ref a2, .ref a3, .ref a4, .ref a5, .ref a6, .int x7, .int x8, .int x9, .int x10, .int x11, .int x12, .int x13, zU] [] W1)
 else
  if x13 = 0 then
   (ev_ G 219 546 [.ref a0, .ref a1, .ref a2, .ref a3, .ref a4, .ref a5, .ref a6, .int x7, .int x8, .int x9, .int x10, .int x11, .int x12, .int x13, zU] [] W1)
  else
   (zld false W1 a6 7).bind fun t2 =>
   if 8 = 0 then none else
   (zsto 0 W1 a5 (t2 - t2 / 8 * 8) x10).bind fun W3 =>
   (zld false W3 a6 7).bind fun t4 =>
   (zsto 0 W3 a6 7 (t4 + 1)).bind fun W5 =>
   ev_ G 219 546 [.ref a0, .ref a1, .ref a2, .ref a3, .ref a4, .ref a5, .ref a6, .int x7, .int x8, .int x9, .int x10, .int x11, .int x12, .int x13, zU] [] W5 :=
 (zx_st (zh_L_isReel G) [33, 67, 101, 133, 152, 196, 247, 276, 292, 311, 315, 331, 352, 420, 440, 478, 494, 512, 546] 400 512 _ _ _).trans rfl
set_option maxRecDepth 100000 in
theorem q_L_isReel_546 (G : Nat × Nat) (a0 : Nat) (a1 : Nat) (a2 : Nat) (a3 : Nat) (a4 : Nat) (a5 : Nat) (a6 : Nat) (x7 : Int32) (x8 : Int32) (x9 : Int32) (x10 : Int32) (x11 : Int32) (x12 : Int32) (x13 : Int32) (W : zW) : ev_ G 219 546 [.ref a0, .ref a1, .ref a2, .ref a3, .ref a4, .ref a5, .ref a6, .int x7, .int x8, .int x9, .int x10, .int x11, .int x12, .int x13, zU] [] W =
 zthI (ev_ G 207 0 [.ref a0, .int 7, .int x10, .int 0, .int 0, .int 0, .int 0, zU] [] W)
  (fun t2 W1 =>
 if x11 = 0 then
   (if (t2 = (-2000000) : Prop) then
     (if (1 : Int32) &&& 1 = 1 then some (.inl (some (.int 1)), W1) else none)
    else
     if (0 : Int32) &&& 1 = 0 then some (.inl (some (.int 0)), W1) else none)
  else
   if x13 = 0 then
    (if (t2 = 0 : Prop) then
      (if (1 : Int32) &&& 1 = 1 then some (.inl (some (.int 1)), W1) else none)
     else
      if (0 : Int32) &&& 1 = 0 then some (.inl (some (.int 0)), W1) else none)
   else
    if (t2 = 1 : Prop) then
     (if (1 : Int32) &&& 1 = 1 then some (.inl (some (.int 1)), W1) else none)
    else
     if (0 : Int32) &&& 1 = 0 then some (.inl (some (.int 0)), W1) else none)
  zxe :=
 (zx_st (zh_L_isReel G) [33, 67, 101, 133, 152, 196, 247, 276, 292, 311, 315, 331, 352, 420, 440, 478, 494, 512, 546] 400 546 _ _ _).trans rfl
set_option maxRecDepth 100000 in
theorem q_L_runs_0 (G : Nat × Nat) (a0 : Nat) (a1 : Nat) (a2 : Nat) (x3 : Int32) (W : zW) : ev_ G 213 0 [.ref a0, .ref a1, .ref a2, .int x3, zU] [] W =
 (zld false W a1 x3).bind fun t1 =>
 if 0 ≤ t1 then
  ((zld false W a0 x3).bind fun t2 =>
   if 8 = 0 then none else
   (zld false W a2 17).bind fun t3 =>
   (zld false W a1 x3).bind fun t4 =>
   ev_ G 213 25 [.ref a0, .ref a1, .ref a2, .int x3, zU] [.int ((t2 / 8) - (t3 - t4))] W)
 else
  ev_ G 213 25 [.ref a0, .ref a1, .ref a2, .int x3, zU] [.int (-1)] W :=
 (zx_st (zh_L_runs G) [25] 400 0 _ _ _).trans rfl
set_option maxRecDepth 100000 in
theorem q_L_runs_25 (G : Nat × Nat) (a0 : Nat) (a1 : Nat) (a2 : Nat) (x3 : Int32) (x_0 : Int32) (W : zW) : ev_ G 213 25 [.ref a0, .ref a1, .ref a2, .int x3, zU] [.int x_0] W =
 if 0 ≤ x_0 then
  (some (.inl (some (.int x_0)), W))
 else
  some (.inl (some (.int (-1))), W) :=
 (zx_st (zh_L_runs G) [25] 400 25 _ _ _).trans rfl
set_option maxRecDepth 100000 in
theorem q_L_gives_0 (G : Nat × Nat) (a0 : Nat) (a1 : Nat) (a2 : Nat) (a3 : Nat) (x4 : Int32) (W : zW) : ev_ G 214 0 [.ref a0, .ref a1, .ref a2, .ref a3, .int x4] [] W =
 zthI (ev_ G 213 0 [.ref a0, .ref a2, .ref a3, .int x4, zU] [] W)
  (fun t2 W1 =>
 if t2 < 0 then
   (if (0 : Int32) &&& 1 = 0 then some (.inl (some (.int 0)), W1) else none)
  else
   (zld false W1 a1 x4).bind fun t3 =>
   if t3 ≤ 0 then
    (if (0 : Int32) &&& 1 = 0 then some (.inl (some (.int 0)), W1) else none)
   else
    if (1 : Int32) &&& 1 = 1 then some (.inl (some (.int 1)), W1) else none)
  zxe :=
 (zx_st (zh_L_gives G) [] 400 0 _ _ _).trans rfl
set_option maxRecDepth 100000 in
theorem q_L_soldered_0 (G : Nat × Nat) (a0 : Nat) (a1 : Nat) (a2 : Nat) (x3 : Int32) (W : zW) : ev_ G 220 0 [.ref a0, .ref a1, .ref a2, .int x3, zU, zU, zU, zU, zU, zU] [] W =
 ev_ G 220 9 [.ref a0, .ref a1, .ref a2, .int x3, .int 2, .int (8 * x3), zU, zU, zU, zU] [] W :=
 (zx_st (zh_L_soldered G) [9, 59, 104, 135, 205] 400 0 _ _ _).trans rfl
set_option maxRecDepth 100000 in
theorem q_L_soldered_9 (G : Nat × Nat) (a0 : Nat) (a1 : Nat) (a2 : Nat) (x3 : Int32) (x4 : Int32) (x5 : Int32) (W : zW) : ev_ G 220 9 [.ref a0, .ref a1, .ref a2, .int x3, .int x4, .int x5, zU, zU, zU, zU] [] W =
 if (((8 * x3) + 8) ≤ x5 : Prop) then
  (ev_ G 220 59 [.ref a0, .ref a1, .ref a2, .int x3, .int x4, .int 25, .int (-1000), .int 0, zU, zU] [] W)
 else
  (zld false W a2 x5).bind fun t1 =>
  if 64 = 0 then none else
  if (t1 - t1 / 64 * 64) ≤ 0 then
   (ev_ G 220 9 [.ref a0, .ref a1, .ref a2, .int x3, .int (x4 + 0), .int (x5 + 1), zU, zU, zU, zU] [] W)
  else
   ev_ G 220 9 [.ref a0, .ref a1, .ref a2, .int x3, .int (x4 + 1), .int (x5 + 1), zU, zU, zU, zU] [] W :=
 (zx_st (zh_L_soldered G) [9, 59, 104, 135, 205] 400 9 _ _ _).trans rfl
set_option maxRecDepth 100000 in
theorem q_L_soldered_59 (G : Nat × Nat) (a0 : Nat) (a1 : Nat) (a2 : Nat) (x3 : Int32) (x4 : Int32) (x5 : Int32) (x6 : Int32) (x7 : Int32) (u8 : Value) (W : zW) : ev_ G 220 59 [.ref a0, .ref a1, .ref a2, .int x3, .int x4, .int x5, .int x6, .int x7, u8, zU] [] W =
 if (12 ≤ x7 : Prop) then
  (ev_ G 220 135 [.ref a0, .ref a1, .ref a2, .int x3, .int x4, .int x5, .int x6, .int (8 * x3), u8, zU] [] W)
 else
  if 3 = 0 then none else
  (zld false W a1 (x7 / 3)).bind fun t1 =>
  if 0 ≤ (t1 - x5) then
   (if x4 = 0 then none else
    ev_ G 220 104 [.ref a0, .ref a1, .ref a2, .int x3, .int x4, .int x5, .int x6, .int x7, .int (t1 - x5), zU] [.int ((t1 - x5) / x4), .int x5] W)
  else
   if x4 = 0 then none else
   ev_ G 220 104 [.ref a0, .ref a1, .ref a2, .int x3, .int x4, .int x5, .int x6, .int x7, .int (t1 - x5), zU] [.int ((-((((-(t1 - x5)) + x4) - 1) / x4))), .int x5] W :=
 (zx_st (zh_L_soldered G) [9, 59, 104, 135, 205] 400 59 _ _ _).trans rfl
set_option maxRecDepth 100000 in
theorem q_L_soldered_104 (G : Nat × Nat) (a0 : Nat) (a1 : Nat) (a2 : Nat) (x3 : Int32) (x4 : Int32) (x5 : Int32) (x6 : Int32) (x7 : Int32) (x8 : Int32) (x_0 : Int32) (x_1 : Int32) (W : zW) : ev_ G 220 104 [.ref a0, .ref a1, .ref a2, .int x3, .int x4, .int x5, .int x6, .int x7, .int x8, zU] [.int x_1, .int x_0] W =
 if ((x_0 + x_1) ≤ x6 : Prop) then
  (ev_ G 220 59 [.ref a0, .ref a1, .ref a2, .int x3, .int x4, .int (x_0 + x_1), .int x6, .int (x7 + 1), .int x8, zU] [] W)
 else
  ev_ G 220 59 [.ref a0, .ref a1, .ref a2, .int x3, .int x4, .int (x_0 + x_1), .int (x_0 + x_1), .int (x7 + 1), .int x8, zU] [] W :=
 (zx_st (zh_L_soldered G) [9, 59, 104, 135, 205] 400 104 _ _ _).trans rfl
set_option maxRecDepth 100000 in
theorem q_L_soldered_135 (G : Nat × Nat) (a0 : Nat) (a1 : Nat) (a2 : Nat) (x3 : Int32) (x4 : Int32) (x5 : Int32) (x6 : Int32) (x7 : Int32) (u8 : Value) (u9 : Value) (W : zW) : ev_ G 220 135 [.ref a0, .ref a1, .ref a2, .int x3, .int x4, .int x5, .int x6, .int x7, u8, u9] [] W =
 if (((8 * x3) + 8) ≤ x7 : Prop) then
  (some (.inl (some (.int x6)), W))
 else
  (zld false W a2 x7).bind fun t1 =>
  if 64 = 0 then none else
  if (t1 - t1 / 64 * 64) ≤ 0 then
   (ev_ G 220 135 [.ref a0, .ref a1, .ref a2, .int x3, .int x4, .int x5, .int x6, .int (x7 + 1), u8, u9] [] W)
  else
   (zld false W a2 x7).bind fun t2 =>
   if 64 = 0 then none else
   (zld false W a0 ((t2 - t2 / 64 * 64) - 1)).bind fun t3 =>
   if 8 = 0 then none else
   (zld false W a1 (4 + (t3 - t3 / 8 * 8))).bind fun t4 =>
   if (t4 ≤ x6 : Prop) then
    ((zld false W a1 (10 + (t3 - t3 / 8 * 8))).bind fun t5 =>
     if (x6 ≤ t5 : Prop) then
      (ev_ G 220 205 [.ref a0, .ref a1, .ref a2, .int x3, .int x4, .int x5, .int x6, .int x7, .int (t3 - t3 / 8 * 8), u9] [.int 0] W)
     else
      ev_ G 220 205 [.ref a0, .ref a1, .ref a2, .int x3, .int x4, .int x5, .int x6, .int x7, .int (t3 - t3 / 8 * 8), u9] [.int 2] W)
   else
    ev_ G 220 205 [.ref a0, .ref a1, .ref a2, .int x3, .int x4, .int x5, .int x6, .int x7, .int (t3 - t3 / 8 * 8), u9] [.int 1] W :=
 (zx_st (zh_L_soldered G) [9, 59, 104, 135, 205] 400 135 _ _ _).trans rfl
set_option maxRecDepth 100000 in
theorem q_L_soldered_205 (G : Nat × Nat) (a0 : Nat) (a1 : Nat) (a2 : Nat) (x3 : Int32) (x4 : Int32) (x5 : Int32) (x6 : Int32) (x7 : Int32) (x8 : Int32) (u9 : Value) (x_0 : Int32) (W : zW) : ev_ G 220 205 [.ref a0, .ref a1, .ref a2, .int x3, .int x4, .int x5, .int x6, .int x7, .int x8, u9] [.int x_0] W =
 (zld false W a2 x7).bind fun t1 =>
 (zsto 0 W a2 x7 ((t1 + ((64 * x_0) + (2048 * (x_0 + 1)))))).bind fun W2 =>
 ev_ G 220 135 [.ref a0, .ref a1, .ref a2, .int x3, .int x4, .int x5, .int x6, .int (x7 + 1), .int x8, .int x_0] [] W2 :=
 (zx_st (zh_L_soldered G) [9, 59, 104, 135, 205] 400 205 _ _ _).trans rfl
set_option maxRecDepth 100000 in
theorem q_L_faults_0 (G : Nat × Nat) (a0 : Nat) (x1 : Int32) (x2 : Int32) (W : zW) : ev_ G 216 0 [.ref a0, .int x1, .int x2, zU, zU, zU] [] W =
 ev_ G 216 8 [.ref a0, .int x1, .int x2, .int 0, .int (8 * x1), zU] [] W :=
 (zx_st (zh_L_faults G) [8] 400 0 _ _ _).trans rfl
set_option maxRecDepth 100000 in
theorem q_L_faults_8 (G : Nat × Nat) (a0 : Nat) (x1 : Int32) (x2 : Int32) (x3 : Int32) (x4 : Int32) (u5 : Value) (W : zW) : ev_ G 216 8 [.ref a0, .int x1, .int x2, .int x3, .int x4, u5] [] W =
 if (((8 * x1) + 8) ≤ x4 : Prop) then
  (some (.inl (some (.int x3)), W))
 else
  (zld false W a0 x4).bind fun t1 =>
  if 64 = 0 then none else
  if 32 = 0 then none else
  if 4 = 0 then none else
  if (((t1 / 64) - (t1 / 64) / 32 * 32) - ((t1 / 64) - (t1 / 64) / 32 * 32) / 4 * 4) ≤ 0 then
   (ev_ G 216 8 [.ref a0, .int x1, .int x2, .int (x3 + 0), .int (x4 + 1), .int ((t1 / 64) - (t1 / 64) / 32 * 32)] [] W)
  else
   if 4 = 0 then none else
   if 2 = 0 then none else
   if (((((t1 / 64) - (t1 / 64) / 32 * 32) / 4) - (((t1 / 64) - (t1 / 64) / 32 * 32) / 4) / 2 * 2) = x2 : Prop) then
    (ev_ G 216 8 [.ref a0, .int x1, .int x2, .int (x3 + 1), .int (x4 + 1), .int ((t1 / 64) - (t1 / 64) / 32 * 32)] [] W)
   else
    ev_ G 216 8 [.ref a0, .int x1, .int x2, .int (x3 + 0), .int (x4 + 1), .int ((t1 / 64) - (t1 / 64) / 32 * 32)] [] W :=
 (zx_st (zh_L_faults G) [8] 400 8 _ _ _).trans rfl
set_option maxRecDepth 100000 in
theorem q_L_isBoard_0 (G : Nat × Nat) (a0 : Nat) (a1 : Nat) (a2 : Nat) (a3 : Nat) (a4 : Nat) (a5 : Nat) (a6 : Nat) (a7 : Nat) (a8 : Nat) (x9 : Int32) (x10 : Int32) (x11 : Int32) (W : zW) : ev_ G 221 0 [.ref a0, .ref a1, .ref a2, .ref a3, .ref a4, .ref a5, .ref a6, .ref a7, .ref a8, .int x9, .int x10, .int x11, zU, zU, zU, zU, zU, zU, zU, zU, zU, zU] [] W =
 if x9 = 0 then
  ((zld false W a8 5).bind fun t1 =>
   if (4 ≤ t1 : Prop) then
    (ev_ G 221 47 [.ref a0, .ref a1, .ref a2, .ref a3, .ref a4, .ref a5, .ref a6, .ref a7, .ref a8, .int x9, .int x10, .int x11, zU, zU, zU, zU, zU, zU, zU, zU, zU, zU] [] W)
   else
    (zld false W a8 5).bind fun t2 =>
    (zsto 0 W a8 5 (t2 + 1)).bind fun W3 =>
    zthI (ev_ G 207 0 [.ref a0, .int 11, .int 0, .int 0, .int 0, .int 0, .int 0, zU] [] W3)
     (fun t5 W4 =>
    (zld false W4 a8 5).bind fun t6 =>
     if (t5 = (t6 - 1) : Prop) then
      (if (1 : Int32) &&& 1 = 1 then some (.inl (some (.int 1)), W4) else none)
     else
      if (0 : Int32) &&& 1 = 0 then some (.inl (some (.int 0)), W4) else none)
     zxe)
 else
  ev_ G 221 47 [.ref a0, .ref a1, .ref a2, .ref a3, .ref a4, .ref a5, .ref a6, .ref a7, .ref a8, .int x9, .int x10, .int x11, zU, zU, zU, zU, zU, zU, zU, zU, zU, zU] [] W :=
 (zx_st (zh_L_isBoard G) [47, 77, 107, 126, 147, 166, 213, 247, 318, 354, 446, 477, 561, 657, 781, 806, 864, 944, 960] 400 0 _ _ _).trans rfl
set_option maxRecDepth 100000 in
theorem q_L_isBoard_47 (G : Nat × Nat) (a0 : Nat) (a1 : Nat) (a2 : Nat) (a3 : Nat) (a4 : Nat) (a5 : Nat) (a6 : Nat) (a7 : Nat) (a8 : Nat) (x9 : Int32) (x10 : Int32) (x11 : Int32) (W : zW) : ev_ G 221 47 [.ref a0, .ref a1, .ref a2, .ref a3, .ref a4, .ref a5, .ref a6, .ref a7, .ref a8, .int x9, .int x10, .int x11, zU, zU, zU, zU, zU, zU, zU, zU, zU, zU] [] W =
 (zld false W a8 5).bind fun t1 =>
 if (t1 + 1) = 0 then none else
 if 9 = 0 then none else
 if ((x11 - x11 / 9 * 9) = 8 : Prop) then
  (ev_ G 221 77 [.ref a0, .ref a1, .ref a2, .ref a3, .ref a4, .ref a5, .ref a6, .ref a7, .ref a8, .int x9, .int x10, .int x11, .int (x10 - x10 / (t1 + 1) * (t1 + 1)), zU, zU, zU, zU, zU, zU, zU, zU, zU] [.int 8] W)
 else
  if 4 = 0 then none else
  ev_ G 221 77 [.ref a0, .ref a1, .ref a2, .ref a3, .ref a4, .ref a5, .ref a6, .ref a7, .ref a8, .int x9, .int x10, .int x11, .int (x10 - x10 / (t1 + 1) * (t1 + 1)), zU, zU, zU, zU, zU, zU, zU, zU, zU] [.int (x11 - x11 / 4 * 4)] W :=
 (zx_st (zh_L_isBoard G) [47, 77, 107, 126, 147, 166, 213, 247, 318, 354, 446, 477, 561, 657, 781, 806, 864, 944, 960] 400 47 _ _ _).trans rfl
set_option maxRecDepth 100000 in
theorem q_L_isBoard_77 (G : Nat × Nat) (a0 : Nat) (a1 : Nat) (a2 : Nat) (a3 : Nat) (a4 : Nat) (a5 : Nat) (a6 : Nat) (a7 : Nat) (a8 : Nat) (x9 : Int32) (x10 : Int32) (x11 : Int32) (x12 : Int32) (x_0 : Int32) (W : zW) : ev_ G 221 77 [.ref a0, .ref a1, .ref a2, .ref a3, .ref a4, .ref a5, .ref a6, .ref a7, .ref a8, .int x9, .int x10, .int x11, .int x12, zU, zU, zU, zU, zU, zU, zU, zU, zU] [.int x_0] W =
 if 9 = 0 then none else
 (zld false W a8 4).bind fun t1 =>
 if (t1 + 1) = 0 then none else
 (zld false W a8 5).bind fun t2 =>
 if (t2 ≤ x12 : Prop) then
  (ev_ G 221 107 [.ref a0, .ref a1, .ref a2, .ref a3, .ref a4, .ref a5, .ref a6, .ref a7, .ref a8, .int x9, .int x10, .int x11, .int x12, .int x_0, .int ((x11 / 9) - (x11 / 9) / (t1 + 1) * (t1 + 1)), zU, zU, zU, zU, zU, zU, zU] [.int 0] W)
 else
  ev_ G 221 107 [.ref a0, .ref a1, .ref a2, .ref a3, .ref a4, .ref a5, .ref a6, .ref a7, .ref a8, .int x9, .int x10, .int x11, .int x12, .int x_0, .int ((x11 / 9) - (x11 / 9) / (t1 + 1) * (t1 + 1)), zU, zU, zU, zU, zU, zU, zU] [.int 1] W :=
 (zx_st (zh_L_isBoard G) [47, 77, 107, 126, 147, 166, 213, 247, 318, 354, 446, 477, 561, 657, 781, 806, 864, 944, 960] 400 77 _ _ _).trans rfl
set_option maxRecDepth 100000 in
theorem q_L_isBoard_107 (G : Nat × Nat) (a0 : Nat) (a1 : Nat) (a2 : Nat) (a3 : Nat) (a4 : Nat) (a5 : Nat) (a6 : Nat) (a7 : Nat) (a8 : Nat) (x9 : Int32) (x10 : Int32) (x11 : Int32) (x12 : Int32) (x13 : Int32) (x14 : Int32) (x_0 : Int32) (W : zW) : ev_ G 221 107 [.ref a0, .ref a1, .ref a2, .ref a3, .ref a4, .ref a5, .ref a6, .ref a7, .ref a8, .int x9, .int x10, .int x11, .int x12, .int x13, .int x14, zU, zU, zU, zU, zU, zU, zU] [.int x_0] W =
 if x_0 = 0 then
  (ev_ G 221 126 [.ref a0, .ref a1, .ref a2, .ref a3, .ref a4, .ref a5, .ref a6, .ref a7, .ref a8, .int x9, .int x10, .int x11, .int x12, .int x13, .int x14, .int x_0, zU, zU, zU, zU, zU, zU] [.int 0] W)
 else
  if (8 ≤ x13 : Prop) then
   (ev_ G 221 126 [.ref a0, .ref a1, .ref a2, .ref a3, .ref a4, .ref a5, .ref a6, .ref a7, .ref a8, .int x9, .int x10, .int x11, .int x12, .int x13, .int x14, .int x_0, zU, zU, zU, zU, zU, zU] [.int 0] W)
  else
   ev_ G 221 126 [.ref a0, .ref a1, .ref a2, .ref a3, .ref a4, .ref a5, .ref a6, .ref a7, .ref a8, .int x9, .int x10, .int x11, .int x12, .int x13, .int x14, .int x_0, zU, zU, zU, zU, zU, zU] [.int 1] W :=
 (zx_st (zh_L_isBoard G) [47, 77, 107, 126, 147, 166, 213, 247, 318, 354, 446, 477, 561, 657, 781, 806, 864, 944, 960] 400 107 _ _ _).trans rfl
set_option maxRecDepth 100000 in
theorem q_L_isBoard_126 (G : Nat × Nat) (a0 : Nat) (a1 : Nat) (a2 : Nat) (a3 : Nat) (a4 : Nat) (a5 : Nat) (a6 : Nat) (a7 : Nat) (a8 : Nat) (x9 : Int32) (x10 : Int32) (x11 : Int32) (x12 : Int32) (x13 : Int32) (x14 : Int32) (x15 : Int32) (x_0 : Int32) (W : zW) : ev_ G 221 126 [.ref a0, .ref a1, .ref a2, .ref a3, .ref a4, .ref a5, .ref a6, .ref a7, .ref a8, .int x9, .int x10, .int x11, .int x12, .int x13, .int x14, .int x15, zU, zU, zU, zU, zU, zU] [.int x_0] W =
 if x_0 = 0 then
  (ev_ G 221 147 [.ref a0, .ref a1, .ref a2, .ref a3, .ref a4, .ref a5, .ref a6, .ref a7, .ref a8, .int x9, .int x10, .int x11, .int x12, .int x13, .int x14, .int x15, .int x_0, zU, zU, zU, zU, zU] [.int 0] W)
 else
  (zld false W a8 4).bind fun t1 =>
  if (t1 ≤ x14 : Prop) then
   (ev_ G 221 147 [.ref a0, .ref a1, .ref a2, .ref a3, .ref a4, .ref a5, .ref a6, .ref a7, .ref a8, .int x9, .int x10, .int x11, .int x12, .int x13, .int x14, .int x15, .int x_0, zU, zU, zU, zU, zU] [.int 0] W)
  else
   ev_ G 221 147 [.ref a0, .ref a1, .ref a2, .ref a3, .ref a4, .ref a5, .ref a6, .ref a7, .ref a8, .int x9, .int x10, .int x11, .int x12, .int x13, .int x14, .int x15, .int x_0, zU, zU, zU, zU, zU] [.int 1] W :=
 (zx_st (zh_L_isBoard G) [47, 77, 107, 126, 147, 166, 213, 247, 318, 354, 446, 477, 561, 657, 781, 806, 864, 944, 960] 400 126 _ _ _).trans rfl
set_option maxRecDepth 100000 in
theorem q_L_isBoard_147 (G : Nat × Nat) (a0 : Nat) (a1 : Nat) (a2 : Nat) (a3 : Nat) (a4 : Nat) (a5 : Nat) (a6 : Nat) (a7 : Nat) (a8 : Nat) (x9 : Int32) (x10 : Int32) (x11 : Int32) (x12 : Int32) (x13 : Int32) (x14 : Int32) (x15 : Int32) (x16 : Int32) (x_0 : Int32) (W : zW) : ev_ G 221 147 [.ref a0, .ref a1, .ref a2, .ref a3, .ref a4, .ref a5, .ref a6, .ref a7, .ref a8, .int x9, .int x10, .int x11, .int x12, .int x13, .int x14, .int x15, .int x16, zU, zU, zU, zU, zU] [.int x_0] W =
 if x16 = 0 then
  (ev_ G 221 166 [.ref a0, .ref a1, .ref a2, .ref a3, .ref a4, .ref a5, .ref a6, .ref a7, .ref a8, .int x9, .int x10, .int x11, .int x12, .int x13, .int x14, .int x15, .int x16, .int x_0, zU, zU, zU, zU] [.int 0] W)
 else
  ev_ G 221 166 [.ref a0, .ref a1, .ref a2, .ref a3, .ref a4, .ref a5, .ref a6, .ref a7, .ref a8, .int x9, .int x10, .int x11, .int x12, .int x13, .int x14, .int x15, .int x16, .int x_0, zU, zU, zU, zU] [.int ((8 * x12) + x13)] W :=
 (zx_st (zh_L_isBoard G) [47, 77, 107, 126, 147, 166, 213, 247, 318, 354, 446, 477, 561, 657, 781, 806, 864, 944, 960] 400 147 _ _ _).trans rfl
set_option maxRecDepth 100000 in
theorem q_L_isBoard_166 (G : Nat × Nat) (a0 : Nat) (a1 : Nat) (a2 : Nat) (a3 : Nat) (a4 : Nat) (a5 : Nat) (a6 : Nat) (a7 : Nat) (a8 : Nat) (x9 : Int32) (x10 : Int32) (x11 : Int32) (x12 : Int32) (x13 : Int32) (x14 : Int32) (x15 : Int32) (x16 : Int32) (x17 : Int32) (x_0 : Int32) (W : zW) : ev_ G 221 166 [.ref a0, .ref a1, .ref a2, .ref a3, .ref a4, .ref a5, .ref a6, .ref a7, .ref a8, .int x9, .int x10, .int x11, .int x12, .int x13, .int x14, .int x15, .int x16, .int x17, zU, zU, zU, zU] [.int x_0] W =
 if (2 ≤ x9 : Prop) then
  (if (x9 = 2 : Prop) then
    (if x15 = 0 then
      (ev_ G 221 318 [.ref a0, .ref a1, .ref a2, .ref a3, .ref a4, .ref a5, .ref a6, .ref a7, .ref a8, .int x9, .int x10, .int x11, .int x12, .int x13, .int x14, .int x15, .int x16, .int x17, .int x_0, zU, zU, zU] [.int 0] W)
     else
      (zld false W a7 x12).bind fun t1 =>
      if t1 = 0 then
       (ev_ G 221 318 [.ref a0, .ref a1, .ref a2, .ref a3, .ref a4, .ref a5, .ref a6, .ref a7, .ref a8, .int x9, .int x10, .int x11, .int x12, .int x13, .int x14, .int x15, .int x16, .int x17, .int x_0, zU, zU, zU] [.int 1] W)
      else
       ev_ G 221 318 [.ref a0, .ref a1, .ref a2, .ref a3, .ref a4, .ref a5, .ref a6, .ref a7, .ref a8, .int x9, .int x10, .int x11, .int x12, .int x13, .int x14, .int x15, .int x16, .int x17, .int x_0, zU, zU, zU] [.int 0] W)
   else
    if (x9 = 3 : Prop) then
     (if x16 = 0 then
       (ev_ G 221 446 [.ref a0, .ref a1, .ref a2, .ref a3, .ref a4, .ref a5, .ref a6, .ref a7, .ref a8, .int x9, .int x10, .int x11, .int x12, .int x13, .int x14, .int x15, .int x16, .int x17, .int x_0, zU, zU, zU] [.int 0] W)
      else
       (zld false W a7 x12).bind fun t2 =>
       if 2 = 0 then none else
       if ((t2 - t2 / 2 * 2) = 1 : Prop) then
        ((zld false W a7 x12).bind fun t3 =>
         if (4 ≤ t3 : Prop) then
          (ev_ G 221 446 [.ref a0, .ref a1, .ref a2, .ref a3, .ref a4, .ref a5, .ref a6, .ref a7, .ref a8, .int x9, .int x10, .int x11, .int x12, .int x13, .int x14, .int x15, .int x16, .int x17, .int x_0, zU, zU, zU] [.int 0] W)
         else
          (zld false W a5 x_0).bind fun t4 =>
          if 64 = 0 then none else
          if (t4 - t4 / 64 * 64) ≤ 0 then
           (ev_ G 221 446 [.ref a0, .ref a1, .ref a2, .ref a3, .ref a4, .ref a5, .ref a6, .ref a7, .ref a8, .int x9, .int x10, .int x11, .int x12, .int x13, .int x14, .int x15, .int x16, .int x17, .int x_0, zU, zU, zU] [.int 0] W)
          else
           ev_ G 221 446 [.ref a0, .ref a1, .ref a2, .ref a3, .ref a4, .ref a5, .ref a6, .ref a7, .ref a8, .int x9, .int x10, .int x11, .int x12, .int x13, .int x14, .int x15, .int x16, .int x17, .int x_0, zU, zU, zU] [.int 1] W)
       else
        ev_ G 221 446 [.ref a0, .ref a1, .ref a2, .ref a3, .ref a4, .ref a5, .ref a6, .ref a7, .ref a8, .int x9, .int x10, .int x11, .int x12, .int x13, .int x14, .int x15, .int x16, .int x17, .int x_0, zU, zU, zU] [.int 0] W)
    else
     if (x9 = 4 : Prop) then
      (if x15 = 0 then
        (ev_ G 221 561 [.ref a0, .ref a1, .ref a2, .ref a3, .ref a4, .ref a5, .ref a6, .ref a7, .ref a8, .int x9, .int x10, .int x11, .int x12, .int x13, .int x14, .int x15, .int x16, .int x17, .int x_0, .int 0, .int 0, zU] [] W)
       else
        (zld false W a7 x12).bind fun t5 =>
        if 2 = 0 then none else
        if ((t5 - t5 / 2 * 2) = 1 : Prop) then
         ((zld false W a7 x12).bind fun t6 =>
          if (4 ≤ t6 : Prop) then
           (ev_ G 221 561 [.ref a0, .ref a1, .ref a2, .ref a3, .ref a4, .ref a5, .ref a6, .ref a7, .ref a8, .int x9, .int x10, .int x11, .int x12, .int x13, .int x14, .int x15, .int x16, .int x17, .int x_0, .int 0, .int 0, zU] [] W)
          else
           ev_ G 221 561 [.ref a0, .ref a1, .ref a2, .ref a3, .ref a4, .ref a5, .ref a6, .ref a7, .ref a8, .int x9, .int x10, .int x11, .int x12, .int x13, .int x14, .int x15, .int x16, .int x17, .int x_0, .int 1, .int 0, zU] [] W)
        else
         ev_ G 221 561 [.ref a0, .ref a1, .ref a2, .ref a3, .ref a4, .ref a5, .ref a6, .ref a7, .ref a8, .int x9, .int x10, .int x11, .int x12, .int x13, .int x14, .int x15, .int x16, .int x17, .int x_0, .int 0, .int 0, zU] [] W)
     else
      if (x9 = 5 : Prop) then
       (if x17 = 0 then
         (ev_ G 221 806 [.ref a0, .ref a1, .ref a2, .ref a3, .ref a4, .ref a5, .ref a6, .ref a7, .ref a8, .int x9, .int x10, .int x11, .int x12, .int x13, .int x14, .int x15, .int x16, .int x17, .int x_0, zU, zU, zU] [.int 0] W)
        else
         (zld false W a5 x_0).bind fun t7 =>
         if 256 = 0 then none else
         if 2 = 0 then none else
         if (((t7 / 256) - (t7 / 256) / 2 * 2) = 1 : Prop) then
          ((zld false W a5 x_0).bind fun t8 =>
           if 512 = 0 then none else
           if 2 = 0 then none else
           if ((t8 / 512) - (t8 / 512) / 2 * 2) = 0 then
            ((zld false W a1 x14).bind fun t9 =>
             if 8 = 0 then none else
             (zld false W a5 x_0).bind fun t10 =>
             if 64 = 0 then none else
             if (t10 - t10 / 64 * 64) = 0 then
              (ev_ G 221 781 [.ref a0, .ref a1, .ref a2, .ref a3, .ref a4, .ref a5, .ref a6, .ref a7, .ref a8, .int x9, .int x10, .int x11, .int x12, .int x13, .int x14, .int x15, .int x16, .int x17, .int x_0, zU, zU, zU] [.int 0, .ref a1, .int (t9 - t9 / 8 * 8)] W)
             else
              (zld false W a5 x_0).bind fun t11 =>
              if 64 = 0 then none else
              ev_ G 221 781 [.ref a0, .ref a1, .ref a2, .ref a3, .ref a4, .ref a5, .ref a6, .ref a7, .ref a8, .int x9, .int x10, .int x11, .int x12, .int x13, .int x14, .int x15, .int x16, .int x17, .int x_0, zU, zU, zU] [.int ((t11 - t11 / 64 * 64) - 1), .ref a1, .int (t9 - t9 / 8 * 8)] W)
           else
            ev_ G 221 806 [.ref a0, .ref a1, .ref a2, .ref a3, .ref a4, .ref a5, .ref a6, .ref a7, .ref a8, .int x9, .int x10, .int x11, .int x12, .int x13, .int x14, .int x15, .int x16, .int x17, .int x_0, zU, zU, zU] [.int 0] W)
         else
          ev_ G 221 806 [.ref a0, .ref a1, .ref a2, .ref a3, .ref a4, .ref a5, .ref a6, .ref a7, .ref a8, .int x9, .int x10, .int x11, .int x12, .int x13, .int x14, .int x15, .int x16, .int x17, .int x_0, zU, zU, zU] [.int 0] W)
      else
       if x15 = 0 then
        (ev_ G 221 944 [.ref a0, .ref a1, .ref a2, .ref a3, .ref a4, .ref a5, .ref a6, .ref a7, .ref a8, .int x9, .int x10, .int x11, .int x12, .int x13, .int x14, .int x15, .int x16, .int x17, .int x_0, zU, zU, zU] [] W)
       else
        (zld false W a7 x12).bind fun t12 =>
        if (t12 = 3 : Prop) then
         (zthI (ev_ G 216 0 [.ref a5, .int x12, .int 1, zU, zU, zU] [] W)
           (fun t14 W13 =>
          if t14 = 0 then
            (if 1 = 0 then
              (ev_ G 221 960 [.ref a0, .ref a1, .ref a2, .ref a3, .ref a4, .ref a5, .ref a6, .ref a7, .ref a8, .int x9, .int x10, .int x11, .int x12, .int x13, .int x14, .int x15, .int x16, .int x17, .int x_0, .int 1, zU, zU] [.int 4, .ref a7] W13)
             else
              ev_ G 221 960 [.ref a0, .ref a1, .ref a2, .ref a3, .ref a4, .ref a5, .ref a6, .ref a7, .ref a8, .int x9, .int x10, .int x11, .int x12, .int x13, .int x14, .int x15, .int x16, .int x17, .int x_0, .int 1, zU, zU] [.int x12, .ref a7] W13)
           else
            ev_ G 221 944 [.ref a0, .ref a1, .ref a2, .ref a3, .ref a4, .ref a5, .ref a6, .ref a7, .ref a8, .int x9, .int x10, .int x11, .int x12, .int x13, .int x14, .int x15, .int x16, .int x17, .int x_0, zU, zU, zU] [] W13)
           zxe)
        else
         ev_ G 221 944 [.ref a0, .ref a1, .ref a2, .ref a3, .ref a4, .ref a5, .ref a6, .ref a7, .ref a8, .int x9, .int x10, .int x11, .int x12, .int x13, .int x14, .int x15, .int x16, .int x17, .int x_0, zU, zU, zU] [] W)
 else
  if x17 = 0 then
   (ev_ G 221 213 [.ref a0, .ref a1, .ref a2, .ref a3, .ref a4, .ref a5, .ref a6, .ref a7, .ref a8, .int x9, .int x10, .int x11, .int x12, .int x13, .int x14, .int x15, .int x16, .int x17, .int x_0, zU, zU, zU] [.int 0] W)
  else
   (zld false W a7 x12).bind fun t15 =>
   if t15 = 0 then
    ((zld false W a5 x_0).bind fun t16 =>
     if t16 = 0 then
      (zthI (ev_ G 214 0 [.ref a1, .ref a2, .ref a3, .ref a4, .int x14] [] W)
        (fun t18 W17 =>
       if t18 = 0 then
         (ev_ G 221 213 [.ref a0, .ref a1, .ref a2, .ref a3, .ref a4, .ref a5, .ref a6, .ref a7, .ref a8, .int x9, .int x10, .int x11, .int x12, .int x13, .int x14, .int x15, .int x16, .int x17, .int x_0, zU, zU, zU] [.int 0] W17)
        else
         ev_ G 221 213 [.ref a0, .ref a1, .ref a2, .ref a3, .ref a4, .ref a5, .ref a6, .ref a7, .ref a8, .int x9, .int x10, .int x11, .int x12, .int x13, .int x14, .int x15, .int x16, .int x17, .int x_0, zU, zU, zU] [.int 1] W17)
        zxe)
     else
      ev_ G 221 213 [.ref a0, .ref a1, .ref a2, .ref a3, .ref a4, .ref a5, .ref a6, .ref a7, .ref a8, .int x9, .int x10, .int x11, .int x12, .int x13, .int x14, .int x15, .int x16, .int x17, .int x_0, zU, zU, zU] [.int 0] W)
   else
    ev_ G 221 213 [.ref a0, .ref a1, .ref a2, .ref a3, .ref a4, .ref a5, .ref a6, .ref a7, .ref a8, .int x9, .int x10, .int x11, .int x12, .int x13, .int x14, .int x15, .int x16, .int x17, .int x_0, zU, zU, zU] [.int 0] W :=
 (zx_st (zh_L_isBoard G) [47, 77, 107, 126, 147, 166, 213, 247, 318, 354, 446, 477, 561, 657, 781, 806, 864, 944, 960] 400 166 _ _ _).trans rfl
set_option maxRecDepth 100000 in
theorem q_L_isBoard_213 (G : Nat × Nat) (a0 : Nat) (a1 : Nat) (a2 : Nat) (a3 : Nat) (a4 : Nat) (a5 : Nat) (a6 : Nat) (a7 : Nat) (a8 : Nat) (x9 : Int32) (x10 : Int32) (x11 : Int32) (x12 : Int32) (x13 : Int32) (x14 : Int32) (x15 : Int32) (x16 : Int32) (x17 : Int32) (x18 : Int32) (x_0 : Int32) (W : zW) : ev_ G 221 213 [.ref a0, .ref a1, .ref a2, .ref a3, .ref a4, .ref a5, .ref a6, .ref a7, .ref a8, .int x9, .int x10, .int x11, .int x12, .int x13, .int x14, .int x15, .int x16, .int x17, .int x18, zU, zU, zU] [.int x_0] W =
 if x_0 = 0 then
  (ev_ G 221 247 [.ref a0, .ref a1, .ref a2, .ref a3, .ref a4, .ref a5, .ref a6, .ref a7, .ref a8, .int x9, .int x10, .int x11, .int x12, .int x13, .int x14, .int x15, .int x16, .int x17, .int x18, .int x_0, zU, zU] [] W)
 else
  (zsto 0 W a5 x18 (x14 + 1)).bind fun W1 =>
  (zld false W1 a4 17).bind fun t2 =>
  (zsto 0 W1 a6 x18 t2).bind fun W3 =>
  (zld false W3 a2 x14).bind fun t4 =>
  (zsto 0 W3 a2 x14 (t4 - 1)).bind fun W5 =>
  ev_ G 221 247 [.ref a0, .ref a1, .ref a2, .ref a3, .ref a4, .ref a5, .ref a6, .ref a7, .ref a8, .int x9, .int x10, .int x11, .int x12, .int x13, .int x14, .int x15, .int x16, .int x17, .int x18, .int x_0, zU, zU] [] W5 :=
 (zx_st (zh_L_isBoard G) [47, 77, 107, 126, 147, 166, 213, 247, 318, 354, 446, 477, 561, 657, 781, 806, 864, 944, 960] 400 213 _ _ _).trans rfl
set_option maxRecDepth 100000 in
theorem q_L_isBoard_247 (G : Nat × Nat) (a0 : Nat) (a1 : Nat) (a2 : Nat) (a3 : Nat) (a4 : Nat) (a5 : Nat) (a6 : Nat) (a7 : Nat) (a8 : Nat) (x9 : Int32) (x10 : Int32) (x11 : Int32) (x12 : Int32) (x13 : Int32) (x14 : Int32) (x15 : Int32) (x16 : Int32) (x17 : Int32) (x18 : Int32) (x19 : Int32) (W : zW) : ev_ G 221 247 [.ref a0, .ref a1, .ref a2, .ref a3, .ref a4, .ref a5, .ref a6, .ref a7, .ref a8, .int x9, .int x10, .int x11, .int x12, .int x13, .int x14, .int x15, .int x16, .int x17, .int x18, .int x19, zU, zU] [] W =
 zthI (ev_ G 207 0 [.ref a0, .int 12, .int x12, .int x13, .int x14, .int 0, .int 0, zU] [] W)
  (fun t2 W1 =>
 if x17 = 0 then
   (if (t2 = (-3000000) : Prop) then
     (if (1 : Int32) &&& 1 = 1 then some (.inl (some (.int 1)), W1) else none)
    else
     if (0 : Int32) &&& 1 = 0 then some (.inl (some (.int 0)), W1) else none)
  else
   if x19 = 0 then
    (if (t2 = (-1000000) : Prop) then
      (if (1 : Int32) &&& 1 = 1 then some (.inl (some (.int 1)), W1) else none)
     else
      if (0 : Int32) &&& 1 = 0 then some (.inl (some (.int 0)), W1) else none)
   else
    (zld false W1 a2 x14).bind fun t3 =>
    if (t2 = t3 : Prop) then
     (if (1 : Int32) &&& 1 = 1 then some (.inl (some (.int 1)), W1) else none)
    else
     if (0 : Int32) &&& 1 = 0 then some (.inl (some (.int 0)), W1) else none)
  zxe :=
 (zx_st (zh_L_isBoard G) [47, 77, 107, 126, 147, 166, 213, 247, 318, 354, 446, 477, 561, 657, 781, 806, 864, 944, 960] 400 247 _ _ _).trans rfl
set_option maxRecDepth 100000 in
theorem q_L_isBoard_318 (G : Nat × Nat) (a0 : Nat) (a1 : Nat) (a2 : Nat) (a3 : Nat) (a4 : Nat) (a5 : Nat) (a6 : Nat) (a7 : Nat) (a8 : Nat) (x9 : Int32) (x10 : Int32) (x11 : Int32) (x12 : Int32) (x13 : Int32) (x14 : Int32) (x15 : Int32) (x16 : Int32) (x17 : Int32) (x18 : Int32) (x_0 : Int32) (W : zW) : ev_ G 221 318 [.ref a0, .ref a1, .ref a2, .ref a3, .ref a4, .ref a5, .ref a6, .ref a7, .ref a8, .int x9, .int x10, .int x11, .int x12, .int x13, .int x14, .int x15, .int x16, .int x17, .int x18, zU, zU, zU] [.int x_0] W =
 if x_0 = 0 then
  (if x_0 = 0 then
    (ev_ G 221 354 [.ref a0, .ref a1, .ref a2, .ref a3, .ref a4, .ref a5, .ref a6, .ref a7, .ref a8, .int x9, .int x10, .int x11, .int x12, .int x13, .int x14, .int x15, .int x16, .int x17, .int x18, .int x_0, .int 0, zU] [.int 4, .ref a7] W)
   else
    ev_ G 221 354 [.ref a0, .ref a1, .ref a2, .ref a3, .ref a4, .ref a5, .ref a6, .ref a7, .ref a8, .int x9, .int x10, .int x11, .int x12, .int x13, .int x14, .int x15, .int x16, .int x17, .int x18, .int x_0, .int 0, zU] [.int x12, .ref a7] W)
 else
  zthI (ev_ G 220 0 [.ref a1, .ref a4, .ref a5, .int x12, zU, zU, zU, zU, zU, zU] [] W)
   (fun t2 W1 =>
  if x_0 = 0 then
    (ev_ G 221 354 [.ref a0, .ref a1, .ref a2, .ref a3, .ref a4, .ref a5, .ref a6, .ref a7, .ref a8, .int x9, .int x10, .int x11, .int x12, .int x13, .int x14, .int x15, .int x16, .int x17, .int x18, .int x_0, .int t2, zU] [.int 4, .ref a7] W1)
   else
    ev_ G 221 354 [.ref a0, .ref a1, .ref a2, .ref a3, .ref a4, .ref a5, .ref a6, .ref a7, .ref a8, .int x9, .int x10, .int x11, .int x12, .int x13, .int x14, .int x15, .int x16, .int x17, .int x18, .int x_0, .int t2, zU] [.int x12, .ref a7] W1)
   zxe :=
 (zx_st (zh_L_isBoard G) [47, 77, 107, 126, 147, 166, 213, 247, 318, 354, 446, 477, 561, 657, 781, 806, 864, 944, 960] 400 318 _ _ _).trans rfl
set_option maxRecDepth 100000 in
theorem q_L_isBoard_354 (G : Nat × Nat) (a0 : Nat) (a1 : Nat) (a2 : Nat) (a3 : Nat) (a4 : Nat) (a5 : Nat) (a6 : Nat) (a7 : Nat) (a8 : Nat) (x9 : Int32) (x10 : Int32) (x11 : Int32) (x12 : Int32) (x13 : Int32) (x14 : Int32) (x15 : Int32) (x16 : Int32) (x17 : Int32) (x18 : Int32) (x19 : Int32) (x20 : Int32) (a_0 : Nat) (x_1 : Int32) (W : zW) : ev_ G 221 354 [.ref a0, .ref a1, .ref a2, .ref a3, .ref a4, .ref a5, .ref a6, .ref a7, .ref a8, .int x9, .int x10, .int x11, .int x12, .int x13, .int x14, .int x15, .int x16, .int x17, .int x18, .int x19, .int x20, zU] [.int x_1, .ref a_0] W =
 (zsto 0 W a_0 x_1 1).bind fun W1 =>
 zthI (ev_ G 207 0 [.ref a0, .int 14, .int x12, .int 0, .int 0, .int 0, .int 0, zU] [] W1)
  (fun t3 W2 =>
 if x15 = 0 then
   (if (t3 = (-3000000) : Prop) then
     (if (1 : Int32) &&& 1 = 1 then some (.inl (some (.int 1)), W2) else none)
    else
     if (0 : Int32) &&& 1 = 0 then some (.inl (some (.int 0)), W2) else none)
  else
   if x19 = 0 then
    (if (t3 = (-1000000) : Prop) then
      (if (1 : Int32) &&& 1 = 1 then some (.inl (some (.int 1)), W2) else none)
     else
      if (0 : Int32) &&& 1 = 0 then some (.inl (some (.int 0)), W2) else none)
   else
    if (t3 = x20 : Prop) then
     (if (1 : Int32) &&& 1 = 1 then some (.inl (some (.int 1)), W2) else none)
    else
     if (0 : Int32) &&& 1 = 0 then some (.inl (some (.int 0)), W2) else none)
  zxe :=
 (zx_st (zh_L_isBoard G) [47, 77, 107, 126, 147, 166, 213, 247, 318, 354, 446, 477, 561, 657, 781, 806, 864, 944, 960] 400 354 _ _ _).trans rfl
set_option maxRecDepth 100000 in
theorem q_L_isBoard_446 (G : Nat × Nat) (a0 : Nat) (a1 : Nat) (a2 : Nat) (a3 : Nat) (a4 : Nat) (a5 : Nat) (a6 : Nat) (a7 : Nat) (a8 : Nat) (x9 : Int32) (x10 : Int32) (x11 : Int32) (x12 : Int32) (x13 : Int32) (x14 : Int32) (x15 : Int32) (x16 : Int32) (x17 : Int32) (x18 : Int32) (x_0 : Int32) (W : zW) : ev_ G 221 446 [.ref a0, .ref a1, .ref a2, .ref a3, .ref a4, .ref a5, .ref a6, .ref a7, .ref a8, .int x9, .int x10, .int x11, .int x12, .int x13, .int x14, .int x15, .int x16, .int x17, .int x18, zU, zU, zU] [.int x_0] W =
 if x_0 = 0 then
  (ev_ G 221 477 [.ref a0, .ref a1, .ref a2, .ref a3, .ref a4, .ref a5, .ref a6, .ref a7, .ref a8, .int x9, .int x10, .int x11, .int x12, .int x13, .int x14, .int x15, .int x16, .int x17, .int x18, .int x_0, zU, zU] [] W)
 else
  (zld false W a5 x18).bind fun t1 =>
  (zld false W a5 x18).bind fun t2 =>
  if 64 = 0 then none else
  if 8 = 0 then none else
  (zsto 0 W a5 x18 ((t1 + (64 * (3 - ((t2 / 64) - (t2 / 64) / 8 * 8)))))).bind fun W3 =>
  ev_ G 221 477 [.ref a0, .ref a1, .ref a2, .ref a3, .ref a4, .ref a5, .ref a6, .ref a7, .ref a8, .int x9, .int x10, .int x11, .int x12, .int x13, .int x14, .int x15, .int x16, .int x17, .int x18, .int x_0, zU, zU] [] W3 :=
 (zx_st (zh_L_isBoard G) [47, 77, 107, 126, 147, 166, 213, 247, 318, 354, 446, 477, 561, 657, 781, 806, 864, 944, 960] 400 446 _ _ _).trans rfl
set_option maxRecDepth 100000 in
theorem q_L_isBoard_477 (G : Nat × Nat) (a0 : Nat) (a1 : Nat) (a2 : Nat) (a3 : Nat) (a4 : Nat) (a5 : Nat) (a6 : Nat) (a7 : Nat) (a8 : Nat) (x9 : Int32) (x10 : Int32) (x11 : Int32) (x12 : Int32) (x13 : Int32) (x14 : Int32) (x15 : Int32) (x16 : Int32) (x17 : Int32) (x18 : Int32) (x19 : Int32) (W : zW) : ev_ G 221 477 [.ref a0, .ref a1, .ref a2, .ref a3, .ref a4, .ref a5, .ref a6, .ref a7, .ref a8, .int x9, .int x10, .int x11, .int x12, .int x13, .int x14, .int x15, .int x16, .int x17, .int x18, .int x19, zU, zU] [] W =
 zthI (ev_ G 207 0 [.ref a0, .int 15, .int x12, .int x13, .int 0, .int 0, .int 0, zU] [] W)
  (fun t2 W1 =>
 if x16 = 0 then
   (if (t2 = (-3000000) : Prop) then
     (if (1 : Int32) &&& 1 = 1 then some (.inl (some (.int 1)), W1) else none)
    else
     if (0 : Int32) &&& 1 = 0 then some (.inl (some (.int 0)), W1) else none)
  else
   if x19 = 0 then
    (if (t2 = (-1000000) : Prop) then
      (if (1 : Int32) &&& 1 = 1 then some (.inl (some (.int 1)), W1) else none)
     else
      if (0 : Int32) &&& 1 = 0 then some (.inl (some (.int 0)), W1) else none)
   else
    if (t2 = 0 : Prop) then
     (if (1 : Int32) &&& 1 = 1 then some (.inl (some (.int 1)), W1) else none)
    else
     if (0 : Int32) &&& 1 = 0 then some (.inl (some (.int 0)), W1) else none)
  zxe :=
 (zx_st (zh_L_isBoard G) [47, 77, 107, 126, 147, 166, 213, 247, 318, 354, 446, 477, 561, 657, 781, 806, 864, 944, 960] 400 477 _ _ _).trans rfl
set_option maxRecDepth 100000 in
theorem q_L_isBoard_561 (G : Nat × Nat) (a0 : Nat) (a1 : Nat) (a2 : Nat) (a3 : Nat) (a4 : Nat) (a5 : Nat) (a6 : Nat) (a7 : Nat) (a8 : Nat) (x9 : Int32) (x10 : Int32) (x11 : Int32) (x12 : Int32) (x13 : Int32) (x14 : Int32) (x15 : Int32) (x16 : Int32) (x17 : Int32) (x18 : Int32) (x19 : Int32) (x20 : Int32) (u21 : Value) (W : zW) : ev_ G 221 561 [.ref a0, .ref a1, .ref a2, .ref a3, .ref a4, .ref a5, .ref a6, .ref a7, .ref a8, .int x9, .int x10, .int x11, .int x12, .int x13, .int x14, .int x15, .int x16, .int x17, .int x18, .int x19, .int x20, u21] [] W =
 if (8 ≤ x20 : Prop) then
  (if x19 = 0 then
    (ev_ G 221 657 [.ref a0, .ref a1, .ref a2, .ref a3, .ref a4, .ref a5, .ref a6, .ref a7, .ref a8, .int x9, .int x10, .int x11, .int x12, .int x13, .int x14, .int x15, .int x16, .int x17, .int x18, .int x19, .int x20, u21] [.int 4, .ref a7] W)
   else
    ev_ G 221 657 [.ref a0, .ref a1, .ref a2, .ref a3, .ref a4, .ref a5, .ref a6, .ref a7, .ref a8, .int x9, .int x10, .int x11, .int x12, .int x13, .int x14, .int x15, .int x16, .int x17, .int x18, .int x19, .int x20, u21] [.int x12, .ref a7] W)
 else
  if x19 = 0 then
   (if x19 = 0 then
     (ev_ G 221 657 [.ref a0, .ref a1, .ref a2, .ref a3, .ref a4, .ref a5, .ref a6, .ref a7, .ref a8, .int x9, .int x10, .int x11, .int x12, .int x13, .int x14, .int x15, .int x16, .int x17, .int x18, .int x19, .int x20, u21] [.int 4, .ref a7] W)
    else
     ev_ G 221 657 [.ref a0, .ref a1, .ref a2, .ref a3, .ref a4, .ref a5, .ref a6, .ref a7, .ref a8, .int x9, .int x10, .int x11, .int x12, .int x13, .int x14, .int x15, .int x16, .int x17, .int x18, .int x19, .int x20, u21] [.int x12, .ref a7] W)
  else
   (zld false W a5 ((8 * x12) + x20)).bind fun t1 =>
   if 64 = 0 then none else
   if 8 = 0 then none else
   (zld false W a5 ((8 * x12) + x20)).bind fun t2 =>
   if ((t1 / 64) - (t1 / 64) / 8 * 8) ≤ 0 then
    ((zsto 0 W a5 ((8 * x12) + x20) (t2 + 0)).bind fun W3 =>
     ev_ G 221 561 [.ref a0, .ref a1, .ref a2, .ref a3, .ref a4, .ref a5, .ref a6, .ref a7, .ref a8, .int x9, .int x10, .int x11, .int x12, .int x13, .int x14, .int x15, .int x16, .int x17, .int x18, .int x19, .int (x20 + 1), .int ((t1 / 64) - (t1 / 64) / 8 * 8)] [] W3)
   else
    if (4 ≤ ((t1 / 64) - (t1 / 64) / 8 * 8) : Prop) then
     ((zsto 0 W a5 ((8 * x12) + x20) (t2 + 0)).bind fun W4 =>
      ev_ G 221 561 [.ref a0, .ref a1, .ref a2, .ref a3, .ref a4, .ref a5, .ref a6, .ref a7, .ref a8, .int x9, .int x10, .int x11, .int x12, .int x13, .int x14, .int x15, .int x16, .int x17, .int x18, .int x19, .int (x20 + 1), .int ((t1 / 64) - (t1 / 64) / 8 * 8)] [] W4)
    else
     (zld false W a4 16).bind fun t5 =>
     if (((t5 >>> (x20 &&& 31)) &&& 1) = 1 : Prop) then
      ((zsto 0 W a5 ((8 * x12) + x20) (t2 + 256)).bind fun W6 =>
       ev_ G 221 561 [.ref a0, .ref a1, .ref a2, .ref a3, .ref a4, .ref a5, .ref a6, .ref a7, .ref a8, .int x9, .int x10, .int x11, .int x12, .int x13, .int x14, .int x15, .int x16, .int x17, .int x18, .int x19, .int (x20 + 1), .int ((t1 / 64) - (t1 / 64) / 8 * 8)] [] W6)
     else
      (zsto 0 W a5 ((8 * x12) + x20) (t2 + 0)).bind fun W7 =>
      ev_ G 221 561 [.ref a0, .ref a1, .ref a2, .ref a3, .ref a4, .ref a5, .ref a6, .ref a7, .ref a8, .int x9, .int x10, .int x11, .int x12, .int x13, .int x14, .int x15, .int x16, .int x17, .int x18, .int x19, .int (x20 + 1), .int ((t1 / 64) - (t1 / 64) / 8 * 8)] [] W7 :=
 (zx_st (zh_L_isBoard G) [47, 77, 107, 126, 147, 166, 213, 247, 318, 354, 446, 477, 561, 657, 781, 806, 864, 944, 960] 400 561 _ _ _).trans rfl
set_option maxRecDepth 100000 in
theorem q_L_isBoard_657 (G : Nat × Nat) (a0 : Nat) (a1 : Nat) (a2 : Nat) (a3 : Nat) (a4 : Nat) (a5 : Nat) (a6 : Nat) (a7 : Nat) (a8 : Nat) (x9 : Int32) (x10 : Int32) (x11 : Int32) (x12 : Int32) (x13 : Int32) (x14 : Int32) (x15 : Int32) (x16 : Int32) (x17 : Int32) (x18 : Int32) (x19 : Int32) (x20 : Int32) (u21 : Value) (a_0 : Nat) (x_1 : Int32) (W : zW) : ev_ G 221 657 [.ref a0, .ref a1, .ref a2, .ref a3, .ref a4, .ref a5, .ref a6, .ref a7, .ref a8, .int x9, .int x10, .int x11, .int x12, .int x13, .int x14, .int x15, .int x16, .int x17, .int x18, .int x19, .int x20, u21] [.int x_1, .ref a_0] W =
 (zsto 0 W a_0 x_1 3).bind fun W1 =>
 zthI (ev_ G 207 0 [.ref a0, .int 17, .int x12, .int 0, .int 0, .int 0, .int 0, zU] [] W1)
  (fun t3 W2 =>
 if x15 = 0 then
   (if (t3 = (-3000000) : Prop) then
     (if (1 : Int32) &&& 1 = 1 then some (.inl (some (.int 1)), W2) else none)
    else
     if (0 : Int32) &&& 1 = 0 then some (.inl (some (.int 0)), W2) else none)
  else
   if x19 = 0 then
    (if (t3 = (-1000000) : Prop) then
      (if (1 : Int32) &&& 1 = 1 then some (.inl (some (.int 1)), W2) else none)
     else
      if (0 : Int32) &&& 1 = 0 then some (.inl (some (.int 0)), W2) else none)
   else
    zthI (ev_ G 216 0 [.ref a5, .int x12, .int 1, zU, zU, zU] [] W2)
     (fun t5 W4 =>
    if (t3 = t5 : Prop) then
      (if (1 : Int32) &&& 1 = 1 then some (.inl (some (.int 1)), W4) else none)
     else
      if (0 : Int32) &&& 1 = 0 then some (.inl (some (.int 0)), W4) else none)
     zxe)
  zxe :=
 (zx_st (zh_L_isBoard G) [47, 77, 107, 126, 147, 166, 213, 247, 318, 354, 446, 477, 561, 657, 781, 806, 864, 944, 960] 400 657 _ _ _).trans rfl
set_option maxRecDepth 100000 in
theorem q_L_isBoard_781 (G : Nat × Nat) (a0 : Nat) (a1 : Nat) (a2 : Nat) (a3 : Nat) (a4 : Nat) (a5 : Nat) (a6 : Nat) (a7 : Nat) (a8 : Nat) (x9 : Int32) (x10 : Int32) (x11 : Int32) (x12 : Int32) (x13 : Int32) (x14 : Int32) (x15 : Int32) (x16 : Int32) (x17 : Int32) (x18 : Int32) (x_0 : Int32) (a_1 : Nat) (x_2 : Int32) (W : zW) : ev_ G 221 781 [.ref a0, .ref a1, .ref a2, .ref a3, .ref a4, .ref a5, .ref a6, .ref a7, .ref a8, .int x9, .int x10, .int x11, .int x12, .int x13, .int x14, .int x15, .int x16, .int x17, .int x18, zU, zU, zU] [.int x_2, .ref a_1, .int x_0] W =
 (zld false W a_1 x_2).bind fun t1 =>
 if 8 = 0 then none else
 if (x_0 = (t1 - t1 / 8 * 8) : Prop) then
  (zthI (ev_ G 214 0 [.ref a1, .ref a2, .ref a3, .ref a4, .int x14] [] W)
    (fun t3 W2 =>
   if t3 = 0 then
     (ev_ G 221 806 [.ref a0, .ref a1, .ref a2, .ref a3, .ref a4, .ref a5, .ref a6, .ref a7, .ref a8, .int x9, .int x10, .int x11, .int x12, .int x13, .int x14, .int x15, .int x16, .int x17, .int x18, zU, zU, zU] [.int 0] W2)
    else
     ev_ G 221 806 [.ref a0, .ref a1, .ref a2, .ref a3, .ref a4, .ref a5, .ref a6, .ref a7, .ref a8, .int x9, .int x10, .int x11, .int x12, .int x13, .int x14, .int x15, .int x16, .int x17, .int x18, zU, zU, zU] [.int 1] W2)
    zxe)
 else
  ev_ G 221 806 [.ref a0, .ref a1, .ref a2, .ref a3, .ref a4, .ref a5, .ref a6, .ref a7, .ref a8, .int x9, .int x10, .int x11, .int x12, .int x13, .int x14, .int x15, .int x16, .int x17, .int x18, zU, zU, zU] [.int 0] W :=
 (zx_st (zh_L_isBoard G) [47, 77, 107, 126, 147, 166, 213, 247, 318, 354, 446, 477, 561, 657, 781, 806, 864, 944, 960] 400 781 _ _ _).trans rfl
set_option maxRecDepth 100000 in
theorem q_L_isBoard_806 (G : Nat × Nat) (a0 : Nat) (a1 : Nat) (a2 : Nat) (a3 : Nat) (a4 : Nat) (a5 : Nat) (a6 : Nat) (a7 : Nat) (a8 : Nat) (x9 : Int32) (x10 : Int32) (x11 : Int32) (x12 : Int32) (x13 : Int32) (x14 : Int32) (x15 : Int32) (x16 : Int32) (x17 : Int32) (x18 : Int32) (x_0 : Int32) (W : zW) : ev_ G 221 806 [.ref a0, .ref a1, .ref a2, .ref a3, .ref a4, .ref a5, .ref a6, .ref a7, .ref a8, .int x9, .int x10, .int x11, .int x12, .int x13, .int x14, .int x15, .int x16, .int x17, .int x18, zU, zU, zU] [.int x_0] W =
 if x_0 = 0 then
  (ev_ G 221 864 [.ref a0, .ref a1, .ref a2, .ref a3, .ref a4, .ref a5, .ref a6, .ref a7, .ref a8, .int x9, .int x10, .int x11, .int x12, .int x13, .int x14, .int x15, .int x16, .int x17, .int x18, .int x_0, zU, zU] [] W)
 else
  (zld false W a5 x18).bind fun t1 =>
  if 2048 = 0 then none else
  (zsto 0 W a5 x18 ((((((t1 / 2048) * 2048) + 512) + x14) + 1))).bind fun W2 =>
  (zld false W2 a4 17).bind fun t3 =>
  (zsto 0 W2 a6 x18 t3).bind fun W4 =>
  (zld false W4 a2 x14).bind fun t5 =>
  (zsto 0 W4 a2 x14 (t5 - 1)).bind fun W6 =>
  (zsto 0 W6 a7 x12 1).bind fun W7 =>
  ev_ G 221 864 [.ref a0, .ref a1, .ref a2, .ref a3, .ref a4, .ref a5, .ref a6, .ref a7, .ref a8, .int x9, .int x10, .int x11, .int x12, .int x13, .int x14, .int x15, .int x16, .int x17, .int x18, .int x_0, zU, zU] [] W7 :=
 (zx_st (zh_L_isBoard G) [47, 77, 107, 126, 147, 166, 213, 247, 318, 354, 446, 477, 561, 657, 781, 806, 864, 944, 960] 400 806 _ _ _).trans rfl
set_option maxRecDepth 100000 in
theorem q_L_isBoard_864 (G : Nat × Nat) (a0 : Nat) (a1 : Nat) (a2 : Nat) (a3 : Nat) (a4 : Nat) (a5 : Nat) (a6 : Nat) (a7 : Nat) (a8 : Nat) (x9 : Int32) (x10 : Int32) (x11 : Int32) (x12 : Int32) (x13 : Int32) (x14 : Int32) (x15 : Int32) (x16 : Int32) (x17 : Int32) (x18 : Int32) (x19 : Int32) (W : zW) : ev_ G 221 864 [.ref a0, .ref a1, .ref a2, .ref a3, .ref a4, .ref a5, .ref a6, .ref a7, .ref a8, .int x9, .int x10, .int x11, .int x12, .int x13, .int x14, .int x15, .int x16, .int x17, .int x18, .int x19, zU, zU] [] W =
 zthI (ev_ G 207 0 [.ref a0, .int 18, .int x12, .int x13, .int x14, .int 0, .int 0, zU] [] W)
  (fun t2 W1 =>
 if x17 = 0 then
   (if (t2 = (-3000000) : Prop) then
     (if (1 : Int32) &&& 1 = 1 then some (.inl (some (.int 1)), W1) else none)
    else
     if (0 : Int32) &&& 1 = 0 then some (.inl (some (.int 0)), W1) else none)
  else
   if x19 = 0 then
    (if (t2 = (-1000000) : Prop) then
      (if (1 : Int32) &&& 1 = 1 then some (.inl (some (.int 1)), W1) else none)
     else
      if (0 : Int32) &&& 1 = 0 then some (.inl (some (.int 0)), W1) else none)
   else
    zthI (ev_ G 216 0 [.ref a5, .int x12, .int 1, zU, zU, zU] [] W1)
     (fun t4 W3 =>
    if (t2 = t4 : Prop) then
      (if (1 : Int32) &&& 1 = 1 then some (.inl (some (.int 1)), W3) else none)
     else
      if (0 : Int32) &&& 1 = 0 then some (.inl (some (.int 0)), W3) else none)
     zxe)
  zxe :=
 (zx_st (zh_L_isBoard G) [47, 77, 107, 126, 147, 166, 213, 247, 318, 354, 446, 477, 561, 657, 781, 806, 864, 944, 960] 400 864 _ _ _).trans rfl
set_option maxRecDepth 100000 in
theorem q_L_isBoard_944 (G : Nat × Nat) (a0 : Nat) (a1 : Nat) (a2 : Nat) (a3 : Nat) (a4 : Nat) (a5 : Nat) (a6 : Nat) (a7 : Nat) (a8 : Nat) (x9 : Int32) (x10 : Int32) (x11 : Int32) (x12 : Int32) (x13 : Int32) (x14 : Int32) (x15 : Int32) (x16 : Int32) (x17 : Int32) (x18 : Int32) (W : zW) : ev_ G 221 944 [.ref a0, .ref a1, .ref a2, .ref a3, .ref a4, .ref a5, .ref a6, .ref a7, .ref a8, .int x9, .int x10, .int x11, .int x12, .int x13, .int x14, .int x15, .int x16, .int x17, .int x18, zU, zU, zU] [] W =
 if 0 = 0 then
  (ev_ G 221 960 [.ref a0, .ref a1, .ref a2, .ref a3, .ref a4, .ref a5, .ref a6, .ref a7, .ref a8, .int x9, .int x10, .int x11, .int x12, .int x13, .int x14, .int x15, .int x16, .int x17, .int x18, .int 0, zU, zU] [.int 4, .ref a7] W)
 else
  ev_ G 221 960 [.ref a0, .ref a1, .ref a2, .ref a3, .ref a4, .ref a5, .ref a6, .ref a7, .ref a8, .int x9, .int x10, .int x11, .int x12, .int x13, .int x14, .int x15, .int x16, .int x17, .int x18, .int 0, zU, zU] [.int x12, .ref a7] W :=
 (zx_st (zh_L_isBoard G) [47, 77, 107, 126, 147, 166, 213, 247, 318, 354, 446, 477, 561, 657, 781, 806, 864, 944, 960] 400 944 _ _ _).trans rfl
set_option maxRecDepth 100000 in
theorem q_L_isBoard_960 (G : Nat × Nat) (a0 : Nat) (a1 : Nat) (a2 : Nat) (a3 : Nat) (a4 : Nat) (a5 : Nat) (a6 : Nat) (a7 : Nat) (a8 : Nat) (x9 : Int32) (x10 : Int32) (x11 : Int32) (x12 : Int32) (x13 : Int32) (x14 : Int32) (x15 : Int32) (x16 : Int32) (x17 : Int32) (x18 : Int32) (x19 : Int32) (a_0 : Nat) (x_1 : Int32) (W : zW) : ev_ G 221 960 [.ref a0, .ref a1, .ref a2, .ref a3, .ref a4, .ref a5, .ref a6, .ref a7, .ref a8, .int x9, .int x10, .int x11, .int x12, .int x13, .int x14, .int x15, .int x16, .int x17, .int x18, .int x19, zU, zU] [.int x_1, .ref a_0] W =
 (zsto 0 W a_0 x_1 7).bind fun W1 =>
 zthI (ev_ G 207 0 [.ref a0, .int 19, .int x12, .int 0, .int 0, .int 0, .int 0, zU] [] W1)
  (fun t3 W2 =>
 if x15 = 0 then
   (if (t3 = (-3000000) : Prop) then
     (if (1 : Int32) &&& 1 = 1 then some (.inl (some (.int 1)), W2) else none)
    else
     if (0 : Int32) &&& 1 = 0 then some (.inl (some (.int 0)), W2) else none)
  else
   if x19 = 0 then
    (if (t3 = (-1000000) : Prop) then
      (if (1 : Int32) &&& 1 = 1 then some (.inl (some (.int 1)), W2) else none)
     else
      if (0 : Int32) &&& 1 = 0 then some (.inl (some (.int 0)), W2) else none)
   else
    zthI (ev_ G 216 0 [.ref a5, .int x12, .int 0, zU, zU, zU] [] W2)
     (fun t5 W4 =>
    if (t3 = t5 : Prop) then
      (if (1 : Int32) &&& 1 = 1 then some (.inl (some (.int 1)), W4) else none)
     else
      if (0 : Int32) &&& 1 = 0 then some (.inl (some (.int 0)), W4) else none)
     zxe)
  zxe :=
 (zx_st (zh_L_isBoard G) [47, 77, 107, 126, 147, 166, 213, 247, 318, 354, 446, 477, 561, 657, 781, 806, 864, 944, 960] 400 960 _ _ _).trans rfl
set_option maxRecDepth 100000 in
theorem q_L_isTold_0 (G : Nat × Nat) (a0 : Nat) (a1 : Nat) (a2 : Nat) (x3 : Int32) (x4 : Int32) (x5 : Int32) (W : zW) : ev_ G 222 0 [.ref a0, .ref a1, .ref a2, .int x3, .int x4, .int x5, zU, zU, zU, zU, zU, zU] [] W =
 if x3 = 0 then
  (if 2 = 0 then none else
   if ((x4 - x4 / 2 * 2) = 1 : Prop) then
    (ev_ G 222 17 [.ref a0, .ref a1, .ref a2, .int x3, .int x4, .int x5, zU, zU, zU, zU, zU, zU] [.int 1] W)
   else
    ev_ G 222 17 [.ref a0, .ref a1, .ref a2, .int x3, .int x4, .int x5, zU, zU, zU, zU, zU, zU] [.int 0] W)
 else
  if (x3 = 1 : Prop) then
   (if 9 = 0 then none else
    if 3 = 0 then none else
    if (x5 - x5 / 3 * 3) ≤ 0 then
     (ev_ G 222 302 [.ref a0, .ref a1, .ref a2, .int x3, .int x4, .int x5, .int (x4 - x4 / 9 * 9), zU, zU, zU, zU, zU] [.int 0] W)
    else
     ev_ G 222 302 [.ref a0, .ref a1, .ref a2, .int x3, .int x4, .int x5, .int (x4 - x4 / 9 * 9), zU, zU, zU, zU, zU] [.int 1] W)
  else
   if 6 = 0 then none else
   if (x4 - x4 / 6 * 6) = 0 then
    (if 1001 = 0 then none else
     ev_ G 222 451 [.ref a0, .ref a1, .ref a2, .int x3, .int x4, .int x5, zU, zU, zU, zU, zU, zU] [.int (x4 - x4 / 1001 * 1001)] W)
   else
    if 60 = 0 then none else
    ev_ G 222 451 [.ref a0, .ref a1, .ref a2, .int x3, .int x4, .int x5, zU, zU, zU, zU, zU, zU] [.int (1 + (x4 - x4 / 60 * 60))] W :=
 (zx_st (zh_L_isTold G) [17, 42, 75, 113, 136, 176, 203, 222, 238, 302, 356, 398, 451, 471, 496, 514] 400 0 _ _ _).trans rfl
set_option maxRecDepth 100000 in
theorem q_L_isTold_17 (G : Nat × Nat) (a0 : Nat) (a1 : Nat) (a2 : Nat) (x3 : Int32) (x4 : Int32) (x5 : Int32) (x_0 : Int32) (W : zW) : ev_ G 222 17 [.ref a0, .ref a1, .ref a2, .int x3, .int x4, .int x5, zU, zU, zU, zU, zU, zU] [.int x_0] W =
 if 2 = 0 then none else
 if 9 = 0 then none else
 if (((x4 / 2) - (x4 / 2) / 9 * 9) = 8 : Prop) then
  (ev_ G 222 42 [.ref a0, .ref a1, .ref a2, .int x3, .int x4, .int x5, .int x_0, zU, zU, zU, zU, zU] [.int 6] W)
 else
  if 2 = 0 then none else
  if 3 = 0 then none else
  ev_ G 222 42 [.ref a0, .ref a1, .ref a2, .int x3, .int x4, .int x5, .int x_0, zU, zU, zU, zU, zU] [.int ((x4 / 2) - (x4 / 2) / 3 * 3)] W :=
 (zx_st (zh_L_isTold G) [17, 42, 75, 113, 136, 176, 203, 222, 238, 302, 356, 398, 451, 471, 496, 514] 400 17 _ _ _).trans rfl
set_option maxRecDepth 100000 in
theorem q_L_isTold_42 (G : Nat × Nat) (a0 : Nat) (a1 : Nat) (a2 : Nat) (x3 : Int32) (x4 : Int32) (x5 : Int32) (x6 : Int32) (x_0 : Int32) (W : zW) : ev_ G 222 42 [.ref a0, .ref a1, .ref a2, .int x3, .int x4, .int x5, .int x6, zU, zU, zU, zU, zU] [.int x_0] W =
 if 5 = 0 then none else
 if (x5 - x5 / 5 * 5) = 0 then
  (if 5 = 0 then none else
   if 403 = 0 then none else
   ev_ G 222 75 [.ref a0, .ref a1, .ref a2, .int x3, .int x4, .int x5, .int x6, .int x_0, zU, zU, zU, zU] [.int ((((x5 / 5) - (x5 / 5) / 403 * 403) - 1))] W)
 else
  if 5 = 0 then none else
  if 110 = 0 then none else
  ev_ G 222 75 [.ref a0, .ref a1, .ref a2, .int x3, .int x4, .int x5, .int x6, .int x_0, zU, zU, zU, zU] [.int ((140 + ((x5 / 5) - (x5 / 5) / 110 * 110)))] W :=
 (zx_st (zh_L_isTold G) [17, 42, 75, 113, 136, 176, 203, 222, 238, 302, 356, 398, 451, 471, 496, 514] 400 42 _ _ _).trans rfl
set_option maxRecDepth 100000 in
theorem q_L_isTold_75 (G : Nat × Nat) (a0 : Nat) (a1 : Nat) (a2 : Nat) (x3 : Int32) (x4 : Int32) (x5 : Int32) (x6 : Int32) (x7 : Int32) (x_0 : Int32) (W : zW) : ev_ G 222 75 [.ref a0, .ref a1, .ref a2, .int x3, .int x4, .int x5, .int x6, .int x7, zU, zU, zU, zU] [.int x_0] W =
 if 18 = 0 then none else
 if 5 = 0 then none else
 if ((x4 / 18) - (x4 / 18) / 5 * 5) = 0 then
  (if 90 = 0 then none else
   if 3 = 0 then none else
   ev_ G 222 113 [.ref a0, .ref a1, .ref a2, .int x3, .int x4, .int x5, .int x6, .int x7, .int x_0, zU, zU, zU] [.int (((x_0 - 1) + ((x4 / 90) - (x4 / 90) / 3 * 3)))] W)
 else
  if 90 = 0 then none else
  if 60 = 0 then none else
  ev_ G 222 113 [.ref a0, .ref a1, .ref a2, .int x3, .int x4, .int x5, .int x6, .int x7, .int x_0, zU, zU, zU] [.int ((x_0 + ((x4 / 90) - (x4 / 90) / 60 * 60)))] W :=
 (zx_st (zh_L_isTold G) [17, 42, 75, 113, 136, 176, 203, 222, 238, 302, 356, 398, 451, 471, 496, 514] 400 75 _ _ _).trans rfl
set_option maxRecDepth 100000 in
theorem q_L_isTold_113 (G : Nat × Nat) (a0 : Nat) (a1 : Nat) (a2 : Nat) (x3 : Int32) (x4 : Int32) (x5 : Int32) (x6 : Int32) (x7 : Int32) (x8 : Int32) (x_0 : Int32) (W : zW) : ev_ G 222 113 [.ref a0, .ref a1, .ref a2, .int x3, .int x4, .int x5, .int x6, .int x7, .int x8, zU, zU, zU] [.int x_0] W =
 if x6 = 0 then
  (if (6 ≤ x7 : Prop) then
    (ev_ G 222 136 [.ref a0, .ref a1, .ref a2, .int x3, .int x4, .int x5, .int x6, .int x7, .int x8, .int x_0, zU, zU] [.int 0] W)
   else
    ev_ G 222 136 [.ref a0, .ref a1, .ref a2, .int x3, .int x4, .int x5, .int x6, .int x7, .int x8, .int x_0, zU, zU] [.int 1] W)
 else
  if (4 ≤ x7 : Prop) then
   (ev_ G 222 136 [.ref a0, .ref a1, .ref a2, .int x3, .int x4, .int x5, .int x6, .int x7, .int x8, .int x_0, zU, zU] [.int 0] W)
  else
   ev_ G 222 136 [.ref a0, .ref a1, .ref a2, .int x3, .int x4, .int x5, .int x6, .int x7, .int x8, .int x_0, zU, zU] [.int 1] W :=
 (zx_st (zh_L_isTold G) [17, 42, 75, 113, 136, 176, 203, 222, 238, 302, 356, 398, 451, 471, 496, 514] 400 113 _ _ _).trans rfl
set_option maxRecDepth 100000 in
theorem q_L_isTold_136 (G : Nat × Nat) (a0 : Nat) (a1 : Nat) (a2 : Nat) (x3 : Int32) (x4 : Int32) (x5 : Int32) (x6 : Int32) (x7 : Int32) (x8 : Int32) (x9 : Int32) (x_0 : Int32) (W : zW) : ev_ G 222 136 [.ref a0, .ref a1, .ref a2, .int x3, .int x4, .int x5, .int x6, .int x7, .int x8, .int x9, zU, zU] [.int x_0] W =
 if x8 < 0 then
  (ev_ G 222 176 [.ref a0, .ref a1, .ref a2, .int x3, .int x4, .int x5, .int x6, .int x7, .int x8, .int x9, .int x_0, zU] [.int 0] W)
 else
  if (401 ≤ x8 : Prop) then
   (ev_ G 222 176 [.ref a0, .ref a1, .ref a2, .int x3, .int x4, .int x5, .int x6, .int x7, .int x8, .int x9, .int x_0, zU] [.int 0] W)
  else
   if x6 = 0 then
    (if (x9 < x8 : Prop) then
      (ev_ G 222 176 [.ref a0, .ref a1, .ref a2, .int x3, .int x4, .int x5, .int x6, .int x7, .int x8, .int x9, .int x_0, zU] [.int 0] W)
     else
      if (401 ≤ x9 : Prop) then
       (ev_ G 222 176 [.ref a0, .ref a1, .ref a2, .int x3, .int x4, .int x5, .int x6, .int x7, .int x8, .int x9, .int x_0, zU] [.int 0] W)
      else
       ev_ G 222 176 [.ref a0, .ref a1, .ref a2, .int x3, .int x4, .int x5, .int x6, .int x7, .int x8, .int x9, .int x_0, zU] [.int 1] W)
   else
    ev_ G 222 176 [.ref a0, .ref a1, .ref a2, .int x3, .int x4, .int x5, .int x6, .int x7, .int x8, .int x9, .int x_0, zU] [.int 1] W :=
 (zx_st (zh_L_isTold G) [17, 42, 75, 113, 136, 176, 203, 222, 238, 302, 356, 398, 451, 471, 496, 514] 400 136 _ _ _).trans rfl
set_option maxRecDepth 100000 in
theorem q_L_isTold_176 (G : Nat × Nat) (a0 : Nat) (a1 : Nat) (a2 : Nat) (x3 : Int32) (x4 : Int32) (x5 : Int32) (x6 : Int32) (x7 : Int32) (x8 : Int32) (x9 : Int32) (x10 : Int32) (x_0 : Int32) (W : zW) : ev_ G 222 176 [.ref a0, .ref a1, .ref a2, .int x3, .int x4, .int x5, .int x6, .int x7, .int x8, .int x9, .int x10, zU] [.int x_0] W =
 if x10 = 0 then
  (if x6 = 0 then
    (ev_ G 222 238 [.ref a0, .ref a1, .ref a2, .int x3, .int x4, .int x5, .int x6, .int x7, .int x8, .int x9, .int x10, .int x_0] [.int 0, .int 13, .ref a0] W)
   else
    ev_ G 222 238 [.ref a0, .ref a1, .ref a2, .int x3, .int x4, .int x5, .int x6, .int x7, .int x8, .int x9, .int x10, .int x_0] [.int 1, .int 13, .ref a0] W)
 else
  if x_0 = 0 then
   (if x6 = 0 then
     (ev_ G 222 238 [.ref a0, .ref a1, .ref a2, .int x3, .int x4, .int x5, .int x6, .int x7, .int x8, .int x9, .int x10, .int x_0] [.int 0, .int 13, .ref a0] W)
    else
     ev_ G 222 238 [.ref a0, .ref a1, .ref a2, .int x3, .int x4, .int x5, .int x6, .int x7, .int x8, .int x9, .int x10, .int x_0] [.int 1, .int 13, .ref a0] W)
  else
   if x6 = 0 then
    (ev_ G 222 203 [.ref a0, .ref a1, .ref a2, .int x3, .int x4, .int x5, .int x6, .int x7, .int x8, .int x9, .int x10, .int x_0] [.int (4 + x7), .ref a1] W)
   else
    ev_ G 222 203 [.ref a0, .ref a1, .ref a2, .int x3, .int x4, .int x5, .int x6, .int x7, .int x8, .int x9, .int x10, .int x_0] [.int x7, .ref a1] W :=
 (zx_st (zh_L_isTold G) [17, 42, 75, 113, 136, 176, 203, 222, 238, 302, 356, 398, 451, 471, 496, 514] 400 176 _ _ _).trans rfl
set_option maxRecDepth 100000 in
theorem q_L_isTold_203 (G : Nat × Nat) (a0 : Nat) (a1 : Nat) (a2 : Nat) (x3 : Int32) (x4 : Int32) (x5 : Int32) (x6 : Int32) (x7 : Int32) (x8 : Int32) (x9 : Int32) (x10 : Int32) (x11 : Int32) (a_0 : Nat) (x_1 : Int32) (W : zW) : ev_ G 222 203 [.ref a0, .ref a1, .ref a2, .int x3, .int x4, .int x5, .int x6, .int x7, .int x8, .int x9, .int x10, .int x11] [.int x_1, .ref a_0] W =
 (zsto 0 W a_0 x_1 x8).bind fun W1 =>
 if x6 = 0 then
  (ev_ G 222 222 [.ref a0, .ref a1, .ref a2, .int x3, .int x4, .int x5, .int x6, .int x7, .int x8, .int x9, .int x10, .int x11] [.int (10 + x7), .ref a1] W1)
 else
  ev_ G 222 222 [.ref a0, .ref a1, .ref a2, .int x3, .int x4, .int x5, .int x6, .int x7, .int x8, .int x9, .int x10, .int x11] [.int 18, .ref a1] W1 :=
 (zx_st (zh_L_isTold G) [17, 42, 75, 113, 136, 176, 203, 222, 238, 302, 356, 398, 451, 471, 496, 514] 400 203 _ _ _).trans rfl
set_option maxRecDepth 100000 in
theorem q_L_isTold_222 (G : Nat × Nat) (a0 : Nat) (a1 : Nat) (a2 : Nat) (x3 : Int32) (x4 : Int32) (x5 : Int32) (x6 : Int32) (x7 : Int32) (x8 : Int32) (x9 : Int32) (x10 : Int32) (x11 : Int32) (a_0 : Nat) (x_1 : Int32) (W : zW) : ev_ G 222 222 [.ref a0, .ref a1, .ref a2, .int x3, .int x4, .int x5, .int x6, .int x7, .int x8, .int x9, .int x10, .int x11] [.int x_1, .ref a_0] W =
 (zsto 0 W a_0 x_1 x9).bind fun W1 =>
 if x6 = 0 then
  (ev_ G 222 238 [.ref a0, .ref a1, .ref a2, .int x3, .int x4, .int x5, .int x6, .int x7, .int x8, .int x9, .int x10, .int x11] [.int 0, .int 13, .ref a0] W1)
 else
  ev_ G 222 238 [.ref a0, .ref a1, .ref a2, .int x3, .int x4, .int x5, .int x6, .int x7, .int x8, .int x9, .int x10, .int x11] [.int 1, .int 13, .ref a0] W1 :=
 (zx_st (zh_L_isTold G) [17, 42, 75, 113, 136, 176, 203, 222, 238, 302, 356, 398, 451, 471, 496, 514] 400 222 _ _ _).trans rfl
set_option maxRecDepth 100000 in
theorem q_L_isTold_238 (G : Nat × Nat) (a0 : Nat) (a1 : Nat) (a2 : Nat) (x3 : Int32) (x4 : Int32) (x5 : Int32) (x6 : Int32) (x7 : Int32) (x8 : Int32) (x9 : Int32) (x10 : Int32) (x11 : Int32) (a_0 : Nat) (x_1 : Int32) (x_2 : Int32) (W : zW) : ev_ G 222 238 [.ref a0, .ref a1, .ref a2, .int x3, .int x4, .int x5, .int x6, .int x7, .int x8, .int x9, .int x10, .int x11] [.int x_2, .int x_1, .ref a_0] W =
 zthI (ev_ G 207 0 [.ref a_0, .int x_1, .int x_2, .int x7, .int x8, .int x9, .int 0, zU] [] W)
  (fun t2 W1 =>
 if x10 = 0 then
   (if (t2 = (-3000000) : Prop) then
     (if (1 : Int32) &&& 1 = 1 then some (.inl (some (.int 1)), W1) else none)
    else
     if (0 : Int32) &&& 1 = 0 then some (.inl (some (.int 0)), W1) else none)
  else
   if x11 = 0 then
    (if (t2 = (-2000000) : Prop) then
      (if (1 : Int32) &&& 1 = 1 then some (.inl (some (.int 1)), W1) else none)
     else
      if (0 : Int32) &&& 1 = 0 then some (.inl (some (.int 0)), W1) else none)
   else
    if (t2 = 0 : Prop) then
     (if (1 : Int32) &&& 1 = 1 then some (.inl (some (.int 1)), W1) else none)
    else
     if (0 : Int32) &&& 1 = 0 then some (.inl (some (.int 0)), W1) else none)
  zxe :=
 (zx_st (zh_L_isTold G) [17, 42, 75, 113, 136, 176, 203, 222, 238, 302, 356, 398, 451, 471, 496, 514] 400 238 _ _ _).trans rfl
set_option maxRecDepth 100000 in
theorem q_L_isTold_302 (G : Nat × Nat) (a0 : Nat) (a1 : Nat) (a2 : Nat) (x3 : Int32) (x4 : Int32) (x5 : Int32) (x6 : Int32) (x_0 : Int32) (W : zW) : ev_ G 222 302 [.ref a0, .ref a1, .ref a2, .int x3, .int x4, .int x5, .int x6, zU, zU, zU, zU, zU] [.int x_0] W =
 if (x6 = 8 : Prop) then
  ((zld false W a1 16).bind fun t1 =>
   (zsto 0 W a1 16 t1).bind fun W2 =>
   ev_ G 222 356 [.ref a0, .ref a1, .ref a2, .int x3, .int x4, .int x5, .int x6, .int x_0, .int 0, .int 0, zU, zU] [] W2)
 else
  if x_0 = 0 then
   ((zld false W a1 16).bind fun t3 =>
    (zsto 0 W a1 16 ((t3 &&& ((1 <<< (x6 &&& 31)) ^^^ (-1))))).bind fun W4 =>
    ev_ G 222 356 [.ref a0, .ref a1, .ref a2, .int x3, .int x4, .int x5, .int x6, .int x_0, .int 0, .int 0, zU, zU] [] W4)
  else
   (zld false W a1 16).bind fun t5 =>
   (zsto 0 W a1 16 ((t5 ||| (1 <<< (x6 &&& 31))))).bind fun W6 =>
   ev_ G 222 356 [.ref a0, .ref a1, .ref a2, .int x3, .int x4, .int x5, .int x6, .int x_0, .int 0, .int 0, zU, zU] [] W6 :=
 (zx_st (zh_L_isTold G) [17, 42, 75, 113, 136, 176, 203, 222, 238, 302, 356, 398, 451, 471, 496, 514] 400 302 _ _ _).trans rfl
set_option maxRecDepth 100000 in
theorem q_L_isTold_356 (G : Nat × Nat) (a0 : Nat) (a1 : Nat) (a2 : Nat) (x3 : Int32) (x4 : Int32) (x5 : Int32) (x6 : Int32) (x7 : Int32) (x8 : Int32) (x9 : Int32) (W : zW) : ev_ G 222 356 [.ref a0, .ref a1, .ref a2, .int x3, .int x4, .int x5, .int x6, .int x7, .int x8, .int x9, zU, zU] [] W =
 if (8 ≤ x9 : Prop) then
  (if x7 = 0 then
    (ev_ G 222 398 [.ref a0, .ref a1, .ref a2, .int x3, .int x4, .int x5, .int x6, .int x7, .int x8, .int x9, zU, zU] [.int 0, .int x6, .int 16, .ref a0] W)
   else
    ev_ G 222 398 [.ref a0, .ref a1, .ref a2, .int x3, .int x4, .int x5, .int x6, .int x7, .int x8, .int x9, zU, zU] [.int 1, .int x6, .int 16, .ref a0] W)
 else
  (zld false W a1 16).bind fun t1 =>
  ev_ G 222 356 [.ref a0, .ref a1, .ref a2, .int x3, .int x4, .int x5, .int x6, .int x7, .int ((x8 + ((t1 >>> (x9 &&& 31)) &&& 1))), .int (x9 + 1), zU, zU] [] W :=
 (zx_st (zh_L_isTold G) [17, 42, 75, 113, 136, 176, 203, 222, 238, 302, 356, 398, 451, 471, 496, 514] 400 356 _ _ _).trans rfl
set_option maxRecDepth 100000 in
theorem q_L_isTold_398 (G : Nat × Nat) (a0 : Nat) (a1 : Nat) (a2 : Nat) (x3 : Int32) (x4 : Int32) (x5 : Int32) (x6 : Int32) (x7 : Int32) (x8 : Int32) (x9 : Int32) (a_0 : Nat) (x_1 : Int32) (x_2 : Int32) (x_3 : Int32) (W : zW) : ev_ G 222 398 [.ref a0, .ref a1, .ref a2, .int x3, .int x4, .int x5, .int x6, .int x7, .int x8, .int x9, zU, zU] [.int x_3, .int x_2, .int x_1, .ref a_0] W =
 zthI (ev_ G 207 0 [.ref a_0, .int x_1, .int x_2, .int x_3, .int 0, .int 0, .int 0, zU] [] W)
  (fun t2 W1 =>
 if (x6 = 8 : Prop) then
   (if (t2 = (-3000000) : Prop) then
     (if (1 : Int32) &&& 1 = 1 then some (.inl (some (.int 1)), W1) else none)
    else
     if (0 : Int32) &&& 1 = 0 then some (.inl (some (.int 0)), W1) else none)
  else
   if (t2 = x8 : Prop) then
    (if (1 : Int32) &&& 1 = 1 then some (.inl (some (.int 1)), W1) else none)
   else
    if (0 : Int32) &&& 1 = 0 then some (.inl (some (.int 0)), W1) else none)
  zxe :=
 (zx_st (zh_L_isTold G) [17, 42, 75, 113, 136, 176, 203, 222, 238, 302, 356, 398, 451, 471, 496, 514] 400 398 _ _ _).trans rfl
set_option maxRecDepth 100000 in
theorem q_L_isTold_451 (G : Nat × Nat) (a0 : Nat) (a1 : Nat) (a2 : Nat) (x3 : Int32) (x4 : Int32) (x5 : Int32) (x_0 : Int32) (W : zW) : ev_ G 222 451 [.ref a0, .ref a1, .ref a2, .int x3, .int x4, .int x5, zU, zU, zU, zU, zU, zU] [.int x_0] W =
 if x_0 ≤ 0 then
  (ev_ G 222 471 [.ref a0, .ref a1, .ref a2, .int x3, .int x4, .int x5, .int x_0, zU, zU, zU, zU, zU] [.int 0] W)
 else
  if (1000 ≤ x_0 : Prop) then
   (ev_ G 222 471 [.ref a0, .ref a1, .ref a2, .int x3, .int x4, .int x5, .int x_0, zU, zU, zU, zU, zU] [.int 0] W)
  else
   ev_ G 222 471 [.ref a0, .ref a1, .ref a2, .int x3, .int x4, .int x5, .int x_0, zU, zU, zU, zU, zU] [.int 1] W :=
 (zx_st (zh_L_isTold G) [17, 42, 75, 113, 136, 176, 203, 222, 238, 302, 356, 398, 451, 471, 496, 514] 400 451 _ _ _).trans rfl
set_option maxRecDepth 100000 in
theorem q_L_isTold_471 (G : Nat × Nat) (a0 : Nat) (a1 : Nat) (a2 : Nat) (x3 : Int32) (x4 : Int32) (x5 : Int32) (x6 : Int32) (x_0 : Int32) (W : zW) : ev_ G 222 471 [.ref a0, .ref a1, .ref a2, .int x3, .int x4, .int x5, .int x6, zU, zU, zU, zU, zU] [.int x_0] W =
 if x_0 = 0 then
  (ev_ G 222 496 [.ref a0, .ref a1, .ref a2, .int x3, .int x4, .int x5, .int x6, .int x_0, zU, zU, zU, zU] [.int 0] W)
 else
  (zld false W a1 17).bind fun t1 =>
  if (10000 ≤ (t1 + x6) : Prop) then
   (ev_ G 222 496 [.ref a0, .ref a1, .ref a2, .int x3, .int x4, .int x5, .int x6, .int x_0, zU, zU, zU, zU] [.int 0] W)
  else
   ev_ G 222 496 [.ref a0, .ref a1, .ref a2, .int x3, .int x4, .int x5, .int x6, .int x_0, zU, zU, zU, zU] [.int 1] W :=
 (zx_st (zh_L_isTold G) [17, 42, 75, 113, 136, 176, 203, 222, 238, 302, 356, 398, 451, 471, 496, 514] 400 471 _ _ _).trans rfl
set_option maxRecDepth 100000 in
theorem q_L_isTold_496 (G : Nat × Nat) (a0 : Nat) (a1 : Nat) (a2 : Nat) (x3 : Int32) (x4 : Int32) (x5 : Int32) (x6 : Int32) (x7 : Int32) (x_0 : Int32) (W : zW) : ev_ G 222 496 [.ref a0, .ref a1, .ref a2, .int x3, .int x4, .int x5, .int x6, .int x7, zU, zU, zU, zU] [.int x_0] W =
 (zld false W a1 17).bind fun t1 =>
 if x_0 = 0 then
  (ev_ G 222 514 [.ref a0, .ref a1, .ref a2, .int x3, .int x4, .int x5, .int x6, .int x7, .int x_0, zU, zU, zU] [.int 0, .int t1, .int 17, .ref a1] W)
 else
  ev_ G 222 514 [.ref a0, .ref a1, .ref a2, .int x3, .int x4, .int x5, .int x6, .int x7, .int x_0, zU, zU, zU] [.int x6, .int t1, .int 17, .ref a1] W :=
 (zx_st (zh_L_isTold G) [17, 42, 75, 113, 136, 176, 203, 222, 238, 302, 356, 398, 451, 471, 496, 514] 400 496 _ _ _).trans rfl
set_option maxRecDepth 100000 in
theorem q_L_isTold_514 (G : Nat × Nat) (a0 : Nat) (a1 : Nat) (a2 : Nat) (x3 : Int32) (x4 : Int32) (x5 : Int32) (x6 : Int32) (x7 : Int32) (x8 : Int32) (a_0 : Nat) (x_1 : Int32) (x_2 : Int32) (x_3 : Int32) (W : zW) : ev_ G 222 514 [.ref a0, .ref a1, .ref a2, .int x3, .int x4, .int x5, .int x6, .int x7, .int x8, zU, zU, zU] [.int x_3, .int x_2, .int x_1, .ref a_0] W =
 (zsto 0 W a_0 x_1 (x_2 + x_3)).bind fun W1 =>
 zthI (ev_ G 207 0 [.ref a0, .int 20, .int x6, .int 0, .int 0, .int 0, .int 0, zU] [] W1)
  (fun t3 W2 =>
 if x7 = 0 then
   (if (t3 = (-2000000) : Prop) then
     (if (1 : Int32) &&& 1 = 1 then some (.inl (some (.int 1)), W2) else none)
    else
     if (0 : Int32) &&& 1 = 0 then some (.inl (some (.int 0)), W2) else none)
  else
   if x8 = 0 then
    (if (t3 = (-1000000) : Prop) then
      (if (1 : Int32) &&& 1 = 1 then some (.inl (some (.int 1)), W2) else none)
     else
      if (0 : Int32) &&& 1 = 0 then some (.inl (some (.int 0)), W2) else none)
   else
    (zld false W2 a1 17).bind fun t4 =>
    if (t3 = t4 : Prop) then
     (if (1 : Int32) &&& 1 = 1 then some (.inl (some (.int 1)), W2) else none)
    else
     if (0 : Int32) &&& 1 = 0 then some (.inl (some (.int 0)), W2) else none)
  zxe :=
 (zx_st (zh_L_isTold G) [17, 42, 75, 113, 136, 176, 203, 222, 238, 302, 356, 398, 451, 471, 496, 514] 400 514 _ _ _).trans rfl
set_option maxRecDepth 100000 in
theorem q_L_weight_0 (G : Nat × Nat) (a0 : Nat) (a1 : Nat) (a2 : Nat) (x3 : Int32) (W : zW) : ev_ G 211 0 [.ref a0, .ref a1, .ref a2, .int x3, zU, zU] [] W =
 ev_ G 211 6 [.ref a0, .ref a1, .ref a2, .int x3, .int 0, .int 0] [] W :=
 (zx_st (zh_L_weight G) [6] 400 0 _ _ _).trans rfl
set_option maxRecDepth 100000 in
theorem q_L_weight_6 (G : Nat × Nat) (a0 : Nat) (a1 : Nat) (a2 : Nat) (x3 : Int32) (x4 : Int32) (x5 : Int32) (W : zW) : ev_ G 211 6 [.ref a0, .ref a1, .ref a2, .int x3, .int x4, .int x5] [] W =
 (zld false W a2 2).bind fun t1 =>
 if (t1 ≤ x5 : Prop) then
  (some (.inl (some (.int x4)), W))
 else
  (zld false W a0 x5).bind fun t2 =>
  if (32768 ≤ t2 : Prop) then
   (ev_ G 211 6 [.ref a0, .ref a1, .ref a2, .int x3, .int (x4 + 0), .int (x5 + 1)] [] W)
  else
   (zld false W a0 x5).bind fun t3 =>
   if 4096 = 0 then none else
   if (((x3 >>> ((t3 / 4096) &&& 31)) &&& 1) = 1 : Prop) then
    ((zld false W a1 (24 + x5)).bind fun t4 =>
     ev_ G 211 6 [.ref a0, .ref a1, .ref a2, .int x3, .int (x4 + t4), .int (x5 + 1)] [] W)
   else
    ev_ G 211 6 [.ref a0, .ref a1, .ref a2, .int x3, .int (x4 + 0), .int (x5 + 1)] [] W :=
 (zx_st (zh_L_weight G) [6] 400 6 _ _ _).trans rfl
set_option maxRecDepth 100000 in
theorem q_L_isSo_0 (G : Nat × Nat) (a0 : Nat) (a1 : Nat) (a2 : Nat) (a3 : Nat) (a4 : Nat) (a5 : Nat) (a6 : Nat) (a7 : Nat) (a8 : Nat) (a9 : Nat) (a10 : Nat) (a11 : Nat) (x12 : Int32) (W : zW) : ev_ G 217 0 [.ref a0, .ref a1, .ref a2, .ref a3, .ref a4, .ref a5, .ref a6, .ref a7, .ref a8, .ref a9, .ref a10, .ref a11, .int x12, zU, zU, zU, zU, zU, zU] [] W =
 zthI (zck 12 W a0 (ev_ G 123 0 [.ref a0, .int 0] [] W))
  (fun t2 W1 =>
 (zld false W1 a11 6).bind fun t3 =>
  if (t2 = t3 : Prop) then
   (zthI (zck 12 W1 a0 (ev_ G 123 0 [.ref a0, .int 1] [] W1))
     (fun t5 W4 =>
    (zld false W4 a11 7).bind fun t6 =>
     if (t5 = t6 : Prop) then
      (zthI (zck 12 W4 a0 (ev_ G 123 0 [.ref a0, .int 2] [] W4))
        (fun t8 W7 =>
       zthI (ev_ G 215 0 [.ref a10, .ref a11, zU, zU, zU] [] W7)
         (fun t10 W9 =>
        if (t8 = t10 : Prop) then
          (zthI (zck 12 W9 a0 (ev_ G 89 0 [.ref a0, .int 255] [] W9))
            (fun t12 W11 =>
           zthI (ev_ G 211 0 [.ref a1, .ref a2, .ref a11, .int 255, zU, zU] [] W11)
             (fun t14 W13 =>
            if (t12 = t14 : Prop) then
              (if 256 = 0 then none else
               zthI (zck 12 W13 a0 (ev_ G 89 0 [.ref a0, .int (x12 - x12 / 256 * 256)] [] W13))
                (fun t16 W15 =>
               if 256 = 0 then none else
                zthI (ev_ G 211 0 [.ref a1, .ref a2, .ref a11, .int (x12 - x12 / 256 * 256), zU, zU] [] W15)
                 (fun t18 W17 =>
                if (t16 = t18 : Prop) then
                  (ev_ G 217 97 [.ref a0, .ref a1, .ref a2, .ref a3, .ref a4, .ref a5, .ref a6, .ref a7, .ref a8, .ref a9, .ref a10, .ref a11, .int x12, .int 1, .int 0, zU, zU, zU, zU] [] W17)
                 else
                  ev_ G 217 97 [.ref a0, .ref a1, .ref a2, .ref a3, .ref a4, .ref a5, .ref a6, .ref a7, .ref a8, .ref a9, .ref a10, .ref a11, .int x12, .int 0, .int 0, zU, zU, zU, zU] [] W17)
                 zxe)
                zxe)
             else
              ev_ G 217 97 [.ref a0, .ref a1, .ref a2, .ref a3, .ref a4, .ref a5, .ref a6, .ref a7, .ref a8, .ref a9, .ref a10, .ref a11, .int x12, .int 0, .int 0, zU, zU, zU, zU] [] W13)
             zxe)
            zxe)
         else
          ev_ G 217 97 [.ref a0, .ref a1, .ref a2, .ref a3, .ref a4, .ref a5, .ref a6, .ref a7, .ref a8, .ref a9, .ref a10, .ref a11, .int x12, .int 0, .int 0, zU, zU, zU, zU] [] W9)
         zxe)
        zxe)
     else
      ev_ G 217 97 [.ref a0, .ref a1, .ref a2, .ref a3, .ref a4, .ref a5, .ref a6, .ref a7, .ref a8, .ref a9, .ref a10, .ref a11, .int x12, .int 0, .int 0, zU, zU, zU, zU] [] W4)
     zxe)
  else
   ev_ G 217 97 [.ref a0, .ref a1, .ref a2, .ref a3, .ref a4, .ref a5, .ref a6, .ref a7, .ref a8, .ref a9, .ref a10, .ref a11, .int x12, .int 0, .int 0, zU, zU, zU, zU] [] W1)
  zxe :=
 (zx_st (zh_L_isSo G) [97, 138, 157, 177, 196, 353, 467, 546] 400 0 _ _ _).trans rfl
set_option maxRecDepth 100000 in
theorem q_L_isSo_97 (G : Nat × Nat) (a0 : Nat) (a1 : Nat) (a2 : Nat) (a3 : Nat) (a4 : Nat) (a5 : Nat) (a6 : Nat) (a7 : Nat) (a8 : Nat) (a9 : Nat) (a10 : Nat) (a11 : Nat) (x12 : Int32) (x13 : Int32) (x14 : Int32) (W : zW) : ev_ G 217 97 [.ref a0, .ref a1, .ref a2, .ref a3, .ref a4, .ref a5, .ref a6, .ref a7, .ref a8, .ref a9, .ref a10, .ref a11, .int x12, .int x13, .int x14, zU, zU, zU, zU] [] W =
 (zld false W a11 2).bind fun t1 =>
 if (t1 ≤ x14 : Prop) then
  (ev_ G 217 157 [.ref a0, .ref a1, .ref a2, .ref a3, .ref a4, .ref a5, .ref a6, .ref a7, .ref a8, .ref a9, .ref a10, .ref a11, .int x12, .int x13, .int 0, zU, zU, zU, zU] [] W)
 else
  if x13 = 0 then
   (ev_ G 217 157 [.ref a0, .ref a1, .ref a2, .ref a3, .ref a4, .ref a5, .ref a6, .ref a7, .ref a8, .ref a9, .ref a10, .ref a11, .int x12, .int x13, .int 0, zU, zU, zU, zU] [] W)
  else
   zthI (zck 12 W a0 (ev_ G 85 0 [.ref a0, .int x14, .int (-1), zU] [] W))
    (fun t3 W2 =>
   (zld false W2 a1 x14).bind fun t4 =>
    if (32768 ≤ t4 : Prop) then
     (ev_ G 217 138 [.ref a0, .ref a1, .ref a2, .ref a3, .ref a4, .ref a5, .ref a6, .ref a7, .ref a8, .ref a9, .ref a10, .ref a11, .int x12, .int x13, .int x14, zU, zU, zU, zU] [.int 0, .int t3] W2)
    else
     (zld false W2 a2 (24 + x14)).bind fun t5 =>
     ev_ G 217 138 [.ref a0, .ref a1, .ref a2, .ref a3, .ref a4, .ref a5, .ref a6, .ref a7, .ref a8, .ref a9, .ref a10, .ref a11, .int x12, .int x13, .int x14, zU, zU, zU, zU] [.int t5, .int t3] W2)
    zxe :=
 (zx_st (zh_L_isSo G) [97, 138, 157, 177, 196, 353, 467, 546] 400 97 _ _ _).trans rfl
set_option maxRecDepth 100000 in
theorem q_L_isSo_138 (G : Nat × Nat) (a0 : Nat) (a1 : Nat) (a2 : Nat) (a3 : Nat) (a4 : Nat) (a5 : Nat) (a6 : Nat) (a7 : Nat) (a8 : Nat) (a9 : Nat) (a10 : Nat) (a11 : Nat) (x12 : Int32) (x13 : Int32) (x14 : Int32) (x_0 : Int32) (x_1 : Int32) (W : zW) : ev_ G 217 138 [.ref a0, .ref a1, .ref a2, .ref a3, .ref a4, .ref a5, .ref a6, .ref a7, .ref a8, .ref a9, .ref a10, .ref a11, .int x12, .int x13, .int x14, zU, zU, zU, zU] [.int x_1, .int x_0] W =
 if (x_0 = x_1 : Prop) then
  (ev_ G 217 97 [.ref a0, .ref a1, .ref a2, .ref a3, .ref a4, .ref a5, .ref a6, .ref a7, .ref a8, .ref a9, .ref a10, .ref a11, .int x12, .int 1, .int (x14 + 1), zU, zU, zU, zU] [] W)
 else
  ev_ G 217 97 [.ref a0, .ref a1, .ref a2, .ref a3, .ref a4, .ref a5, .ref a6, .ref a7, .ref a8, .ref a9, .ref a10, .ref a11, .int x12, .int 0, .int (x14 + 1), zU, zU, zU, zU] [] W :=
 (zx_st (zh_L_isSo G) [97, 138, 157, 177, 196, 353, 467, 546] 400 138 _ _ _).trans rfl
set_option maxRecDepth 100000 in
theorem q_L_isSo_157 (G : Nat × Nat) (a0 : Nat) (a1 : Nat) (a2 : Nat) (a3 : Nat) (a4 : Nat) (a5 : Nat) (a6 : Nat) (a7 : Nat) (a8 : Nat) (a9 : Nat) (a10 : Nat) (a11 : Nat) (x12 : Int32) (x13 : Int32) (x14 : Int32) (u15 : Value) (u16 : Value) (u17 : Value) (u18 : Value) (W : zW) : ev_ G 217 157 [.ref a0, .ref a1, .ref a2, .ref a3, .ref a4, .ref a5, .ref a6, .ref a7, .ref a8, .ref a9, .ref a10, .ref a11, .int x12, .int x13, .int x14, u15, u16, u17, u18] [] W =
 (zld false W a11 4).bind fun t1 =>
 if (t1 ≤ x14 : Prop) then
  (ev_ G 217 353 [.ref a0, .ref a1, .ref a2, .ref a3, .ref a4, .ref a5, .ref a6, .ref a7, .ref a8, .ref a9, .ref a10, .ref a11, .int x12, .int x13, .int 0, u15, u16, u17, u18] [] W)
 else
  if x13 = 0 then
   (ev_ G 217 353 [.ref a0, .ref a1, .ref a2, .ref a3, .ref a4, .ref a5, .ref a6, .ref a7, .ref a8, .ref a9, .ref a10, .ref a11, .int x12, .int x13, .int 0, u15, u16, u17, u18] [] W)
  else
   ev_ G 217 177 [.ref a0, .ref a1, .ref a2, .ref a3, .ref a4, .ref a5, .ref a6, .ref a7, .ref a8, .ref a9, .ref a10, .ref a11, .int x12, .int x13, .int x14, .int 0, .int 0, u17, u18] [] W :=
 (zx_st (zh_L_isSo G) [97, 138, 157, 177, 196, 353, 467, 546] 400 157 _ _ _).trans rfl
set_option maxRecDepth 100000 in
theorem q_L_isSo_177 (G : Nat × Nat) (a0 : Nat) (a1 : Nat) (a2 : Nat) (a3 : Nat) (a4 : Nat) (a5 : Nat) (a6 : Nat) (a7 : Nat) (a8 : Nat) (a9 : Nat) (a10 : Nat) (a11 : Nat) (x12 : Int32) (x13 : Int32) (x14 : Int32) (x15 : Int32) (x16 : Int32) (u17 : Value) (u18 : Value) (W : zW) : ev_ G 217 177 [.ref a0, .ref a1, .ref a2, .ref a3, .ref a4, .ref a5, .ref a6, .ref a7, .ref a8, .ref a9, .ref a10, .ref a11, .int x12, .int x13, .int x14, .int x15, .int x16, u17, u18] [] W =
 (zld false W a11 5).bind fun t1 =>
 if ((8 * t1) ≤ x16 : Prop) then
  (zthI (zck 12 W a0 (ev_ G 138 0 [.ref a0, .int x14, .int 0, zU] [] W))
    (fun t3 W2 =>
   (zld false W2 a3 x14).bind fun t4 =>
    if 8 = 0 then none else
    if (t3 = (t4 - t4 / 8 * 8) : Prop) then
     (zthI (zck 12 W2 a0 (ev_ G 138 0 [.ref a0, .int x14, .int 1, zU] [] W2))
       (fun t6 W5 =>
      (zld false W5 a4 x14).bind fun t7 =>
       if (t6 = t7 : Prop) then
        (zthI (zck 12 W5 a0 (ev_ G 138 0 [.ref a0, .int x14, .int 2, zU] [] W5))
          (fun t9 W8 =>
         zthI (ev_ G 213 0 [.ref a3, .ref a5, .ref a6, .int x14, zU] [] W8)
           (fun t11 W10 =>
          if (t9 = t11 : Prop) then
            (zthI (zck 12 W10 a0 (ev_ G 202 0 [.ref a0, .int x14, zU, zU, zU] [] W10))
              (fun t13 W12 =>
             if (t13 = x15 : Prop) then
               (ev_ G 217 157 [.ref a0, .ref a1, .ref a2, .ref a3, .ref a4, .ref a5, .ref a6, .ref a7, .ref a8, .ref a9, .ref a10, .ref a11, .int x12, .int 1, .int (x14 + 1), .int x15, .int x16, u17, u18] [] W12)
              else
               ev_ G 217 157 [.ref a0, .ref a1, .ref a2, .ref a3, .ref a4, .ref a5, .ref a6, .ref a7, .ref a8, .ref a9, .ref a10, .ref a11, .int x12, .int 0, .int (x14 + 1), .int x15, .int x16, u17, u18] [] W12)
              zxe)
           else
            ev_ G 217 157 [.ref a0, .ref a1, .ref a2, .ref a3, .ref a4, .ref a5, .ref a6, .ref a7, .ref a8, .ref a9, .ref a10, .ref a11, .int x12, .int 0, .int (x14 + 1), .int x15, .int x16, u17, u18] [] W10)
           zxe)
          zxe)
       else
        ev_ G 217 157 [.ref a0, .ref a1, .ref a2, .ref a3, .ref a4, .ref a5, .ref a6, .ref a7, .ref a8, .ref a9, .ref a10, .ref a11, .int x12, .int 0, .int (x14 + 1), .int x15, .int x16, u17, u18] [] W5)
       zxe)
    else
     ev_ G 217 157 [.ref a0, .ref a1, .ref a2, .ref a3, .ref a4, .ref a5, .ref a6, .ref a7, .ref a8, .ref a9, .ref a10, .ref a11, .int x12, .int 0, .int (x14 + 1), .int x15, .int x16, u17, u18] [] W2)
    zxe)
 else
  ev_ G 217 196 [.ref a0, .ref a1, .ref a2, .ref a3, .ref a4, .ref a5, .ref a6, .ref a7, .ref a8, .ref a9, .ref a10, .ref a11, .int x12, .int x13, .int x14, .int x15, .int x16, .int 0, .int x16] [] W :=
 (zx_st (zh_L_isSo G) [97, 138, 157, 177, 196, 353, 467, 546] 400 177 _ _ _).trans rfl
set_option maxRecDepth 100000 in
theorem q_L_isSo_196 (G : Nat × Nat) (a0 : Nat) (a1 : Nat) (a2 : Nat) (a3 : Nat) (a4 : Nat) (a5 : Nat) (a6 : Nat) (a7 : Nat) (a8 : Nat) (a9 : Nat) (a10 : Nat) (a11 : Nat) (x12 : Int32) (x13 : Int32) (x14 : Int32) (x15 : Int32) (x16 : Int32) (x17 : Int32) (x18 : Int32) (W : zW) : ev_ G 217 196 [.ref a0, .ref a1, .ref a2, .ref a3, .ref a4, .ref a5, .ref a6, .ref a7, .ref a8, .ref a9, .ref a10, .ref a11, .int x12, .int x13, .int x14, .int x15, .int x16, .int x17, .int x18] [] W =
 if ((x16 + 8) ≤ x18 : Prop) then
  (if x17 = 0 then
    (ev_ G 217 177 [.ref a0, .ref a1, .ref a2, .ref a3, .ref a4, .ref a5, .ref a6, .ref a7, .ref a8, .ref a9, .ref a10, .ref a11, .int x12, .int x13, .int x14, .int (x15 + 0), .int (x16 + 8), .int x17, .int x18] [] W)
   else
    if 8 = 0 then none else
    (zld false W a9 (x16 / 8)).bind fun t1 =>
    if 4 = 0 then none else
    if ((t1 / 4) = 1 : Prop) then
     (ev_ G 217 177 [.ref a0, .ref a1, .ref a2, .ref a3, .ref a4, .ref a5, .ref a6, .ref a7, .ref a8, .ref a9, .ref a10, .ref a11, .int x12, .int x13, .int x14, .int (x15 + 1), .int (x16 + 8), .int x17, .int x18] [] W)
    else
     ev_ G 217 177 [.ref a0, .ref a1, .ref a2, .ref a3, .ref a4, .ref a5, .ref a6, .ref a7, .ref a8, .ref a9, .ref a10, .ref a11, .int x12, .int x13, .int x14, .int (x15 + 0), .int (x16 + 8), .int x17, .int x18] [] W)
 else
  if x17 = 0 then
   ((zld false W a7 x18).bind fun t2 =>
    if 64 = 0 then none else
    if ((t2 - t2 / 64 * 64) = (x14 + 1) : Prop) then
     (ev_ G 217 196 [.ref a0, .ref a1, .ref a2, .ref a3, .ref a4, .ref a5, .ref a6, .ref a7, .ref a8, .ref a9, .ref a10, .ref a11, .int x12, .int x13, .int x14, .int x15, .int x16, .int 1, .int (x18 + 1)] [] W)
    else
     ev_ G 217 196 [.ref a0, .ref a1, .ref a2, .ref a3, .ref a4, .ref a5, .ref a6, .ref a7, .ref a8, .ref a9, .ref a10, .ref a11, .int x12, .int x13, .int x14, .int x15, .int x16, .int 0, .int (x18 + 1)] [] W)
  else
   ev_ G 217 196 [.ref a0, .ref a1, .ref a2, .ref a3, .ref a4, .ref a5, .ref a6, .ref a7, .ref a8, .ref a9, .ref a10, .ref a11, .int x12, .int x13, .int x14, .int x15, .int x16, .int 1, .int (x18 + 1)] [] W :=
 (zx_st (zh_L_isSo G) [97, 138, 157, 177, 196, 353, 467, 546] 400 196 _ _ _).trans rfl
set_option maxRecDepth 100000 in
theorem q_L_isSo_353 (G : Nat × Nat) (a0 : Nat) (a1 : Nat) (a2 : Nat) (a3 : Nat) (a4 : Nat) (a5 : Nat) (a6 : Nat) (a7 : Nat) (a8 : Nat) (a9 : Nat) (a10 : Nat) (a11 : Nat) (x12 : Int32) (x13 : Int32) (x14 : Int32) (u15 : Value) (u16 : Value) (u17 : Value) (u18 : Value) (W : zW) : ev_ G 217 353 [.ref a0, .ref a1, .ref a2, .ref a3, .ref a4, .ref a5, .ref a6, .ref a7, .ref a8, .ref a9, .ref a10, .ref a11, .int x12, .int x13, .int x14, u15, u16, u17, u18] [] W =
 (zld false W a11 5).bind fun t1 =>
 if ((8 * t1) ≤ x14 : Prop) then
  (ev_ G 217 546 [.ref a0, .ref a1, .ref a2, .ref a3, .ref a4, .ref a5, .ref a6, .ref a7, .ref a8, .ref a9, .ref a10, .ref a11, .int x12, .int x13, .int x14, u15, u16, u17, u18] [] W)
 else
  if x13 = 0 then
   (ev_ G 217 546 [.ref a0, .ref a1, .ref a2, .ref a3, .ref a4, .ref a5, .ref a6, .ref a7, .ref a8, .ref a9, .ref a10, .ref a11, .int x12, .int x13, .int x14, u15, u16, u17, u18] [] W)
  else
   (zld false W a7 x14).bind fun t2 =>
   if 64 = 0 then none else
   if 32 = 0 then none else
   if 8 = 0 then none else
   if 8 = 0 then none else
   zthI (zck 12 W a0 (ev_ G 195 0 [.ref a0, .int (x14 / 8), .int (x14 - x14 / 8 * 8), .int 0, zU] [] W))
    (fun t4 W3 =>
   (zld false W3 a7 x14).bind fun t5 =>
    if 64 = 0 then none else
    if (t4 = ((t5 - t5 / 64 * 64) - 1) : Prop) then
     (if 8 = 0 then none else
      if 8 = 0 then none else
      zthI (zck 12 W3 a0 (ev_ G 195 0 [.ref a0, .int (x14 / 8), .int (x14 - x14 / 8 * 8), .int 1, zU] [] W3))
       (fun t7 W6 =>
      (zld false W6 a8 x14).bind fun t8 =>
       if (t7 = t8 : Prop) then
        (if 8 = 0 then none else
         if 8 = 0 then none else
         zthI (zck 12 W6 a0 (ev_ G 195 0 [.ref a0, .int (x14 / 8), .int (x14 - x14 / 8 * 8), .int 2, zU] [] W6))
          (fun t10 W9 =>
         if 4 = 0 then none else
          if 2 = 0 then none else
          if (((((t2 / 64) - (t2 / 64) / 32 * 32) / 4) - (((t2 / 64) - (t2 / 64) / 32 * 32) / 4) / 2 * 2) = 1 : Prop) then
           (if 4 = 0 then none else
            ev_ G 217 467 [.ref a0, .ref a1, .ref a2, .ref a3, .ref a4, .ref a5, .ref a6, .ref a7, .ref a8, .ref a9, .ref a10, .ref a11, .int x12, .int x13, .int x14, .int ((t2 / 64) - (t2 / 64) / 32 * 32), u16, u17, u18] [.int ((((t2 / 64) - (t2 / 64) / 32 * 32) - ((t2 / 64) - (t2 / 64) / 32 * 32) / 4 * 4)), .int t10] W9)
          else
           ev_ G 217 467 [.ref a0, .ref a1, .ref a2, .ref a3, .ref a4, .ref a5, .ref a6, .ref a7, .ref a8, .ref a9, .ref a10, .ref a11, .int x12, .int x13, .int x14, .int ((t2 / 64) - (t2 / 64) / 32 * 32), u16, u17, u18] [.int 0, .int t10] W9)
          zxe)
       else
        ev_ G 217 353 [.ref a0, .ref a1, .ref a2, .ref a3, .ref a4, .ref a5, .ref a6, .ref a7, .ref a8, .ref a9, .ref a10, .ref a11, .int x12, .int 0, .int (x14 + 1), .int ((t2 / 64) - (t2 / 64) / 32 * 32), u16, u17, u18] [] W6)
       zxe)
    else
     ev_ G 217 353 [.ref a0, .ref a1, .ref a2, .ref a3, .ref a4, .ref a5, .ref a6, .ref a7, .ref a8, .ref a9, .ref a10, .ref a11, .int x12, .int 0, .int (x14 + 1), .int ((t2 / 64) - (t2 / 64) / 32 * 32), u16, u17, u18] [] W3)
    zxe :=
 (zx_st (zh_L_isSo G) [97, 138, 157, 177, 196, 353, 467, 546] 400 353 _ _ _).trans rfl
set_option maxRecDepth 100000 in
theorem q_L_isSo_467 (G : Nat × Nat) (a0 : Nat) (a1 : Nat) (a2 : Nat) (a3 : Nat) (a4 : Nat) (a5 : Nat) (a6 : Nat) (a7 : Nat) (a8 : Nat) (a9 : Nat) (a10 : Nat) (a11 : Nat) (x12 : Int32) (x13 : Int32) (x14 : Int32) (x15 : Int32) (u16 : Value) (u17 : Value) (u18 : Value) (x_0 : Int32) (x_1 : Int32) (W : zW) : ev_ G 217 467 [.ref a0, .ref a1, .ref a2, .ref a3, .ref a4, .ref a5, .ref a6, .ref a7, .ref a8, .ref a9, .ref a10, .ref a11, .int x12, .int x13, .int x14, .int x15, u16, u17, u18] [.int x_1, .int x_0] W =
 if (x_0 = x_1 : Prop) then
  (if 8 = 0 then none else
   if 8 = 0 then none else
   zthI (zck 12 W a0 (ev_ G 195 0 [.ref a0, .int (x14 / 8), .int (x14 - x14 / 8 * 8), .int 3, zU] [] W))
    (fun t2 W1 =>
   if 8 = 0 then none else
    if 2 = 0 then none else
    if (t2 = ((x15 / 8) - (x15 / 8) / 2 * 2) : Prop) then
     (if 3 = 0 then none else
      if 0 < ((x14 + x12) - (x14 + x12) / 3 * 3) then
       (ev_ G 217 353 [.ref a0, .ref a1, .ref a2, .ref a3, .ref a4, .ref a5, .ref a6, .ref a7, .ref a8, .ref a9, .ref a10, .ref a11, .int x12, .int 1, .int (x14 + 1), .int x15, u16, u17, u18] [] W1)
      else
       if 8 = 0 then none else
       if 8 = 0 then none else
       zthI (zck 12 W1 a0 (ev_ G 198 0 [.ref a0, .int (x14 / 8), .int (x14 - x14 / 8 * 8), zU, zU] [] W1))
        (fun t4 W3 =>
       (zld false W3 a7 x14).bind fun t5 =>
        if 2048 = 0 then none else
        if (t4 = ((t5 / 2048) - 1) : Prop) then
         (ev_ G 217 353 [.ref a0, .ref a1, .ref a2, .ref a3, .ref a4, .ref a5, .ref a6, .ref a7, .ref a8, .ref a9, .ref a10, .ref a11, .int x12, .int 1, .int (x14 + 1), .int x15, u16, u17, u18] [] W3)
        else
         ev_ G 217 353 [.ref a0, .ref a1, .ref a2, .ref a3, .ref a4, .ref a5, .ref a6, .ref a7, .ref a8, .ref a9, .ref a10, .ref a11, .int x12, .int 0, .int (x14 + 1), .int x15, u16, u17, u18] [] W3)
        zxe)
    else
     ev_ G 217 353 [.ref a0, .ref a1, .ref a2, .ref a3, .ref a4, .ref a5, .ref a6, .ref a7, .ref a8, .ref a9, .ref a10, .ref a11, .int x12, .int 0, .int (x14 + 1), .int x15, u16, u17, u18] [] W1)
    zxe)
 else
  ev_ G 217 353 [.ref a0, .ref a1, .ref a2, .ref a3, .ref a4, .ref a5, .ref a6, .ref a7, .ref a8, .ref a9, .ref a10, .ref a11, .int x12, .int 0, .int (x14 + 1), .int x15, u16, u17, u18] [] W :=
 (zx_st (zh_L_isSo G) [97, 138, 157, 177, 196, 353, 467, 546] 400 467 _ _ _).trans rfl
set_option maxRecDepth 100000 in
theorem q_L_isSo_546 (G : Nat × Nat) (a0 : Nat) (a1 : Nat) (a2 : Nat) (a3 : Nat) (a4 : Nat) (a5 : Nat) (a6 : Nat) (a7 : Nat) (a8 : Nat) (a9 : Nat) (a10 : Nat) (a11 : Nat) (x12 : Int32) (x13 : Int32) (x14 : Int32) (u15 : Value) (u16 : Value) (u17 : Value) (u18 : Value) (W : zW) : ev_ G 217 546 [.ref a0, .ref a1, .ref a2, .ref a3, .ref a4, .ref a5, .ref a6, .ref a7, .ref a8, .ref a9, .ref a10, .ref a11, .int x12, .int x13, .int x14, u15, u16, u17, u18] [] W =
 if x13 = 0 then
  (if (0 : Int32) &&& 1 = 0 then some (.inl (some (.int 0)), W) else none)
 else
  (zld false W a11 2).bind fun t1 =>
  zthI (ev_ G 207 0 [.ref a0, .int 5, .int t1, .int (-1), .int 0, .int 0, .int 0, zU] [] W)
   (fun t3 W2 =>
  if (t3 = (-3000000) : Prop) then
    ((zld false W2 a11 4).bind fun t4 =>
     zthI (ev_ G 207 0 [.ref a0, .int 10, .int t4, .int 0, .int 0, .int 0, .int 0, zU] [] W2)
      (fun t6 W5 =>
     if (t6 = (-3000000) : Prop) then
       ((zld false W5 a11 5).bind fun t7 =>
        zthI (ev_ G 207 0 [.ref a0, .int 21, .int t7, .int 0, .int 0, .int 0, .int 0, zU] [] W5)
         (fun t9 W8 =>
        if (t9 = (-3000000) : Prop) then
          (if (1 : Int32) &&& 1 = 1 then some (.inl (some (.int 1)), W8) else none)
         else
          if (0 : Int32) &&& 1 = 0 then some (.inl (some (.int 0)), W8) else none)
         zxe)
      else
       if (0 : Int32) &&& 1 = 0 then some (.inl (some (.int 0)), W5) else none)
      zxe)
   else
    if (0 : Int32) &&& 1 = 0 then some (.inl (some (.int 0)), W2) else none)
   zxe :=
 (zx_st (zh_L_isSo G) [97, 138, 157, 177, 196, 353, 467, 546] 400 546 _ _ _).trans rfl
set_option maxRecDepth 100000 in
theorem q_L_law_0 (G : Nat × Nat) (a0 : Nat) (W : zW) : ev_ G 205 0 [.ref a0, zU, zU, zU, zU, zU, zU, zU, zU, zU, zU, zU, zU, zU, zU, zU, zU, zU, zU, zU, zU] [] W =
 zthV (ev_ G 10 0 [.ref W.1] [] (znew 12 8 [.null, .null, .null, .null, .null, .null, .int 0, .int 0] W))
  (fun W1 =>
 if zbad 16 then none else
  if zbad 17 then none else
  if zbad 8 then none else
  if zbad 25 then none else
  if zbad 48 then none else
  if zbad 12 then none else
  if zbad 12 then none else
  if zbad 13 then none else
  if zbad 19 then none else
  if zbad 32 then none else
  if zbad 32 then none else
  if zbad 5 then none else
  if zbad 8 then none else
  if zbad 8 then none else
  ev_ G 205 92 [.ref a0, .ref W.1, .ref W1.1, .ref ((znai 0 16 W1).1), .ref ((znai 0 17 (znai 0 16 W1)).1), .ref ((znai 0 8 (znai 0 17 (znai 0 16 W1))).1), .ref ((znai 0 25 (znai 0 8 (znai 0 17 (znai 0 16 W1)))).1), .ref ((znai 0 48 (znai 0 25 (znai 0 8 (znai 0 17 (znai 0 16 W1))))).1), .ref ((znai 0 12 (znai 0 48 (znai 0 25 (znai 0 8 (znai 0 17 (znai 0 16 W1)))))).1), .ref ((znai 0 12 (znai 0 12 (znai 0 48 (znai 0 25 (znai 0 8 (znai 0 17 (znai 0 16 W1))))))).1), .ref ((znai 0 13 (znai 0 12 (znai 0 12 (znai 0 48 (znai 0 25 (znai 0 8 (znai 0 17 (znai 0 16 W1)))))))).1), .ref ((znai 0 19 (znai 0 13 (znai 0 12 (znai 0 12 (znai 0 48 (znai 0 25 (znai 0 8 (znai 0 17 (znai 0 16 W1))))))))).1), .ref ((znai 0 32 (znai 0 19 (znai 0 13 (znai 0 12 (znai 0 12 (znai 0 48 (znai 0 25 (znai 0 8 (znai 0 17 (znai 0 16 W1)))))))))).1), .ref ((znai 0 32 (znai 0 32 (znai 0 19 (znai 0 13 (znai 0 12 (znai 0 12 (znai 0 48 (znai 0 25 (znai 0 8 (znai 0 17 (znai 0 16 W1))))))))))).1), .ref ((znai 0 5 (znai 0 32 (znai 0 32 (znai 0 19 (znai 0 13 (znai 0 12 (znai 0 12 (znai 0 48 (znai 0 25 (znai 0 8 (znai 0 17 (znai 0 16 W1)))))))))))).1), .ref ((znai 0 8 (znai 0 5 (znai 0 32 (znai 0 32 (znai 0 19 (znai 0 13 (znai 0 12 (znai 0 12 (znai 0 48 (znai 0 25 (znai 0 8 (znai 0 17 (znai 0 16 W1))))))))))))).1), .int 0, zU, zU, zU, zU] [] (znai 0 8 (znai 0 8 (znai 0 5 (znai 0 32 (znai 0 32 (znai 0 19 (znai 0 13 (znai 0 12 (znai 0 12 (znai 0 48 (znai 0 25 (znai 0 8 (znai 0 17 (znai 0 16 W1)))))))))))))))
  (fun _ _ => none) :=
 (zx_st (zh_L_law G) [92, 114, 324, 403, 701] 400 0 _ _ _).trans rfl
set_option maxRecDepth 100000 in
theorem q_L_law_92 (G : Nat × Nat) (a0 : Nat) (a1 : Nat) (a2 : Nat) (a3 : Nat) (a4 : Nat) (a5 : Nat) (a6 : Nat) (a7 : Nat) (a8 : Nat) (a9 : Nat) (a10 : Nat) (a11 : Nat) (a12 : Nat) (a13 : Nat) (a14 : Nat) (a15 : Nat) (x16 : Int32) (W : zW) : ev_ G 205 92 [.ref a0, .ref a1, .ref a2, .ref a3, .ref a4, .ref a5, .ref a6, .ref a7, .ref a8, .ref a9, .ref a10, .ref a11, .ref a12, .ref a13, .ref a14, .ref a15, .int x16, zU, zU, zU, zU] [] W =
 if (32 ≤ x16 : Prop) then
  (ev_ G 205 114 [.ref a0, .ref a1, .ref a2, .ref a3, .ref a4, .ref a5, .ref a6, .ref a7, .ref a8, .ref a9, .ref a10, .ref a11, .ref a12, .ref a13, .ref a14, .ref a15, .int 0, zU, zU, zU, zU] [] W)
 else
  (zsto 0 W a12 x16 (-1)).bind fun W1 =>
  ev_ G 205 92 [.ref a0, .ref a1, .ref a2, .ref a3, .ref a4, .ref a5, .ref a6, .ref a7, .ref a8, .ref a9, .ref a10, .ref a11, .ref a12, .ref a13, .ref a14, .ref a15, .int (x16 + 1), zU, zU, zU, zU] [] W1 :=
 (zx_st (zh_L_law G) [92, 114, 324, 403, 701] 400 92 _ _ _).trans rfl
set_option maxRecDepth 100000 in
theorem q_L_law_114 (G : Nat × Nat) (a0 : Nat) (a1 : Nat) (a2 : Nat) (a3 : Nat) (a4 : Nat) (a5 : Nat) (a6 : Nat) (a7 : Nat) (a8 : Nat) (a9 : Nat) (a10 : Nat) (a11 : Nat) (a12 : Nat) (a13 : Nat) (a14 : Nat) (a15 : Nat) (x16 : Int32) (W : zW) : ev_ G 205 114 [.ref a0, .ref a1, .ref a2, .ref a3, .ref a4, .ref a5, .ref a6, .ref a7, .ref a8, .ref a9, .ref a10, .ref a11, .ref a12, .ref a13, .ref a14, .ref a15, .int x16, zU, zU, zU, zU] [] W =
 if (6 ≤ x16 : Prop) then
  ((zsto 0 W a10 0 150).bind fun W1 =>
   (zsto 0 W1 a10 1 200).bind fun W2 =>
   (zsto 0 W2 a10 2 240).bind fun W3 =>
   (zsto 0 W3 a10 3 100).bind fun W4 =>
   (zsto 0 W4 a10 16 255).bind fun W5 =>
   zthI (ev_ G 207 0 [.ref a1, .int 0, .int 8, .int 0, .int 1, .int 1, .int 0, zU] [] W5)
    (fun t7 W6 =>
   if (t7 = (-3000000) : Prop) then
     (zthI (ev_ G 207 0 [.ref a1, .int 6, .int 256, .int 1, .int 0, .int 0, .int 0, zU] [] W6)
       (fun t9 W8 =>
      if (t9 = (-2000000) : Prop) then
        (zthI (ev_ G 207 0 [.ref a1, .int 20, .int 1000, .int 0, .int 0, .int 0, .int 0, zU] [] W8)
          (fun t11 W10 =>
         if (t11 = (-2000000) : Prop) then
           (zthI (ev_ G 207 0 [.ref a1, .int 14, .int 0, .int 0, .int 0, .int 0, .int 0, zU] [] W10)
             (fun t13 W12 =>
            if (t13 = (-3000000) : Prop) then
              (zthI (ev_ G 207 0 [.ref a1, .int 16, .int (-1), .int 0, .int 0, .int 0, .int 0, zU] [] W12)
                (fun t15 W14 =>
               if (t15 = (-3000000) : Prop) then
                 (zthI (ev_ G 207 0 [.ref a1, .int 22, .int 0, .int 0, .int 0, .int 0, .int 0, zU] [] W14)
                   (fun t17 W16 =>
                  if (t17 = (-3000000) : Prop) then
                    (zthI (ev_ G 207 0 [.ref a1, .int 5, .int 0, .int (-1), .int 0, .int 0, .int 0, zU] [] W16)
                      (fun t19 W18 =>
                     if (t19 = (-3000000) : Prop) then
                       (zthI (zck 12 W18 a1 (ev_ G 103 0 [.ref a1, .int 3] [] W18))
                         (fun t21 W20 =>
                        if t21 = 0 then
                          (zthI (zck 12 W20 a1 (ev_ G 111 0 [.ref a1, .int 1] [] W20))
                            (fun t23 W22 =>
                           if t23 = 0 then
                             (ev_ G 205 324 [.ref a0, .ref a1, .ref a2, .ref a3, .ref a4, .ref a5, .ref a6, .ref a7, .ref a8, .ref a9, .ref a10, .ref a11, .ref a12, .ref a13, .ref a14, .ref a15, .int 1, .int 0, zU, zU, zU] [] W22)
                            else
                             ev_ G 205 324 [.ref a0, .ref a1, .ref a2, .ref a3, .ref a4, .ref a5, .ref a6, .ref a7, .ref a8, .ref a9, .ref a10, .ref a11, .ref a12, .ref a13, .ref a14, .ref a15, .int 0, .int 0, zU, zU, zU] [] W22)
                            (fun _ _ => none))
                         else
                          ev_ G 205 324 [.ref a0, .ref a1, .ref a2, .ref a3, .ref a4, .ref a5, .ref a6, .ref a7, .ref a8, .ref a9, .ref a10, .ref a11, .ref a12, .ref a13, .ref a14, .ref a15, .int 0, .int 0, zU, zU, zU] [] W20)
                         (fun _ _ => none))
                      else
                       ev_ G 205 324 [.ref a0, .ref a1, .ref a2, .ref a3, .ref a4, .ref a5, .ref a6, .ref a7, .ref a8, .ref a9, .ref a10, .ref a11, .ref a12, .ref a13, .ref a14, .ref a15, .int 0, .int 0, zU, zU, zU] [] W18)
                      (fun _ _ => none))
                   else
                    ev_ G 205 324 [.ref a0, .ref a1, .ref a2, .ref a3, .ref a4, .ref a5, .ref a6, .ref a7, .ref a8, .ref a9, .ref a10, .ref a11, .ref a12, .ref a13, .ref a14, .ref a15, .int 0, .int 0, zU, zU, zU] [] W16)
                   (fun _ _ => none))
                else
                 ev_ G 205 324 [.ref a0, .ref a1, .ref a2, .ref a3, .ref a4, .ref a5, .ref a6, .ref a7, .ref a8, .ref a9, .ref a10, .ref a11, .ref a12, .ref a13, .ref a14, .ref a15, .int 0, .int 0, zU, zU, zU] [] W14)
                (fun _ _ => none))
             else
              ev_ G 205 324 [.ref a0, .ref a1, .ref a2, .ref a3, .ref a4, .ref a5, .ref a6, .ref a7, .ref a8, .ref a9, .ref a10, .ref a11, .ref a12, .ref a13, .ref a14, .ref a15, .int 0, .int 0, zU, zU, zU] [] W12)
             (fun _ _ => none))
          else
           ev_ G 205 324 [.ref a0, .ref a1, .ref a2, .ref a3, .ref a4, .ref a5, .ref a6, .ref a7, .ref a8, .ref a9, .ref a10, .ref a11, .ref a12, .ref a13, .ref a14, .ref a15, .int 0, .int 0, zU, zU, zU] [] W10)
          (fun _ _ => none))
       else
        ev_ G 205 324 [.ref a0, .ref a1, .ref a2, .ref a3, .ref a4, .ref a5, .ref a6, .ref a7, .ref a8, .ref a9, .ref a10, .ref a11, .ref a12, .ref a13, .ref a14, .ref a15, .int 0, .int 0, zU, zU, zU] [] W8)
       (fun _ _ => none))
    else
     ev_ G 205 324 [.ref a0, .ref a1, .ref a2, .ref a3, .ref a4, .ref a5, .ref a6, .ref a7, .ref a8, .ref a9, .ref a10, .ref a11, .ref a12, .ref a13, .ref a14, .ref a15, .int 0, .int 0, zU, zU, zU] [] W6)
    (fun _ _ => none))
 else
  (zsto 0 W a10 (4 + x16) 180).bind fun W24 =>
  (zsto 0 W24 a10 (10 + x16) 260).bind fun W25 =>
  ev_ G 205 114 [.ref a0, .ref a1, .ref a2, .ref a3, .ref a4, .ref a5, .ref a6, .ref a7, .ref a8, .ref a9, .ref a10, .ref a11, .ref a12, .ref a13, .ref a14, .ref a15, .int (x16 + 1), zU, zU, zU, zU] [] W25 :=
 (zx_st (zh_L_law G) [92, 114, 324, 403, 701] 400 114 _ _ _).trans rfl
set_option maxRecDepth 100000 in
theorem q_L_law_324 (G : Nat × Nat) (a0 : Nat) (a1 : Nat) (a2 : Nat) (a3 : Nat) (a4 : Nat) (a5 : Nat) (a6 : Nat) (a7 : Nat) (a8 : Nat) (a9 : Nat) (a10 : Nat) (a11 : Nat) (a12 : Nat) (a13 : Nat) (a14 : Nat) (a15 : Nat) (x16 : Int32) (x17 : Int32) (u18 : Value) (u19 : Value) (u20 : Value) (W : zW) : ev_ G 205 324 [.ref a0, .ref a1, .ref a2, .ref a3, .ref a4, .ref a5, .ref a6, .ref a7, .ref a8, .ref a9, .ref a10, .ref a11, .ref a12, .ref a13, .ref a14, .ref a15, .int x16, .int x17, u18, u19, u20] [] W =
 if (64 ≤ x17 : Prop) then
  (if x16 &&& 1 = x16 then some (.inl (some (.int x16)), W) else none)
 else
  if x16 = 0 then
   (if x16 &&& 1 = x16 then some (.inl (some (.int x16)), W) else none)
  else
   if (5 ≤ x17 : Prop) then
    (if (8 ≤ x17 : Prop) then
      (if (10 ≤ x17 : Prop) then
        (if (11 ≤ x17 : Prop) then
          (if (12 ≤ x17 : Prop) then
            (zthI (ev_ G 206 0 [.ref a0, .int (3 * x17), .int 48, zU] [] W)
              (fun t2 W1 =>
             ev_ G 205 403 [.ref a0, .ref a1, .ref a2, .ref a3, .ref a4, .ref a5, .ref a6, .ref a7, .ref a8, .ref a9, .ref a10, .ref a11, .ref a12, .ref a13, .ref a14, .ref a15, .int x16, .int x17, u18, u19, u20] [.int t2] W1)
              (fun _ _ => none))
           else
            ev_ G 205 403 [.ref a0, .ref a1, .ref a2, .ref a3, .ref a4, .ref a5, .ref a6, .ref a7, .ref a8, .ref a9, .ref a10, .ref a11, .ref a12, .ref a13, .ref a14, .ref a15, .int x16, .int x17, u18, u19, u20] [.int 15] W)
         else
          ev_ G 205 403 [.ref a0, .ref a1, .ref a2, .ref a3, .ref a4, .ref a5, .ref a6, .ref a7, .ref a8, .ref a9, .ref a10, .ref a11, .ref a12, .ref a13, .ref a14, .ref a15, .int x16, .int x17, u18, u19, u20] [.int 11] W)
       else
        ev_ G 205 403 [.ref a0, .ref a1, .ref a2, .ref a3, .ref a4, .ref a5, .ref a6, .ref a7, .ref a8, .ref a9, .ref a10, .ref a11, .ref a12, .ref a13, .ref a14, .ref a15, .int x16, .int x17, u18, u19, u20] [.int 9] W)
     else
      ev_ G 205 403 [.ref a0, .ref a1, .ref a2, .ref a3, .ref a4, .ref a5, .ref a6, .ref a7, .ref a8, .ref a9, .ref a10, .ref a11, .ref a12, .ref a13, .ref a14, .ref a15, .int x16, .int x17, u18, u19, u20] [.int 3] W)
   else
    ev_ G 205 403 [.ref a0, .ref a1, .ref a2, .ref a3, .ref a4, .ref a5, .ref a6, .ref a7, .ref a8, .ref a9, .ref a10, .ref a11, .ref a12, .ref a13, .ref a14, .ref a15, .int x16, .int x17, u18, u19, u20] [.int 0] W :=
 (zx_st (zh_L_law G) [92, 114, 324, 403, 701] 400 324 _ _ _).trans rfl
set_option maxRecDepth 100000 in
theorem q_L_law_403 (G : Nat × Nat) (a0 : Nat) (a1 : Nat) (a2 : Nat) (a3 : Nat) (a4 : Nat) (a5 : Nat) (a6 : Nat) (a7 : Nat) (a8 : Nat) (a9 : Nat) (a10 : Nat) (a11 : Nat) (a12 : Nat) (a13 : Nat) (a14 : Nat) (a15 : Nat) (x16 : Int32) (x17 : Int32) (u18 : Value) (u19 : Value) (u20 : Value) (x_0 : Int32) (W : zW) : ev_ G 205 403 [.ref a0, .ref a1, .ref a2, .ref a3, .ref a4, .ref a5, .ref a6, .ref a7, .ref a8, .ref a9, .ref a10, .ref a11, .ref a12, .ref a13, .ref a14, .ref a15, .int x16, .int x17, u18, u19, u20] [.int x_0] W =
 zthI (ev_ G 206 0 [.ref a0, .int ((3 * x17) + 1), .int 60000, zU] [] W)
  (fun t2 W1 =>
 zthI (ev_ G 206 0 [.ref a0, .int ((3 * x17) + 2), .int 60000, zU] [] W1)
   (fun t4 W3 =>
  if (9 ≤ x_0 : Prop) then
    (if (15 ≤ x_0 : Prop) then
      (if (42 ≤ x_0 : Prop) then
        (if (44 ≤ x_0 : Prop) then
          (if (x_0 = 44 : Prop) then
            (zthI (ev_ G 222 0 [.ref a1, .ref a10, .ref a15, .int 1, .int t2, .int t4, zU, zU, zU, zU, zU, zU] [] W3)
              (fun t6 W5 =>
             ev_ G 205 701 [.ref a0, .ref a1, .ref a2, .ref a3, .ref a4, .ref a5, .ref a6, .ref a7, .ref a8, .ref a9, .ref a10, .ref a11, .ref a12, .ref a13, .ref a14, .ref a15, .int t6, .int x17, .int x_0, .int t2, .int t4] [] W5)
              (fun _ _ => none))
           else
            zthI (ev_ G 222 0 [.ref a1, .ref a10, .ref a15, .int 2, .int t2, .int t4, zU, zU, zU, zU, zU, zU] [] W3)
             (fun t8 W7 =>
            ev_ G 205 701 [.ref a0, .ref a1, .ref a2, .ref a3, .ref a4, .ref a5, .ref a6, .ref a7, .ref a8, .ref a9, .ref a10, .ref a11, .ref a12, .ref a13, .ref a14, .ref a15, .int t8, .int x17, .int x_0, .int t2, .int t4] [] W7)
             (fun _ _ => none))
         else
          zthI (ev_ G 222 0 [.ref a1, .ref a10, .ref a15, .int 0, .int t2, .int t4, zU, zU, zU, zU, zU, zU] [] W3)
           (fun t10 W9 =>
          ev_ G 205 701 [.ref a0, .ref a1, .ref a2, .ref a3, .ref a4, .ref a5, .ref a6, .ref a7, .ref a8, .ref a9, .ref a10, .ref a11, .ref a12, .ref a13, .ref a14, .ref a15, .int t10, .int x17, .int x_0, .int t2, .int t4] [] W9)
           (fun _ _ => none))
       else
        if (x_0 = 15 : Prop) then
         (zthI (ev_ G 221 0 [.ref a1, .ref a7, .ref a8, .ref a9, .ref a10, .ref a11, .ref a12, .ref a13, .ref a15, .int 0, .int t2, .int t4, zU, zU, zU, zU, zU, zU, zU, zU, zU, zU] [] W3)
           (fun t12 W11 =>
          ev_ G 205 701 [.ref a0, .ref a1, .ref a2, .ref a3, .ref a4, .ref a5, .ref a6, .ref a7, .ref a8, .ref a9, .ref a10, .ref a11, .ref a12, .ref a13, .ref a14, .ref a15, .int t12, .int x17, .int x_0, .int t2, .int t4] [] W11)
           (fun _ _ => none))
        else
         if (25 ≤ x_0 : Prop) then
          (if (28 ≤ x_0 : Prop) then
            (if (31 ≤ x_0 : Prop) then
              (if (34 ≤ x_0 : Prop) then
                (if (38 ≤ x_0 : Prop) then
                  (zthI (ev_ G 221 0 [.ref a1, .ref a7, .ref a8, .ref a9, .ref a10, .ref a11, .ref a12, .ref a13, .ref a15, .int 6, .int t2, .int t4, zU, zU, zU, zU, zU, zU, zU, zU, zU, zU] [] W3)
                    (fun t14 W13 =>
                   ev_ G 205 701 [.ref a0, .ref a1, .ref a2, .ref a3, .ref a4, .ref a5, .ref a6, .ref a7, .ref a8, .ref a9, .ref a10, .ref a11, .ref a12, .ref a13, .ref a14, .ref a15, .int t14, .int x17, .int x_0, .int t2, .int t4] [] W13)
                    (fun _ _ => none))
                 else
                  zthI (ev_ G 221 0 [.ref a1, .ref a7, .ref a8, .ref a9, .ref a10, .ref a11, .ref a12, .ref a13, .ref a15, .int 5, .int t2, .int t4, zU, zU, zU, zU, zU, zU, zU, zU, zU, zU] [] W3)
                   (fun t16 W15 =>
                  ev_ G 205 701 [.ref a0, .ref a1, .ref a2, .ref a3, .ref a4, .ref a5, .ref a6, .ref a7, .ref a8, .ref a9, .ref a10, .ref a11, .ref a12, .ref a13, .ref a14, .ref a15, .int t16, .int x17, .int x_0, .int t2, .int t4] [] W15)
                   (fun _ _ => none))
               else
                zthI (ev_ G 221 0 [.ref a1, .ref a7, .ref a8, .ref a9, .ref a10, .ref a11, .ref a12, .ref a13, .ref a15, .int 4, .int t2, .int t4, zU, zU, zU, zU, zU, zU, zU, zU, zU, zU] [] W3)
                 (fun t18 W17 =>
                ev_ G 205 701 [.ref a0, .ref a1, .ref a2, .ref a3, .ref a4, .ref a5, .ref a6, .ref a7, .ref a8, .ref a9, .ref a10, .ref a11, .ref a12, .ref a13, .ref a14, .ref a15, .int t18, .int x17, .int x_0, .int t2, .int t4] [] W17)
                 (fun _ _ => none))
             else
              zthI (ev_ G 221 0 [.ref a1, .ref a7, .ref a8, .ref a9, .ref a10, .ref a11, .ref a12, .ref a13, .ref a15, .int 3, .int t2, .int t4, zU, zU, zU, zU, zU, zU, zU, zU, zU, zU] [] W3)
               (fun t20 W19 =>
              ev_ G 205 701 [.ref a0, .ref a1, .ref a2, .ref a3, .ref a4, .ref a5, .ref a6, .ref a7, .ref a8, .ref a9, .ref a10, .ref a11, .ref a12, .ref a13, .ref a14, .ref a15, .int t20, .int x17, .int x_0, .int t2, .int t4] [] W19)
               (fun _ _ => none))
           else
            zthI (ev_ G 221 0 [.ref a1, .ref a7, .ref a8, .ref a9, .ref a10, .ref a11, .ref a12, .ref a13, .ref a15, .int 2, .int t2, .int t4, zU, zU, zU, zU, zU, zU, zU, zU, zU, zU] [] W3)
             (fun t22 W21 =>
            ev_ G 205 701 [.ref a0, .ref a1, .ref a2, .ref a3, .ref a4, .ref a5, .ref a6, .ref a7, .ref a8, .ref a9, .ref a10, .ref a11, .ref a12, .ref a13, .ref a14, .ref a15, .int t22, .int x17, .int x_0, .int t2, .int t4] [] W21)
             (fun _ _ => none))
         else
          zthI (ev_ G 221 0 [.ref a1, .ref a7, .ref a8, .ref a9, .ref a10, .ref a11, .ref a12, .ref a13, .ref a15, .int 1, .int t2, .int t4, zU, zU, zU, zU, zU, zU, zU, zU, zU, zU] [] W3)
           (fun t24 W23 =>
          ev_ G 205 701 [.ref a0, .ref a1, .ref a2, .ref a3, .ref a4, .ref a5, .ref a6, .ref a7, .ref a8, .ref a9, .ref a10, .ref a11, .ref a12, .ref a13, .ref a14, .ref a15, .int t24, .int x17, .int x_0, .int t2, .int t4] [] W23)
           (fun _ _ => none))
     else
      if (x_0 = 9 : Prop) then
       (zthI (ev_ G 219 0 [.ref a1, .ref a7, .ref a8, .ref a9, .ref a10, .ref a14, .ref a15, .int 0, .int t2, .int t4, zU, zU, zU, zU, zU] [] W3)
         (fun t26 W25 =>
        ev_ G 205 701 [.ref a0, .ref a1, .ref a2, .ref a3, .ref a4, .ref a5, .ref a6, .ref a7, .ref a8, .ref a9, .ref a10, .ref a11, .ref a12, .ref a13, .ref a14, .ref a15, .int t26, .int x17, .int x_0, .int t2, .int t4] [] W25)
         (fun _ _ => none))
      else
       if (13 ≤ x_0 : Prop) then
        (zthI (ev_ G 219 0 [.ref a1, .ref a7, .ref a8, .ref a9, .ref a10, .ref a14, .ref a15, .int 2, .int t2, .int t4, zU, zU, zU, zU, zU] [] W3)
          (fun t28 W27 =>
         ev_ G 205 701 [.ref a0, .ref a1, .ref a2, .ref a3, .ref a4, .ref a5, .ref a6, .ref a7, .ref a8, .ref a9, .ref a10, .ref a11, .ref a12, .ref a13, .ref a14, .ref a15, .int t28, .int x17, .int x_0, .int t2, .int t4] [] W27)
          (fun _ _ => none))
       else
        zthI (ev_ G 219 0 [.ref a1, .ref a7, .ref a8, .ref a9, .ref a10, .ref a14, .ref a15, .int 1, .int t2, .int t4, zU, zU, zU, zU, zU] [] W3)
         (fun t30 W29 =>
        ev_ G 205 701 [.ref a0, .ref a1, .ref a2, .ref a3, .ref a4, .ref a5, .ref a6, .ref a7, .ref a8, .ref a9, .ref a10, .ref a11, .ref a12, .ref a13, .ref a14, .ref a15, .int t30, .int x17, .int x_0, .int t2, .int t4] [] W29)
         (fun _ _ => none))
   else
    if (3 ≤ x_0 : Prop) then
     (if (x_0 = 3 : Prop) then
       (zthI (ev_ G 218 0 [.ref a1, .ref a2, .ref a3, .ref a4, .ref a5, .ref a6, .ref a15, .int 1, .int t2, .int t4, zU, zU, zU, zU, zU, zU, zU, zU, zU, zU, zU, zU, zU, zU] [] W3)
         (fun t32 W31 =>
        ev_ G 205 701 [.ref a0, .ref a1, .ref a2, .ref a3, .ref a4, .ref a5, .ref a6, .ref a7, .ref a8, .ref a9, .ref a10, .ref a11, .ref a12, .ref a13, .ref a14, .ref a15, .int t32, .int x17, .int x_0, .int t2, .int t4] [] W31)
         (fun _ _ => none))
      else
       if (x_0 = 4 : Prop) then
        (zthI (ev_ G 218 0 [.ref a1, .ref a2, .ref a3, .ref a4, .ref a5, .ref a6, .ref a15, .int 2, .int t2, .int t4, zU, zU, zU, zU, zU, zU, zU, zU, zU, zU, zU, zU, zU, zU] [] W3)
          (fun t34 W33 =>
         ev_ G 205 701 [.ref a0, .ref a1, .ref a2, .ref a3, .ref a4, .ref a5, .ref a6, .ref a7, .ref a8, .ref a9, .ref a10, .ref a11, .ref a12, .ref a13, .ref a14, .ref a15, .int t34, .int x17, .int x_0, .int t2, .int t4] [] W33)
          (fun _ _ => none))
       else
        if (8 ≤ x_0 : Prop) then
         (zthI (ev_ G 218 0 [.ref a1, .ref a2, .ref a3, .ref a4, .ref a5, .ref a6, .ref a15, .int 4, .int t2, .int t4, zU, zU, zU, zU, zU, zU, zU, zU, zU, zU, zU, zU, zU, zU] [] W3)
           (fun t36 W35 =>
          ev_ G 205 701 [.ref a0, .ref a1, .ref a2, .ref a3, .ref a4, .ref a5, .ref a6, .ref a7, .ref a8, .ref a9, .ref a10, .ref a11, .ref a12, .ref a13, .ref a14, .ref a15, .int t36, .int x17, .int x_0, .int t2, .int t4] [] W35)
           (fun _ _ => none))
        else
         zthI (ev_ G 218 0 [.ref a1, .ref a2, .ref a3, .ref a4, .ref a5, .ref a6, .ref a15, .int 3, .int t2, .int t4, zU, zU, zU, zU, zU, zU, zU, zU, zU, zU, zU, zU, zU, zU] [] W3)
          (fun t38 W37 =>
         ev_ G 205 701 [.ref a0, .ref a1, .ref a2, .ref a3, .ref a4, .ref a5, .ref a6, .ref a7, .ref a8, .ref a9, .ref a10, .ref a11, .ref a12, .ref a13, .ref a14, .ref a15, .int t38, .int x17, .int x_0, .int t2, .int t4] [] W37)
          (fun _ _ => none))
    else
     zthI (ev_ G 218 0 [.ref a1, .ref a2, .ref a3, .ref a4, .ref a5, .ref a6, .ref a15, .int 0, .int t2, .int t4, zU, zU, zU, zU, zU, zU, zU, zU, zU, zU, zU, zU, zU, zU] [] W3)
      (fun t40 W39 =>
     ev_ G 205 701 [.ref a0, .ref a1, .ref a2, .ref a3, .ref a4, .ref a5, .ref a6, .ref a7, .ref a8, .ref a9, .ref a10, .ref a11, .ref a12, .ref a13, .ref a14, .ref a15, .int t40, .int x17, .int x_0, .int t2, .int t4] [] W39)
      (fun _ _ => none))
   (fun _ _ => none))
  (fun _ _ => none) :=
 (zx_st (zh_L_law G) [92, 114, 324, 403, 701] 400 403 _ _ _).trans rfl
set_option maxRecDepth 100000 in
theorem q_L_law_701 (G : Nat × Nat) (a0 : Nat) (a1 : Nat) (a2 : Nat) (a3 : Nat) (a4 : Nat) (a5 : Nat) (a6 : Nat) (a7 : Nat) (a8 : Nat) (a9 : Nat) (a10 : Nat) (a11 : Nat) (a12 : Nat) (a13 : Nat) (a14 : Nat) (a15 : Nat) (x16 : Int32) (x17 : Int32) (x18 : Int32) (x19 : Int32) (x20 : Int32) (W : zW) : ev_ G 205 701 [.ref a0, .ref a1, .ref a2, .ref a3, .ref a4, .ref a5, .ref a6, .ref a7, .ref a8, .ref a9, .ref a10, .ref a11, .ref a12, .ref a13, .ref a14, .ref a15, .int x16, .int x17, .int x18, .int x19, .int x20] [] W =
 if x16 = 0 then
  (ev_ G 205 324 [.ref a0, .ref a1, .ref a2, .ref a3, .ref a4, .ref a5, .ref a6, .ref a7, .ref a8, .ref a9, .ref a10, .ref a11, .ref a12, .ref a13, .ref a14, .ref a15, .int 0, .int (x17 + 1), .int x18, .int x19, .int x20] [] W)
 else
  zthI (ev_ G 217 0 [.ref a1, .ref a5, .ref a6, .ref a7, .ref a8, .ref a9, .ref a10, .ref a11, .ref a12, .ref a13, .ref a14, .ref a15, .int x19, zU, zU, zU, zU, zU, zU] [] W)
   (fun t2 W1 =>
  if t2 = 0 then
    (ev_ G 205 324 [.ref a0, .ref a1, .ref a2, .ref a3, .ref a4, .ref a5, .ref a6, .ref a7, .ref a8, .ref a9, .ref a10, .ref a11, .ref a12, .ref a13, .ref a14, .ref a15, .int 0, .int (x17 + 1), .int x18, .int x19, .int x20] [] W1)
   else
    ev_ G 205 324 [.ref a0, .ref a1, .ref a2, .ref a3, .ref a4, .ref a5, .ref a6, .ref a7, .ref a8, .ref a9, .ref a10, .ref a11, .ref a12, .ref a13, .ref a14, .ref a15, .int 1, .int (x17 + 1), .int x18, .int x19, .int x20] [] W1)
   (fun _ _ => none) :=
 (zx_st (zh_L_law G) [92, 114, 324, 403, 701] 400 701 _ _ _).trans rfl
