/-! SOUNDNESS, 8: all runs of the abstract machine are the program's -/
def zTr (l : Launch) (D : va_G) (cA : Nat → ClassId) (zb : Nat) (G : Nat × Nat) (o : Option zI) (S : zSem) (pc : Nat) : Prop := ∀ i, o = some i → zOK l D cA zb G (zPd l D cA zb G) i S pc
section ZJ
variable {l : Launch} {D : va_G} {cA : Nat → ClassId} {zb : Nat} {G : Nat × Nat} {pc : Nat}
theorem so_l {b : Bool} {i : zI} {S : zSem} (h : zOK l D cA zb G (zPd l D cA zb G) i S pc) : zTr l D cA zb G (bif b then some i else none) (bif b then S else s_no) pc := by
  intro j hj
  cases b with
  | true => cases hj; exact h
  | false => cases hj
theorem so_d {b : Bool} {o1 o2 : Option zI} {S1 S2 : zSem} (h1 : zTr l D cA zb G o1 S1 pc) (h2 : zTr l D cA zb G o2 S2 pc) : zTr l D cA zb G (bif b then o1 else o2) (bif b then S1 else S2) pc := by
  cases b
  · exact h2
  · exact h1
set_option maxRecDepth 20000 in
theorem so_tree (y : Nat) : zTr l D cA zb G (bif Nat.ble 103 y then
 (bif Nat.ble 165 y then
 (bif Nat.ble 205 y then
 (bif Nat.ble 214 y then
 (bif Nat.ble 218 y then
 (bif Nat.ble 220 y then
 (bif Nat.ble 221 y then
 (bif Nat.ble 222 y then
 (bif Nat.beq y 222 then some zi_L_isTold else none)
 else (bif Nat.beq y 221 then some zi_L_isBoard else none))
 else (bif Nat.beq y 220 then some zi_L_soldered else none))
 else (bif Nat.ble 219 y then
 (bif Nat.beq y 219 then some zi_L_isReel else none)
 else (bif Nat.beq y 218 then some zi_L_isHarness else none)))
 else (bif Nat.ble 216 y then
 (bif Nat.ble 217 y then
 (bif Nat.beq y 217 then some zi_L_isSo else none)
 else (bif Nat.beq y 216 then some zi_L_faults else none))
 else (bif Nat.ble 215 y then
 (bif Nat.beq y 215 then some zi_L_window else none)
 else (bif Nat.beq y 214 then some zi_L_gives else none))))
 else (bif Nat.ble 209 y then
 (bif Nat.ble 211 y then
 (bif Nat.ble 212 y then
 (bif Nat.ble 213 y then
 (bif Nat.beq y 213 then some zi_L_runs else none)
 else (bif Nat.beq y 212 then some zi_L_wrong else none))
 else (bif Nat.beq y 211 then some zi_L_weight else none))
 else (bif Nat.ble 210 y then
 (bif Nat.beq y 210 then some zi_L_way else none)
 else (bif Nat.beq y 209 then some zi_L_flawed else none)))
 else (bif Nat.ble 207 y then
 (bif Nat.ble 208 y then
 (bif Nat.beq y 208 then some zi_L_limited else none)
 else (bif Nat.beq y 207 then some zi_L_does else none))
 else (bif Nat.ble 206 y then
 (bif Nat.beq y 206 then some zi_L_part else none)
 else (bif Nat.beq y 205 then some zi_L_law else none)))))
 else (bif Nat.ble 181 y then
 (bif Nat.ble 192 y then
 (bif Nat.ble 198 y then
 (bif Nat.ble 201 y then
 (bif Nat.ble 202 y then
 (bif Nat.beq y 202 then some zi_X11_recall else none)
 else (bif Nat.beq y 201 then some zi_X0_hasPartOf else none))
 else (bif Nat.beq y 198 then some zi_X11_jointAnew else none))
 else (bif Nat.ble 195 y then
 (bif Nat.beq y 195 then some zi_X11_ofSlot else none)
 else (bif Nat.beq y 192 then some zi_X11_pass else none)))
 else (bif Nat.ble 186 y then
 (bif Nat.ble 189 y then
 (bif Nat.beq y 189 then some zi_X11_ship else none)
 else (bif Nat.beq y 186 then some zi_X11_repair else none))
 else (bif Nat.ble 185 y then
 (bif Nat.beq y 185 then some zi_X9_mend else none)
 else (bif Nat.beq y 181 then some zi_X11_test else none))))
 else (bif Nat.ble 175 y then
 (bif Nat.ble 179 y then
 (bif Nat.ble 180 y then
 (bif Nat.beq y 180 then some zi_X0_faultsFound else none)
 else (bif Nat.beq y 179 then some zi_X0_findFaults else none))
 else (bif Nat.ble 176 y then
 (bif Nat.beq y 176 then some zi_X11_cover else none)
 else (bif Nat.beq y 175 then some zi_J6_bitCount_0f7a4 else none)))
 else (bif Nat.ble 167 y then
 (bif Nat.ble 172 y then
 (bif Nat.beq y 172 then some zi_X11_flaw else none)
 else (bif Nat.beq y 167 then some zi_X11_solder else none))
 else (bif Nat.ble 166 y then
 (bif Nat.beq y 166 then some zi_X0_goThrough else none)
 else (bif Nat.beq y 165 then some zi_X9_join else none))))))
 else (bif Nat.ble 133 y then
 (bif Nat.ble 149 y then
 (bif Nat.ble 160 y then
 (bif Nat.ble 162 y then
 (bif Nat.ble 163 y then
 (bif Nat.ble 164 y then
 (bif Nat.beq y 164 then some zi_X9_jointFor else none)
 else (bif Nat.beq y 163 then some zi_X0_peak else none))
 else (bif Nat.beq y 162 then some zi_X6_peakOf else none))
 else (bif Nat.ble 161 y then
 (bif Nat.beq y 161 then some zi_X0_mass else none)
 else (bif Nat.beq y 160 then some zi_X8_copyFrom else none)))
 else (bif Nat.ble 151 y then
 (bif Nat.ble 157 y then
 (bif Nat.beq y 157 then some zi_X11_limits else none)
 else (bif Nat.beq y 151 then some zi_X11_place else none))
 else (bif Nat.ble 150 y then
 (bif Nat.beq y 150 then some zi_X9_fill else none)
 else (bif Nat.beq y 149 then some zi_X7_gives else none))))
 else (bif Nat.ble 143 y then
 (bif Nat.ble 147 y then
 (bif Nat.ble 148 y then
 (bif Nat.beq y 148 then some zi_X9_hasPart else none)
 else (bif Nat.beq y 147 then some zi_X0_slotAt else none))
 else (bif Nat.ble 146 y then
 (bif Nat.beq y 146 then some zi_X11_boardAt else none)
 else (bif Nat.beq y 143 then some zi_X11_board else none)))
 else (bif Nat.ble 141 y then
 (bif Nat.ble 142 y then
 (bif Nat.beq y 142 then some zi_X0_init else none)
 else (bif Nat.beq y 141 then some zi_X9_init else none))
 else (bif Nat.ble 138 y then
 (bif Nat.beq y 138 then some zi_X11_ofReel else none)
 else (bif Nat.beq y 133 then some zi_X11_open else none)))))
 else (bif Nat.ble 117 y then
 (bif Nat.ble 126 y then
 (bif Nat.ble 130 y then
 (bif Nat.ble 131 y then
 (bif Nat.ble 132 y then
 (bif Nat.beq y 132 then some zi_X7_clockAt else none)
 else (bif Nat.beq y 131 then some zi_X7_beginClock else none))
 else (bif Nat.beq y 130 then some zi_X11_reelAt else none))
 else (bif Nat.ble 127 y then
 (bif Nat.beq y 127 then some zi_X11_reel else none)
 else (bif Nat.beq y 126 then some zi_X7_init else none)))
 else (bif Nat.ble 119 y then
 (bif Nat.ble 123 y then
 (bif Nat.beq y 123 then some zi_X11_crimps else none)
 else (bif Nat.beq y 119 then some zi_X11_crimp else none))
 else (bif Nat.ble 118 y then
 (bif Nat.beq y 118 then some zi_X3_judge else none)
 else (bif Nat.beq y 117 then some zi_J9_abs_0f7a4 else none))))
 else (bif Nat.ble 111 y then
 (bif Nat.ble 115 y then
 (bif Nat.ble 116 y then
 (bif Nat.beq y 116 then some zi_X3_window else none)
 else (bif Nat.beq y 115 then some zi_X11_divideDown else none))
 else (bif Nat.ble 114 y then
 (bif Nat.beq y 114 then some zi_J9_floorDiv_7cf53 else none)
 else (bif Nat.beq y 111 then some zi_X11_leastAnew else none)))
 else (bif Nat.ble 109 y then
 (bif Nat.ble 110 y then
 (bif Nat.beq y 110 then some zi_X5_leastByTable else none)
 else (bif Nat.beq y 109 then some zi_X5_addFamily else none))
 else (bif Nat.ble 108 y then
 (bif Nat.beq y 108 then some zi_X5_leastWithOneMore else none)
 else (bif Nat.beq y 103 then some zi_X11_least else none)))))))
 else (bif Nat.ble 43 y then
 (bif Nat.ble 64 y then
 (bif Nat.ble 85 y then
 (bif Nat.ble 95 y then
 (bif Nat.ble 99 y then
 (bif Nat.ble 100 y then
 (bif Nat.ble 102 y then
 (bif Nat.beq y 102 then some zi_X5_leastByChoice else none)
 else (bif Nat.beq y 100 then some zi_X5_weighSets else none))
 else (bif Nat.beq y 99 then some zi_X5_weightAsOne else none))
 else (bif Nat.ble 98 y then
 (bif Nat.beq y 98 then some zi_X5_allOrders else none)
 else (bif Nat.beq y 95 then some zi_X11_order else none)))
 else (bif Nat.ble 89 y then
 (bif Nat.ble 94 y then
 (bif Nat.beq y 94 then some zi_X5_add else none)
 else (bif Nat.beq y 89 then some zi_X11_weight else none))
 else (bif Nat.ble 88 y then
 (bif Nat.beq y 88 then some zi_X4_weightOf else none)
 else (bif Nat.beq y 85 then some zi_X11_ofWire else none))))
 else (bif Nat.ble 76 y then
 (bif Nat.ble 78 y then
 (bif Nat.ble 79 y then
 (bif Nat.ble 84 y then
 (bif Nat.beq y 84 then some zi_X10_bundleAt else none)
 else (bif Nat.beq y 79 then some zi_X11_pull else none))
 else (bif Nat.beq y 78 then some zi_X10_takeOut else none))
 else (bif Nat.ble 77 y then
 (bif Nat.beq y 77 then some zi_X2_release else none)
 else (bif Nat.beq y 76 then some zi_X11_wireAt else none)))
 else (bif Nat.ble 66 y then
 (bif Nat.ble 67 y then
 (bif Nat.beq y 67 then some zi_X11_wire else none)
 else (bif Nat.beq y 66 then some zi_X4_addWire else none))
 else (bif Nat.ble 65 y then
 (bif Nat.beq y 65 then some zi_X4_layAlong else none)
 else (bif Nat.beq y 64 then some zi_X10_goBy else none)))))
 else (bif Nat.ble 55 y then
 (bif Nat.ble 59 y then
 (bif Nat.ble 61 y then
 (bif Nat.ble 62 y then
 (bif Nat.ble 63 y then
 (bif Nat.beq y 63 then some zi_X4_lowestOnward else none)
 else (bif Nat.beq y 62 then some zi_X10_putIn else none))
 else (bif Nat.beq y 61 then some zi_X2_take else none))
 else (bif Nat.ble 60 y then
 (bif Nat.beq y 60 then some zi_X10_init else none)
 else (bif Nat.beq y 59 then some zi_X4_hasWay else none)))
 else (bif Nat.ble 57 y then
 (bif Nat.ble 58 y then
 (bif Nat.beq y 58 then some zi_X4_findCosts else none)
 else (bif Nat.beq y 57 then some zi_X4_lowerCost else none))
 else (bif Nat.ble 56 y then
 (bif Nat.beq y 56 then some zi_X1_across else none)
 else (bif Nat.beq y 55 then some zi_X1_cost else none))))
 else (bif Nat.ble 47 y then
 (bif Nat.ble 53 y then
 (bif Nat.ble 54 y then
 (bif Nat.beq y 54 then some zi_X8_at else none)
 else (bif Nat.beq y 53 then some zi_X2_isFree else none))
 else (bif Nat.ble 48 y then
 (bif Nat.beq y 48 then some zi_X11_mates else none)
 else (bif Nat.beq y 47 then some zi_X4_pairsThatFitWrong else none)))
 else (bif Nat.ble 45 y then
 (bif Nat.ble 46 y then
 (bif Nat.beq y 46 then some zi_X2_fits else none)
 else (bif Nat.beq y 45 then some zi_X11_connectorAt else none))
 else (bif Nat.ble 44 y then
 (bif Nat.beq y 44 then some zi_Jx4a65c_get_915e3 else none)
 else (bif Nat.beq y 43 then some zi_Jx4a65c_elementData_915e3 else none))))))
 else (bif Nat.ble 18 y then
 (bif Nat.ble 26 y then
 (bif Nat.ble 36 y then
 (bif Nat.ble 38 y then
 (bif Nat.ble 41 y then
 (bif Nat.ble 42 y then
 (bif Nat.beq y 42 then some zi_J15_checkIndex_7cf53 else none)
 else (bif Nat.beq y 41 then some zi_J3_checkIndex_8e157 else none))
 else (bif Nat.beq y 38 then some zi_X11_connector else none))
 else (bif Nat.ble 37 y then
 (bif Nat.beq y 37 then some zi_X4_addConnector else none)
 else (bif Nat.beq y 36 then some zi_X2_init else none)))
 else (bif Nat.ble 28 y then
 (bif Nat.ble 29 y then
 (bif Nat.beq y 29 then some zi_X11_bundle else none)
 else (bif Nat.beq y 28 then some zi_X4_addBundle else none))
 else (bif Nat.ble 27 y then
 (bif Nat.beq y 27 then some zi_Jx4a65c_add_9ea2d else none)
 else (bif Nat.beq y 26 then some zi_Jx4a65c_add_72be8 else none))))
 else (bif Nat.ble 22 y then
 (bif Nat.ble 24 y then
 (bif Nat.ble 25 y then
 (bif Nat.beq y 25 then some zi_Jx4a65c_grow_d5877 else none)
 else (bif Nat.beq y 24 then some zi_Jx4a65c_grow_92f84 else none))
 else (bif Nat.ble 23 y then
 (bif Nat.beq y 23 then some zi_J7_copyOf_1904c else none)
 else (bif Nat.beq y 22 then some zi_J7_copyOf_6403c else none)))
 else (bif Nat.ble 20 y then
 (bif Nat.ble 21 y then
 (bif Nat.beq y 21 then some zi_J9_min_7cf53 else none)
 else (bif Nat.beq y 20 then some zi_J8_newLength_cabcc else none))
 else (bif Nat.ble 19 y then
 (bif Nat.beq y 19 then some zi_J9_max_7cf53 else none)
 else (bif Nat.beq y 18 then some zi_X1_init else none)))))
 else (bif Nat.ble 8 y then
 (bif Nat.ble 13 y then
 (bif Nat.ble 15 y then
 (bif Nat.ble 16 y then
 (bif Nat.ble 17 y then
 (bif Nat.beq y 17 then some zi_X11_checkState else none)
 else (bif Nat.beq y 16 then some zi_Jx4a65c_size_8abf5 else none))
 else (bif Nat.beq y 15 then some zi_X11_checkArgument else none))
 else (bif Nat.ble 14 y then
 (bif Nat.beq y 14 then some zi_X11_isWithin else none)
 else (bif Nat.beq y 13 then some zi_X11_checkIndex else none)))
 else (bif Nat.ble 10 y then
 (bif Nat.ble 12 y then
 (bif Nat.beq y 12 then some zi_X11_isIndex else none)
 else (bif Nat.beq y 10 then some zi_X11_init else none))
 else (bif Nat.ble 9 y then
 (bif Nat.beq y 9 then some zi_X6_init else none)
 else (bif Nat.beq y 8 then some zi_X8_fill else none))))
 else (bif Nat.ble 4 y then
 (bif Nat.ble 6 y then
 (bif Nat.ble 7 y then
 (bif Nat.beq y 7 then some zi_X8_put else none)
 else (bif Nat.beq y 6 then some zi_X3_init else none))
 else (bif Nat.ble 5 y then
 (bif Nat.beq y 5 then some zi_X5_init else none)
 else (bif Nat.beq y 4 then some zi_X4_init else none)))
 else (bif Nat.ble 2 y then
 (bif Nat.ble 3 y then
 (bif Nat.beq y 3 then some zi_X8_init else none)
 else (bif Nat.beq y 2 then some zi_Jx4a65c_init_da8c8 else none))
 else (bif Nat.ble 1 y then
 (bif Nat.beq y 1 then some zi_Jxc12de_init_da8c8 else none)
 else (bif Nat.beq y 0 then some zi_Jxa1e45_init_da8c8 else none)))))))) (bif Nat.ble 103 y then
 (bif Nat.ble 165 y then
 (bif Nat.ble 205 y then
 (bif Nat.ble 214 y then
 (bif Nat.ble 218 y then
 (bif Nat.ble 220 y then
 (bif Nat.ble 221 y then
 (bif Nat.ble 222 y then
 (bif Nat.beq y 222 then zc_L_isTold G pc else s_no)
 else (bif Nat.beq y 221 then zc_L_isBoard G pc else s_no))
 else (bif Nat.beq y 220 then zc_L_soldered G pc else s_no))
 else (bif Nat.ble 219 y then
 (bif Nat.beq y 219 then zc_L_isReel G pc else s_no)
 else (bif Nat.beq y 218 then zc_L_isHarness G pc else s_no)))
 else (bif Nat.ble 216 y then
 (bif Nat.ble 217 y then
 (bif Nat.beq y 217 then zc_L_isSo G pc else s_no)
 else (bif Nat.beq y 216 then zc_L_faults G pc else s_no))
 else (bif Nat.ble 215 y then
 (bif Nat.beq y 215 then zc_L_window G pc else s_no)
 else (bif Nat.beq y 214 then zc_L_gives G pc else s_no))))
 else (bif Nat.ble 209 y then
 (bif Nat.ble 211 y then
 (bif Nat.ble 212 y then
 (bif Nat.ble 213 y then
 (bif Nat.beq y 213 then zc_L_runs G pc else s_no)
 else (bif Nat.beq y 212 then zc_L_wrong G pc else s_no))
 else (bif Nat.beq y 211 then zc_L_weight G pc else s_no))
 else (bif Nat.ble 210 y then
 (bif Nat.beq y 210 then zc_L_way G pc else s_no)
 else (bif Nat.beq y 209 then zc_L_flawed G pc else s_no)))
 else (bif Nat.ble 207 y then
 (bif Nat.ble 208 y then
 (bif Nat.beq y 208 then zc_L_limited G pc else s_no)
 else (bif Nat.beq y 207 then zc_L_does G pc else s_no))
 else (bif Nat.ble 206 y then
 (bif Nat.beq y 206 then zc_L_part G pc else s_no)
 else (bif Nat.beq y 205 then zc_L_law G pc else s_no)))))
 else (bif Nat.ble 181 y then
 (bif Nat.ble 192 y then
 (bif Nat.ble 198 y then
 (bif Nat.ble 201 y then
 (bif Nat.ble 202 y then
 (bif Nat.beq y 202 then zc_X11_recall G pc else s_no)
 else (bif Nat.beq y 201 then zc_X0_hasPartOf G pc else s_no))
 else (bif Nat.beq y 198 then zc_X11_jointAnew G pc else s_no))
 else (bif Nat.ble 195 y then
 (bif Nat.beq y 195 then zc_X11_ofSlot G pc else s_no)
 else (bif Nat.beq y 192 then zc_X11_pass G pc else s_no)))
 else (bif Nat.ble 186 y then
 (bif Nat.ble 189 y then
 (bif Nat.beq y 189 then zc_X11_ship G pc else s_no)
 else (bif Nat.beq y 186 then zc_X11_repair G pc else s_no))
 else (bif Nat.ble 185 y then
 (bif Nat.beq y 185 then zc_X9_mend G pc else s_no)
 else (bif Nat.beq y 181 then zc_X11_test G pc else s_no))))
 else (bif Nat.ble 175 y then
 (bif Nat.ble 179 y then
 (bif Nat.ble 180 y then
 (bif Nat.beq y 180 then zc_X0_faultsFound G pc else s_no)
 else (bif Nat.beq y 179 then zc_X0_findFaults G pc else s_no))
 else (bif Nat.ble 176 y then
 (bif Nat.beq y 176 then zc_X11_cover G pc else s_no)
 else (bif Nat.beq y 175 then zc_J6_bitCount_0f7a4 G pc else s_no)))
 else (bif Nat.ble 167 y then
 (bif Nat.ble 172 y then
 (bif Nat.beq y 172 then zc_X11_flaw G pc else s_no)
 else (bif Nat.beq y 167 then zc_X11_solder G pc else s_no))
 else (bif Nat.ble 166 y then
 (bif Nat.beq y 166 then zc_X0_goThrough G pc else s_no)
 else (bif Nat.beq y 165 then zc_X9_join G pc else s_no))))))
 else (bif Nat.ble 133 y then
 (bif Nat.ble 149 y then
 (bif Nat.ble 160 y then
 (bif Nat.ble 162 y then
 (bif Nat.ble 163 y then
 (bif Nat.ble 164 y then
 (bif Nat.beq y 164 then zc_X9_jointFor G pc else s_no)
 else (bif Nat.beq y 163 then zc_X0_peak G pc else s_no))
 else (bif Nat.beq y 162 then zc_X6_peakOf G pc else s_no))
 else (bif Nat.ble 161 y then
 (bif Nat.beq y 161 then zc_X0_mass G pc else s_no)
 else (bif Nat.beq y 160 then zc_X8_copyFrom G pc else s_no)))
 else (bif Nat.ble 151 y then
 (bif Nat.ble 157 y then
 (bif Nat.beq y 157 then zc_X11_limits G pc else s_no)
 else (bif Nat.beq y 151 then zc_X11_place G pc else s_no))
 else (bif Nat.ble 150 y then
 (bif Nat.beq y 150 then zc_X9_fill G pc else s_no)
 else (bif Nat.beq y 149 then zc_X7_gives G pc else s_no))))
 else (bif Nat.ble 143 y then
 (bif Nat.ble 147 y then
 (bif Nat.ble 148 y then
 (bif Nat.beq y 148 then zc_X9_hasPart G pc else s_no)
 else (bif Nat.beq y 147 then zc_X0_slotAt G pc else s_no))
 else (bif Nat.ble 146 y then
 (bif Nat.beq y 146 then zc_X11_boardAt G pc else s_no)
 else (bif Nat.beq y 143 then zc_X11_board G pc else s_no)))
 else (bif Nat.ble 141 y then
 (bif Nat.ble 142 y then
 (bif Nat.beq y 142 then zc_X0_init G pc else s_no)
 else (bif Nat.beq y 141 then zc_X9_init G pc else s_no))
 else (bif Nat.ble 138 y then
 (bif Nat.beq y 138 then zc_X11_ofReel G pc else s_no)
 else (bif Nat.beq y 133 then zc_X11_open G pc else s_no)))))
 else (bif Nat.ble 117 y then
 (bif Nat.ble 126 y then
 (bif Nat.ble 130 y then
 (bif Nat.ble 131 y then
 (bif Nat.ble 132 y then
 (bif Nat.beq y 132 then zc_X7_clockAt G pc else s_no)
 else (bif Nat.beq y 131 then zc_X7_beginClock G pc else s_no))
 else (bif Nat.beq y 130 then zc_X11_reelAt G pc else s_no))
 else (bif Nat.ble 127 y then
 (bif Nat.beq y 127 then zc_X11_reel G pc else s_no)
 else (bif Nat.beq y 126 then zc_X7_init G pc else s_no)))
 else (bif Nat.ble 119 y then
 (bif Nat.ble 123 y then
 (bif Nat.beq y 123 then zc_X11_crimps G pc else s_no)
 else (bif Nat.beq y 119 then zc_X11_crimp G pc else s_no))
 else (bif Nat.ble 118 y then
 (bif Nat.beq y 118 then zc_X3_judge G pc else s_no)
 else (bif Nat.beq y 117 then zc_J9_abs_0f7a4 G pc else s_no))))
 else (bif Nat.ble 111 y then
 (bif Nat.ble 115 y then
 (bif Nat.ble 116 y then
 (bif Nat.beq y 116 then zc_X3_window G pc else s_no)
 else (bif Nat.beq y 115 then zc_X11_divideDown G pc else s_no))
 else (bif Nat.ble 114 y then
 (bif Nat.beq y 114 then zc_J9_floorDiv_7cf53 G pc else s_no)
 else (bif Nat.beq y 111 then zc_X11_leastAnew G pc else s_no)))
 else (bif Nat.ble 109 y then
 (bif Nat.ble 110 y then
 (bif Nat.beq y 110 then zc_X5_leastByTable G pc else s_no)
 else (bif Nat.beq y 109 then zc_X5_addFamily G pc else s_no))
 else (bif Nat.ble 108 y then
 (bif Nat.beq y 108 then zc_X5_leastWithOneMore G pc else s_no)
 else (bif Nat.beq y 103 then zc_X11_least G pc else s_no)))))))
 else (bif Nat.ble 43 y then
 (bif Nat.ble 64 y then
 (bif Nat.ble 85 y then
 (bif Nat.ble 95 y then
 (bif Nat.ble 99 y then
 (bif Nat.ble 100 y then
 (bif Nat.ble 102 y then
 (bif Nat.beq y 102 then zc_X5_leastByChoice G pc else s_no)
 else (bif Nat.beq y 100 then zc_X5_weighSets G pc else s_no))
 else (bif Nat.beq y 99 then zc_X5_weightAsOne G pc else s_no))
 else (bif Nat.ble 98 y then
 (bif Nat.beq y 98 then zc_X5_allOrders G pc else s_no)
 else (bif Nat.beq y 95 then zc_X11_order G pc else s_no)))
 else (bif Nat.ble 89 y then
 (bif Nat.ble 94 y then
 (bif Nat.beq y 94 then zc_X5_add G pc else s_no)
 else (bif Nat.beq y 89 then zc_X11_weight G pc else s_no))
 else (bif Nat.ble 88 y then
 (bif Nat.beq y 88 then zc_X4_weightOf G pc else s_no)
 else (bif Nat.beq y 85 then zc_X11_ofWire G pc else s_no))))
 else (bif Nat.ble 76 y then
 (bif Nat.ble 78 y then
 (bif Nat.ble 79 y then
 (bif Nat.ble 84 y then
 (bif Nat.beq y 84 then zc_X10_bundleAt G pc else s_no)
 else (bif Nat.beq y 79 then zc_X11_pull G pc else s_no))
 else (bif Nat.beq y 78 then zc_X10_takeOut G pc else s_no))
 else (bif Nat.ble 77 y then
 (bif Nat.beq y 77 then zc_X2_release G pc else s_no)
 else (bif Nat.beq y 76 then zc_X11_wireAt G pc else s_no)))
 else (bif Nat.ble 66 y then
 (bif Nat.ble 67 y then
 (bif Nat.beq y 67 then zc_X11_wire G pc else s_no)
 else (bif Nat.beq y 66 then zc_X4_addWire G pc else s_no))
 else (bif Nat.ble 65 y then
 (bif Nat.beq y 65 then zc_X4_layAlong G pc else s_no)
 else (bif Nat.beq y 64 then zc_X10_goBy G pc else s_no)))))
 else (bif Nat.ble 55 y then
 (bif Nat.ble 59 y then
 (bif Nat.ble 61 y then
 (bif Nat.ble 62 y then
 (bif Nat.ble 63 y then
 (bif Nat.beq y 63 then zc_X4_lowestOnward G pc else s_no)
 else (bif Nat.beq y 62 then zc_X10_putIn G pc else s_no))
 else (bif Nat.beq y 61 then zc_X2_take G pc else s_no))
 else (bif Nat.ble 60 y then
 (bif Nat.beq y 60 then zc_X10_init G pc else s_no)
 else (bif Nat.beq y 59 then zc_X4_hasWay G pc else s_no)))
 else (bif Nat.ble 57 y then
 (bif Nat.ble 58 y then
 (bif Nat.beq y 58 then zc_X4_findCosts G pc else s_no)
 else (bif Nat.beq y 57 then zc_X4_lowerCost G pc else s_no))
 else (bif Nat.ble 56 y then
 (bif Nat.beq y 56 then zc_X1_across G pc else s_no)
 else (bif Nat.beq y 55 then zc_X1_cost G pc else s_no))))
 else (bif Nat.ble 47 y then
 (bif Nat.ble 53 y then
 (bif Nat.ble 54 y then
 (bif Nat.beq y 54 then zc_X8_at G pc else s_no)
 else (bif Nat.beq y 53 then zc_X2_isFree G pc else s_no))
 else (bif Nat.ble 48 y then
 (bif Nat.beq y 48 then zc_X11_mates G pc else s_no)
 else (bif Nat.beq y 47 then zc_X4_pairsThatFitWrong G pc else s_no)))
 else (bif Nat.ble 45 y then
 (bif Nat.ble 46 y then
 (bif Nat.beq y 46 then zc_X2_fits G pc else s_no)
 else (bif Nat.beq y 45 then zc_X11_connectorAt G pc else s_no))
 else (bif Nat.ble 44 y then
 (bif Nat.beq y 44 then zc_Jx4a65c_get_915e3 G pc else s_no)
 else (bif Nat.beq y 43 then zc_Jx4a65c_elementData_915e3 G pc else s_no))))))
 else (bif Nat.ble 18 y then
 (bif Nat.ble 26 y then
 (bif Nat.ble 36 y then
 (bif Nat.ble 38 y then
 (bif Nat.ble 41 y then
 (bif Nat.ble 42 y then
 (bif Nat.beq y 42 then zc_J15_checkIndex_7cf53 G pc else s_no)
 else (bif Nat.beq y 41 then zc_J3_checkIndex_8e157 G pc else s_no))
 else (bif Nat.beq y 38 then zc_X11_connector G pc else s_no))
 else (bif Nat.ble 37 y then
 (bif Nat.beq y 37 then zc_X4_addConnector G pc else s_no)
 else (bif Nat.beq y 36 then zc_X2_init G pc else s_no)))
 else (bif Nat.ble 28 y then
 (bif Nat.ble 29 y then
 (bif Nat.beq y 29 then zc_X11_bundle G pc else s_no)
 else (bif Nat.beq y 28 then zc_X4_addBundle G pc else s_no))
 else (bif Nat.ble 27 y then
 (bif Nat.beq y 27 then zc_Jx4a65c_add_9ea2d G pc else s_no)
 else (bif Nat.beq y 26 then zc_Jx4a65c_add_72be8 G pc else s_no))))
 else (bif Nat.ble 22 y then
 (bif Nat.ble 24 y then
 (bif Nat.ble 25 y then
 (bif Nat.beq y 25 then zc_Jx4a65c_grow_d5877 G pc else s_no)
 else (bif Nat.beq y 24 then zc_Jx4a65c_grow_92f84 G pc else s_no))
 else (bif Nat.ble 23 y then
 (bif Nat.beq y 23 then zc_J7_copyOf_1904c G pc else s_no)
 else (bif Nat.beq y 22 then zc_J7_copyOf_6403c G pc else s_no)))
 else (bif Nat.ble 20 y then
 (bif Nat.ble 21 y then
 (bif Nat.beq y 21 then zc_J9_min_7cf53 G pc else s_no)
 else (bif Nat.beq y 20 then zc_J8_newLength_cabcc G pc else s_no))
 else (bif Nat.ble 19 y then
 (bif Nat.beq y 19 then zc_J9_max_7cf53 G pc else s_no)
 else (bif Nat.beq y 18 then zc_X1_init G pc else s_no)))))
 else (bif Nat.ble 8 y then
 (bif Nat.ble 13 y then
 (bif Nat.ble 15 y then
 (bif Nat.ble 16 y then
 (bif Nat.ble 17 y then
 (bif Nat.beq y 17 then zc_X11_checkState G pc else s_no)
 else (bif Nat.beq y 16 then zc_Jx4a65c_size_8abf5 G pc else s_no))
 else (bif Nat.beq y 15 then zc_X11_checkArgument G pc else s_no))
 else (bif Nat.ble 14 y then
 (bif Nat.beq y 14 then zc_X11_isWithin G pc else s_no)
 else (bif Nat.beq y 13 then zc_X11_checkIndex G pc else s_no)))
 else (bif Nat.ble 10 y then
 (bif Nat.ble 12 y then
 (bif Nat.beq y 12 then zc_X11_isIndex G pc else s_no)
 else (bif Nat.beq y 10 then zc_X11_init G pc else s_no))
 else (bif Nat.ble 9 y then
 (bif Nat.beq y 9 then zc_X6_init G pc else s_no)
 else (bif Nat.beq y 8 then zc_X8_fill G pc else s_no))))
 else (bif Nat.ble 4 y then
 (bif Nat.ble 6 y then
 (bif Nat.ble 7 y then
 (bif Nat.beq y 7 then zc_X8_put G pc else s_no)
 else (bif Nat.beq y 6 then zc_X3_init G pc else s_no))
 else (bif Nat.ble 5 y then
 (bif Nat.beq y 5 then zc_X5_init G pc else s_no)
 else (bif Nat.beq y 4 then zc_X4_init G pc else s_no)))
 else (bif Nat.ble 2 y then
 (bif Nat.ble 3 y then
 (bif Nat.beq y 3 then zc_X8_init G pc else s_no)
 else (bif Nat.beq y 2 then zc_Jx4a65c_init_da8c8 G pc else s_no))
 else (bif Nat.ble 1 y then
 (bif Nat.beq y 1 then zc_Jxc12de_init_da8c8 G pc else s_no)
 else (bif Nat.beq y 0 then zc_Jxa1e45_init_da8c8 G pc else s_no)))))))) pc :=
  (so_d (so_d (so_d (so_d (so_d (so_d (so_d (so_d (so_l (zo_L_isTold l D cA zb G pc))
  (so_l (zo_L_isBoard l D cA zb G pc)))
  (so_l (zo_L_soldered l D cA zb G pc)))
  (so_d (so_l (zo_L_isReel l D cA zb G pc))
  (so_l (zo_L_isHarness l D cA zb G pc))))
  (so_d (so_d (so_l (zo_L_isSo l D cA zb G pc))
  (so_l (zo_L_faults l D cA zb G pc)))
  (so_d (so_l (zo_L_window l D cA zb G pc))
  (so_l (zo_L_gives l D cA zb G pc)))))
  (so_d (so_d (so_d (so_d (so_l (zo_L_runs l D cA zb G pc))
  (so_l (zo_L_wrong l D cA zb G pc)))
  (so_l (zo_L_weight l D cA zb G pc)))
  (so_d (so_l (zo_L_way l D cA zb G pc))
  (so_l (zo_L_flawed l D cA zb G pc))))
  (so_d (so_d (so_l (zo_L_limited l D cA zb G pc))
  (so_l (zo_L_does l D cA zb G pc)))
  (so_d (so_l (zo_L_part l D cA zb G pc))
  (so_l (zo_L_law l D cA zb G pc))))))
  (so_d (so_d (so_d (so_d (so_d (so_l (zo_X11_recall l D cA zb G pc))
  (so_l (zo_X0_hasPartOf l D cA zb G pc)))
  (so_l (zo_X11_jointAnew l D cA zb G pc)))
  (so_d (so_l (zo_X11_ofSlot l D cA zb G pc))
  (so_l (zo_X11_pass l D cA zb G pc))))
  (so_d (so_d (so_l (zo_X11_ship l D cA zb G pc))
  (so_l (zo_X11_repair l D cA zb G pc)))
  (so_d (so_l (zo_X9_mend l D cA zb G pc))
  (so_l (zo_X11_test l D cA zb G pc)))))
  (so_d (so_d (so_d (so_l (zo_X0_faultsFound l D cA zb G pc))
  (so_l (zo_X0_findFaults l D cA zb G pc)))
  (so_d (so_l (zo_X11_cover l D cA zb G pc))
  (so_l (zo_J6_bitCount_0f7a4 l D cA zb G pc))))
  (so_d (so_d (so_l (zo_X11_flaw l D cA zb G pc))
  (so_l (zo_X11_solder l D cA zb G pc)))
  (so_d (so_l (zo_X0_goThrough l D cA zb G pc))
  (so_l (zo_X9_join l D cA zb G pc)))))))
  (so_d (so_d (so_d (so_d (so_d (so_d (so_l (zo_X9_jointFor l D cA zb G pc))
  (so_l (zo_X0_peak l D cA zb G pc)))
  (so_l (zo_X6_peakOf l D cA zb G pc)))
  (so_d (so_l (zo_X0_mass l D cA zb G pc))
  (so_l (zo_X8_copyFrom l D cA zb G pc))))
  (so_d (so_d (so_l (zo_X11_limits l D cA zb G pc))
  (so_l (zo_X11_place l D cA zb G pc)))
  (so_d (so_l (zo_X9_fill l D cA zb G pc))
  (so_l (zo_X7_gives l D cA zb G pc)))))
  (so_d (so_d (so_d (so_l (zo_X9_hasPart l D cA zb G pc))
  (so_l (zo_X0_slotAt l D cA zb G pc)))
  (so_d (so_l (zo_X11_boardAt l D cA zb G pc))
  (so_l (zo_X11_board l D cA zb G pc))))
  (so_d (so_d (so_l (zo_X0_init l D cA zb G pc))
  (so_l (zo_X9_init l D cA zb G pc)))
  (so_d (so_l (zo_X11_ofReel l D cA zb G pc))
  (so_l (zo_X11_open l D cA zb G pc))))))
  (so_d (so_d (so_d (so_d (so_d (so_l (zo_X7_clockAt l D cA zb G pc))
  (so_l (zo_X7_beginClock l D cA zb G pc)))
  (so_l (zo_X11_reelAt l D cA zb G pc)))
  (so_d (so_l (zo_X11_reel l D cA zb G pc))
  (so_l (zo_X7_init l D cA zb G pc))))
  (so_d (so_d (so_l (zo_X11_crimps l D cA zb G pc))
  (so_l (zo_X11_crimp l D cA zb G pc)))
  (so_d (so_l (zo_X3_judge l D cA zb G pc))
  (so_l (zo_J9_abs_0f7a4 l D cA zb G pc)))))
  (so_d (so_d (so_d (so_l (zo_X3_window l D cA zb G pc))
  (so_l (zo_X11_divideDown l D cA zb G pc)))
  (so_d (so_l (zo_J9_floorDiv_7cf53 l D cA zb G pc))
  (so_l (zo_X11_leastAnew l D cA zb G pc))))
  (so_d (so_d (so_l (zo_X5_leastByTable l D cA zb G pc))
  (so_l (zo_X5_addFamily l D cA zb G pc)))
  (so_d (so_l (zo_X5_leastWithOneMore l D cA zb G pc))
  (so_l (zo_X11_least l D cA zb G pc))))))))
  (so_d (so_d (so_d (so_d (so_d (so_d (so_d (so_l (zo_X5_leastByChoice l D cA zb G pc))
  (so_l (zo_X5_weighSets l D cA zb G pc)))
  (so_l (zo_X5_weightAsOne l D cA zb G pc)))
  (so_d (so_l (zo_X5_allOrders l D cA zb G pc))
  (so_l (zo_X11_order l D cA zb G pc))))
  (so_d (so_d (so_l (zo_X5_add l D cA zb G pc))
  (so_l (zo_X11_weight l D cA zb G pc)))
  (so_d (so_l (zo_X4_weightOf l D cA zb G pc))
  (so_l (zo_X11_ofWire l D cA zb G pc)))))
  (so_d (so_d (so_d (so_d (so_l (zo_X10_bundleAt l D cA zb G pc))
  (so_l (zo_X11_pull l D cA zb G pc)))
  (so_l (zo_X10_takeOut l D cA zb G pc)))
  (so_d (so_l (zo_X2_release l D cA zb G pc))
  (so_l (zo_X11_wireAt l D cA zb G pc))))
  (so_d (so_d (so_l (zo_X11_wire l D cA zb G pc))
  (so_l (zo_X4_addWire l D cA zb G pc)))
  (so_d (so_l (zo_X4_layAlong l D cA zb G pc))
  (so_l (zo_X10_goBy l D cA zb G pc))))))
  (so_d (so_d (so_d (so_d (so_d (so_l (zo_X4_lowestOnward l D cA zb G pc))
  (so_l (zo_X10_putIn l D cA zb G pc)))
  (so_l (zo_X2_take l D cA zb G pc)))
  (so_d (so_l (zo_X10_init l D cA zb G pc))
  (so_l (zo_X4_hasWay l D cA zb G pc))))
  (so_d (so_d (so_l (zo_X4_findCosts l D cA zb G pc))
  (so_l (zo_X4_lowerCost l D cA zb G pc)))
  (so_d (so_l (zo_X1_across l D cA zb G pc))
  (so_l (zo_X1_cost l D cA zb G pc)))))
  (so_d (so_d (so_d (so_l (zo_X8_at l D cA zb G pc))
  (so_l (zo_X2_isFree l D cA zb G pc)))
  (so_d (so_l (zo_X11_mates l D cA zb G pc))
  (so_l (zo_X4_pairsThatFitWrong l D cA zb G pc))))
  (so_d (so_d (so_l (zo_X2_fits l D cA zb G pc))
  (so_l (zo_X11_connectorAt l D cA zb G pc)))
  (so_d (so_l (zo_Jx4a65c_get_915e3 l D cA zb G pc))
  (so_l (zo_Jx4a65c_elementData_915e3 l D cA zb G pc)))))))
  (so_d (so_d (so_d (so_d (so_d (so_d (so_l (zo_J15_checkIndex_7cf53 l D cA zb G pc))
  (so_l (zo_J3_checkIndex_8e157 l D cA zb G pc)))
  (so_l (zo_X11_connector l D cA zb G pc)))
  (so_d (so_l (zo_X4_addConnector l D cA zb G pc))
  (so_l (zo_X2_init l D cA zb G pc))))
  (so_d (so_d (so_l (zo_X11_bundle l D cA zb G pc))
  (so_l (zo_X4_addBundle l D cA zb G pc)))
  (so_d (so_l (zo_Jx4a65c_add_9ea2d l D cA zb G pc))
  (so_l (zo_Jx4a65c_add_72be8 l D cA zb G pc)))))
  (so_d (so_d (so_d (so_l (zo_Jx4a65c_grow_d5877 l D cA zb G pc))
  (so_l (zo_Jx4a65c_grow_92f84 l D cA zb G pc)))
  (so_d (so_l (zo_J7_copyOf_1904c l D cA zb G pc))
  (so_l (zo_J7_copyOf_6403c l D cA zb G pc))))
  (so_d (so_d (so_l (zo_J9_min_7cf53 l D cA zb G pc))
  (so_l (zo_J8_newLength_cabcc l D cA zb G pc)))
  (so_d (so_l (zo_J9_max_7cf53 l D cA zb G pc))
  (so_l (zo_X1_init l D cA zb G pc))))))
  (so_d (so_d (so_d (so_d (so_d (so_l (zo_X11_checkState l D cA zb G pc))
  (so_l (zo_Jx4a65c_size_8abf5 l D cA zb G pc)))
  (so_l (zo_X11_checkArgument l D cA zb G pc)))
  (so_d (so_l (zo_X11_isWithin l D cA zb G pc))
  (so_l (zo_X11_checkIndex l D cA zb G pc))))
  (so_d (so_d (so_l (zo_X11_isIndex l D cA zb G pc))
  (so_l (zo_X11_init l D cA zb G pc)))
  (so_d (so_l (zo_X6_init l D cA zb G pc))
  (so_l (zo_X8_fill l D cA zb G pc)))))
  (so_d (so_d (so_d (so_l (zo_X8_put l D cA zb G pc))
  (so_l (zo_X3_init l D cA zb G pc)))
  (so_d (so_l (zo_X5_init l D cA zb G pc))
  (so_l (zo_X4_init l D cA zb G pc))))
  (so_d (so_d (so_l (zo_X8_init l D cA zb G pc))
  (so_l (zo_Jx4a65c_init_da8c8 l D cA zb G pc)))
  (so_d (so_l (zo_Jxc12de_init_da8c8 l D cA zb G pc))
  (so_l (zo_Jxa1e45_init_da8c8 l D cA zb G pc)))))))))
set_option maxRecDepth 20000 in
theorem so_code (y : Nat) : zTr l D cA zb G (zinfo y) (zcode G y pc) pc := by
  by_cases h1 : 1000 ≤ y
  · obtain ⟨d, rfl⟩ := Nat.exists_eq_add_of_le' h1
    intro i hi
    unfold zinfo at hi
    rw [show Nat.ble 999 (d + 1000) = true from Nat.ble_eq_true_of_le (by omega), show d + 1000 - 999 = d + 1 by omega] at hi
    cases hi
    unfold zcode
    rw [show Nat.ble 1000 (d + 1000) = true from Nat.ble_eq_true_of_le (by omega)]
    exact zo_X5_leastOfRest l D cA zb G d pc
  · by_cases h2 : y = 999
    · subst h2
      intro i hi
      exact ok_no
    · unfold zinfo zcode
      rw [show Nat.ble 999 y = false from Bool.eq_false_iff.mpr (fun q => by have := Nat.le_of_ble_eq_true q; omega), show Nat.ble 1000 y = false from Bool.eq_false_iff.mpr (fun q => by have := Nat.le_of_ble_eq_true q; omega)]
      exact so_tree y
/-- a run of the abstract machine is a run of the program -/
theorem so_all : ∀ (y pc : Nat) (ls st : List Value) (w : zW) (r : zO × zW), ev_ G y pc ls st w = some r → zPd l D cA zb G y pc ls st w r :=
  zfix_ind (zcode G) (zcode_mono G) (zPd l D cA zb G) (fun F hF y pc ls st w r h i hi => so_code y i hi F (F y) hF (fun pc ls st w r h => hF y pc ls st w r h i hi) ls st w r h)
end ZJ
